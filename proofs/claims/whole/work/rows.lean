section
-- ===== PART A: goes FIRST, ahead of the names: the tables' words, and 'selects' of the private methods out of them =====
/-- a private method of a class that the tables say can be made, by its rows of tables_1 -/
def lw_okq (q : MethodName × Nat) : Prop := (q.1.cls ≠ "java/lang/invoke/MethodHandle" ∧ q.1.cls ≠ "java/lang/invoke/VarHandle") ∧ Cond.instantiable q.1.cls q.2 ∈ tables_1 ∧ Cond.privateMethod q.1 ∈ tables_1 ∧ Cond.instanceMethod q.1 ∈ tables_1
theorem lw_p0 : lw_okq (⟨"WarmBottles$Text", "readToken", "()V"⟩, 8) := ⟨⟨by decide +kernel, by decide +kernel⟩, List.mem_of_getElem? (i := 22) (by decide +kernel), List.mem_of_getElem? (i := 270) (by decide +kernel), List.mem_of_getElem? (i := 271) (by decide +kernel)⟩
theorem lw_p1 : lw_okq (⟨"WarmBottles$Text", "readDigits", "()V"⟩, 8) := ⟨⟨by decide +kernel, by decide +kernel⟩, List.mem_of_getElem? (i := 22) (by decide +kernel), List.mem_of_getElem? (i := 277) (by decide +kernel), List.mem_of_getElem? (i := 278) (by decide +kernel)⟩
theorem lw_p2 : lw_okq (⟨"WarmBottles$Text", "readItem", "(LWarmBottles$Told;)Z"⟩, 8) := ⟨⟨by decide +kernel, by decide +kernel⟩, List.mem_of_getElem? (i := 22) (by decide +kernel), List.mem_of_getElem? (i := 284) (by decide +kernel), List.mem_of_getElem? (i := 285) (by decide +kernel)⟩
theorem lw_p3 : lw_okq (⟨"WarmBottles$Text", "readBottle", "(LWarmBottles$Told;)Z"⟩, 8) := ⟨⟨by decide +kernel, by decide +kernel⟩, List.mem_of_getElem? (i := 22) (by decide +kernel), List.mem_of_getElem? (i := 288) (by decide +kernel), List.mem_of_getElem? (i := 289) (by decide +kernel)⟩
theorem lw_p4 : lw_okq (⟨"WarmBottles$Text", "readNumber", "(II)Z"⟩, 8) := ⟨⟨by decide +kernel, by decide +kernel⟩, List.mem_of_getElem? (i := 22) (by decide +kernel), List.mem_of_getElem? (i := 292) (by decide +kernel), List.mem_of_getElem? (i := 293) (by decide +kernel)⟩
theorem lw_p5 : lw_okq (⟨"WarmBottles$Text", "readSemicolon", "()Z"⟩, 8) := ⟨⟨by decide +kernel, by decide +kernel⟩, List.mem_of_getElem? (i := 22) (by decide +kernel), List.mem_of_getElem? (i := 296) (by decide +kernel), List.mem_of_getElem? (i := 297) (by decide +kernel)⟩
theorem lw_p6 : lw_okq (⟨"WarmBottles$Text", "readKettle", "(LWarmBottles$Told;)Z"⟩, 8) := ⟨⟨by decide +kernel, by decide +kernel⟩, List.mem_of_getElem? (i := 22) (by decide +kernel), List.mem_of_getElem? (i := 300) (by decide +kernel), List.mem_of_getElem? (i := 301) (by decide +kernel)⟩
theorem lw_p7 : lw_okq (⟨"WarmBottles$Text", "readPint", "(LWarmBottles$Told;)Z"⟩, 8) := ⟨⟨by decide +kernel, by decide +kernel⟩, List.mem_of_getElem? (i := 22) (by decide +kernel), List.mem_of_getElem? (i := 304) (by decide +kernel), List.mem_of_getElem? (i := 305) (by decide +kernel)⟩
theorem lw_p8 : lw_okq (⟨"WarmBottles$Keeping", "lookAtNight", "()V"⟩, 3) := ⟨⟨by decide +kernel, by decide +kernel⟩, List.mem_of_getElem? (i := 205) (by decide +kernel), List.mem_of_getElem? (i := 427) (by decide +kernel), List.mem_of_getElem? (i := 428) (by decide +kernel)⟩
theorem lw_p9 : lw_okq (⟨"WarmBottles$Keeping", "mostFrom", "(II)I"⟩, 3) := ⟨⟨by decide +kernel, by decide +kernel⟩, List.mem_of_getElem? (i := 205) (by decide +kernel), List.mem_of_getElem? (i := 432) (by decide +kernel), List.mem_of_getElem? (i := 433) (by decide +kernel)⟩
theorem lw_p10 : lw_okq (⟨"WarmBottles$Keeping", "mostByFilling", "(III)I"⟩, 3) := ⟨⟨by decide +kernel, by decide +kernel⟩, List.mem_of_getElem? (i := 205) (by decide +kernel), List.mem_of_getElem? (i := 436) (by decide +kernel), List.mem_of_getElem? (i := 437) (by decide +kernel)⟩
theorem lw_p11 : lw_okq (⟨"WarmBottles$Keeping", "staysWarmByFilling", "(II)Z"⟩, 3) := ⟨⟨by decide +kernel, by decide +kernel⟩, List.mem_of_getElem? (i := 205) (by decide +kernel), List.mem_of_getElem? (i := 440) (by decide +kernel), List.mem_of_getElem? (i := 441) (by decide +kernel)⟩
theorem lw_p12 : lw_okq (⟨"WarmBottles$Heard", "fits", "(LWarmBottles$Night;I)Z"⟩, 3) := ⟨⟨by decide +kernel, by decide +kernel⟩, List.mem_of_getElem? (i := 187) (by decide +kernel), List.mem_of_getElem? (i := 491) (by decide +kernel), List.mem_of_getElem? (i := 492) (by decide +kernel)⟩
theorem lw_p13 : lw_okq (⟨"WarmBottles", "asBottle", "(I)I"⟩, 9) := ⟨⟨by decide +kernel, by decide +kernel⟩, List.mem_of_getElem? (i := 14) (by decide +kernel), List.mem_of_getElem? (i := 516) (by decide +kernel), List.mem_of_getElem? (i := 517) (by decide +kernel)⟩
theorem lw_p14 : lw_okq (⟨"WarmBottles", "asBosun", "(I)I"⟩, 9) := ⟨⟨by decide +kernel, by decide +kernel⟩, List.mem_of_getElem? (i := 14) (by decide +kernel), List.mem_of_getElem? (i := 520) (by decide +kernel), List.mem_of_getElem? (i := 521) (by decide +kernel)⟩
theorem lw_p15 : lw_okq (⟨"WarmBottles", "asCook", "(I)I"⟩, 9) := ⟨⟨by decide +kernel, by decide +kernel⟩, List.mem_of_getElem? (i := 14) (by decide +kernel), List.mem_of_getElem? (i := 525) (by decide +kernel), List.mem_of_getElem? (i := 526) (by decide +kernel)⟩
def lw_privs_1 : List (MethodName × Nat) := [(⟨"WarmBottles$Text", "readToken", "()V"⟩, 8), (⟨"WarmBottles$Text", "readDigits", "()V"⟩, 8), (⟨"WarmBottles$Text", "readItem", "(LWarmBottles$Told;)Z"⟩, 8), (⟨"WarmBottles$Text", "readBottle", "(LWarmBottles$Told;)Z"⟩, 8), (⟨"WarmBottles$Text", "readNumber", "(II)Z"⟩, 8), (⟨"WarmBottles$Text", "readSemicolon", "()Z"⟩, 8), (⟨"WarmBottles$Text", "readKettle", "(LWarmBottles$Told;)Z"⟩, 8), (⟨"WarmBottles$Text", "readPint", "(LWarmBottles$Told;)Z"⟩, 8), (⟨"WarmBottles$Keeping", "lookAtNight", "()V"⟩, 3), (⟨"WarmBottles$Keeping", "mostFrom", "(II)I"⟩, 3), (⟨"WarmBottles$Keeping", "mostByFilling", "(III)I"⟩, 3), (⟨"WarmBottles$Keeping", "staysWarmByFilling", "(II)Z"⟩, 3), (⟨"WarmBottles$Heard", "fits", "(LWarmBottles$Night;I)Z"⟩, 3), (⟨"WarmBottles", "asBottle", "(I)I"⟩, 9), (⟨"WarmBottles", "asBosun", "(I)I"⟩, 9), (⟨"WarmBottles", "asCook", "(I)I"⟩, 9)]
theorem lw_r1 : ∀ q ∈ lw_privs_1, lw_okq q := List.forall_mem_cons.mpr ⟨lw_p0, List.forall_mem_cons.mpr ⟨lw_p1, List.forall_mem_cons.mpr ⟨lw_p2, List.forall_mem_cons.mpr ⟨lw_p3, List.forall_mem_cons.mpr ⟨lw_p4, List.forall_mem_cons.mpr ⟨lw_p5, List.forall_mem_cons.mpr ⟨lw_p6, List.forall_mem_cons.mpr ⟨lw_p7, List.forall_mem_cons.mpr ⟨lw_p8, List.forall_mem_cons.mpr ⟨lw_p9, List.forall_mem_cons.mpr ⟨lw_p10, List.forall_mem_cons.mpr ⟨lw_p11, List.forall_mem_cons.mpr ⟨lw_p12, List.forall_mem_cons.mpr ⟨lw_p13, List.forall_mem_cons.mpr ⟨lw_p14, List.forall_mem_cons.mpr ⟨lw_p15, fun _ h => absurd h List.not_mem_nil⟩⟩⟩⟩⟩⟩⟩⟩⟩⟩⟩⟩⟩⟩⟩⟩
theorem lw_p16 : lw_okq (⟨"WarmBottles", "asMate", "(I)I"⟩, 9) := ⟨⟨by decide +kernel, by decide +kernel⟩, List.mem_of_getElem? (i := 14) (by decide +kernel), List.mem_of_getElem? (i := 530) (by decide +kernel), List.mem_of_getElem? (i := 531) (by decide +kernel)⟩
theorem lw_p17 : lw_okq (⟨"WarmBottles", "asStoker", "(I)I"⟩, 9) := ⟨⟨by decide +kernel, by decide +kernel⟩, List.mem_of_getElem? (i := 14) (by decide +kernel), List.mem_of_getElem? (i := 535) (by decide +kernel), List.mem_of_getElem? (i := 536) (by decide +kernel)⟩
theorem lw_p18 : lw_okq (⟨"WarmBottles", "asMatron", "(I)I"⟩, 9) := ⟨⟨by decide +kernel, by decide +kernel⟩, List.mem_of_getElem? (i := 14) (by decide +kernel), List.mem_of_getElem? (i := 540) (by decide +kernel), List.mem_of_getElem? (i := 541) (by decide +kernel)⟩
theorem lw_p19 : lw_okq (⟨"WarmBottlesModel", "reads", "()Z"⟩, 19) := ⟨⟨by decide +kernel, by decide +kernel⟩, List.mem_of_getElem? (i := 563) (by decide +kernel), List.mem_of_getElem? (i := 569) (by decide +kernel), List.mem_of_getElem? (i := 570) (by decide +kernel)⟩
theorem lw_p20 : lw_okq (⟨"WarmBottlesModel", "token", "()V"⟩, 19) := ⟨⟨by decide +kernel, by decide +kernel⟩, List.mem_of_getElem? (i := 563) (by decide +kernel), List.mem_of_getElem? (i := 573) (by decide +kernel), List.mem_of_getElem? (i := 574) (by decide +kernel)⟩
theorem lw_p21 : lw_okq (⟨"WarmBottlesModel", "letterAt", "(I)I"⟩, 19) := ⟨⟨by decide +kernel, by decide +kernel⟩, List.mem_of_getElem? (i := 563) (by decide +kernel), List.mem_of_getElem? (i := 577) (by decide +kernel), List.mem_of_getElem? (i := 578) (by decide +kernel)⟩
theorem lw_p22 : lw_okq (⟨"WarmBottlesModel", "readsItem", "()Z"⟩, 19) := ⟨⟨by decide +kernel, by decide +kernel⟩, List.mem_of_getElem? (i := 563) (by decide +kernel), List.mem_of_getElem? (i := 587) (by decide +kernel), List.mem_of_getElem? (i := 588) (by decide +kernel)⟩
theorem lw_p23 : lw_okq (⟨"WarmBottlesModel", "number", "(III)Z"⟩, 19) := ⟨⟨by decide +kernel, by decide +kernel⟩, List.mem_of_getElem? (i := 563) (by decide +kernel), List.mem_of_getElem? (i := 591) (by decide +kernel), List.mem_of_getElem? (i := 592) (by decide +kernel)⟩
theorem lw_p24 : lw_okq (⟨"WarmBottlesModel", "once", "(IIII)Z"⟩, 19) := ⟨⟨by decide +kernel, by decide +kernel⟩, List.mem_of_getElem? (i := 563) (by decide +kernel), List.mem_of_getElem? (i := 595) (by decide +kernel), List.mem_of_getElem? (i := 596) (by decide +kernel)⟩
theorem lw_p25 : lw_okq (⟨"WarmBottlesModel", "begins", "()V"⟩, 19) := ⟨⟨by decide +kernel, by decide +kernel⟩, List.mem_of_getElem? (i := 563) (by decide +kernel), List.mem_of_getElem? (i := 599) (by decide +kernel), List.mem_of_getElem? (i := 600) (by decide +kernel)⟩
theorem lw_p26 : lw_okq (⟨"WarmBottlesModel", "isBottle", "(I)Z"⟩, 19) := ⟨⟨by decide +kernel, by decide +kernel⟩, List.mem_of_getElem? (i := 563) (by decide +kernel), List.mem_of_getElem? (i := 677) (by decide +kernel), List.mem_of_getElem? (i := 678) (by decide +kernel)⟩
theorem lw_p27 : lw_okq (⟨"WarmBottlesModel", "soundOf", "(II)I"⟩, 19) := ⟨⟨by decide +kernel, by decide +kernel⟩, List.mem_of_getElem? (i := 563) (by decide +kernel), List.mem_of_getElem? (i := 681) (by decide +kernel), List.mem_of_getElem? (i := 682) (by decide +kernel)⟩
theorem lw_p28 : lw_okq (⟨"WarmBottlesModel", "lasts", "(I)I"⟩, 19) := ⟨⟨by decide +kernel, by decide +kernel⟩, List.mem_of_getElem? (i := 563) (by decide +kernel), List.mem_of_getElem? (i := 685) (by decide +kernel), List.mem_of_getElem? (i := 686) (by decide +kernel)⟩
theorem lw_p29 : lw_okq (⟨"WarmBottlesModel", "cools", "(II)I"⟩, 19) := ⟨⟨by decide +kernel, by decide +kernel⟩, List.mem_of_getElem? (i := 563) (by decide +kernel), List.mem_of_getElem? (i := 689) (by decide +kernel), List.mem_of_getElem? (i := 690) (by decide +kernel)⟩
theorem lw_p30 : lw_okq (⟨"WarmBottlesModel", "allLast", "()I"⟩, 19) := ⟨⟨by decide +kernel, by decide +kernel⟩, List.mem_of_getElem? (i := 563) (by decide +kernel), List.mem_of_getElem? (i := 697) (by decide +kernel), List.mem_of_getElem? (i := 698) (by decide +kernel)⟩
theorem lw_p31 : lw_okq (⟨"WarmBottlesModel", "manyWarm", "()I"⟩, 19) := ⟨⟨by decide +kernel, by decide +kernel⟩, List.mem_of_getElem? (i := 563) (by decide +kernel), List.mem_of_getElem? (i := 701) (by decide +kernel), List.mem_of_getElem? (i := 702) (by decide +kernel)⟩
def lw_privs_2 : List (MethodName × Nat) := [(⟨"WarmBottles", "asMate", "(I)I"⟩, 9), (⟨"WarmBottles", "asStoker", "(I)I"⟩, 9), (⟨"WarmBottles", "asMatron", "(I)I"⟩, 9), (⟨"WarmBottlesModel", "reads", "()Z"⟩, 19), (⟨"WarmBottlesModel", "token", "()V"⟩, 19), (⟨"WarmBottlesModel", "letterAt", "(I)I"⟩, 19), (⟨"WarmBottlesModel", "readsItem", "()Z"⟩, 19), (⟨"WarmBottlesModel", "number", "(III)Z"⟩, 19), (⟨"WarmBottlesModel", "once", "(IIII)Z"⟩, 19), (⟨"WarmBottlesModel", "begins", "()V"⟩, 19), (⟨"WarmBottlesModel", "isBottle", "(I)Z"⟩, 19), (⟨"WarmBottlesModel", "soundOf", "(II)I"⟩, 19), (⟨"WarmBottlesModel", "lasts", "(I)I"⟩, 19), (⟨"WarmBottlesModel", "cools", "(II)I"⟩, 19), (⟨"WarmBottlesModel", "allLast", "()I"⟩, 19), (⟨"WarmBottlesModel", "manyWarm", "()I"⟩, 19)]
theorem lw_r2 : ∀ q ∈ lw_privs_2, lw_okq q := List.forall_mem_cons.mpr ⟨lw_p16, List.forall_mem_cons.mpr ⟨lw_p17, List.forall_mem_cons.mpr ⟨lw_p18, List.forall_mem_cons.mpr ⟨lw_p19, List.forall_mem_cons.mpr ⟨lw_p20, List.forall_mem_cons.mpr ⟨lw_p21, List.forall_mem_cons.mpr ⟨lw_p22, List.forall_mem_cons.mpr ⟨lw_p23, List.forall_mem_cons.mpr ⟨lw_p24, List.forall_mem_cons.mpr ⟨lw_p25, List.forall_mem_cons.mpr ⟨lw_p26, List.forall_mem_cons.mpr ⟨lw_p27, List.forall_mem_cons.mpr ⟨lw_p28, List.forall_mem_cons.mpr ⟨lw_p29, List.forall_mem_cons.mpr ⟨lw_p30, List.forall_mem_cons.mpr ⟨lw_p31, fun _ h => absurd h List.not_mem_nil⟩⟩⟩⟩⟩⟩⟩⟩⟩⟩⟩⟩⟩⟩⟩⟩
theorem lw_p32 : lw_okq (⟨"WarmBottlesModel", "keeps", "()V"⟩, 19) := ⟨⟨by decide +kernel, by decide +kernel⟩, List.mem_of_getElem? (i := 563) (by decide +kernel), List.mem_of_getElem? (i := 709) (by decide +kernel), List.mem_of_getElem? (i := 710) (by decide +kernel)⟩
theorem lw_p33 : lw_okq (⟨"WarmBottlesModel", "passes", "()V"⟩, 19) := ⟨⟨by decide +kernel, by decide +kernel⟩, List.mem_of_getElem? (i := 563) (by decide +kernel), List.mem_of_getElem? (i := 713) (by decide +kernel), List.mem_of_getElem? (i := 714) (by decide +kernel)⟩
theorem lw_p34 : lw_okq (⟨"WarmBottlesModel", "filled", "(II)I"⟩, 19) := ⟨⟨by decide +kernel, by decide +kernel⟩, List.mem_of_getElem? (i := 563) (by decide +kernel), List.mem_of_getElem? (i := 724) (by decide +kernel), List.mem_of_getElem? (i := 725) (by decide +kernel)⟩
theorem lw_p35 : lw_okq (⟨"WarmBottlesModel", "pints", "(II)I"⟩, 19) := ⟨⟨by decide +kernel, by decide +kernel⟩, List.mem_of_getElem? (i := 563) (by decide +kernel), List.mem_of_getElem? (i := 752) (by decide +kernel), List.mem_of_getElem? (i := 753) (by decide +kernel)⟩
theorem lw_p36 : lw_okq (⟨"WarmBottlesModel", "holds", "()V"⟩, 19) := ⟨⟨by decide +kernel, by decide +kernel⟩, List.mem_of_getElem? (i := 563) (by decide +kernel), List.mem_of_getElem? (i := 760) (by decide +kernel), List.mem_of_getElem? (i := 761) (by decide +kernel)⟩
theorem lw_p37 : lw_okq (⟨"WarmBottlesModel", "keptBy", "(I)I"⟩, 19) := ⟨⟨by decide +kernel, by decide +kernel⟩, List.mem_of_getElem? (i := 563) (by decide +kernel), List.mem_of_getElem? (i := 764) (by decide +kernel), List.mem_of_getElem? (i := 765) (by decide +kernel)⟩
theorem lw_p38 : lw_okq (⟨"WarmBottlesModel", "lets", "()V"⟩, 19) := ⟨⟨by decide +kernel, by decide +kernel⟩, List.mem_of_getElem? (i := 563) (by decide +kernel), List.mem_of_getElem? (i := 768) (by decide +kernel), List.mem_of_getElem? (i := 769) (by decide +kernel)⟩
theorem lw_p39 : lw_okq (⟨"WarmBottlesModel", "isWay", "(I)Z"⟩, 19) := ⟨⟨by decide +kernel, by decide +kernel⟩, List.mem_of_getElem? (i := 563) (by decide +kernel), List.mem_of_getElem? (i := 776) (by decide +kernel), List.mem_of_getElem? (i := 777) (by decide +kernel)⟩
theorem lw_p40 : lw_okq (⟨"WarmBottlesModel", "whoNow", "()I"⟩, 19) := ⟨⟨by decide +kernel, by decide +kernel⟩, List.mem_of_getElem? (i := 563) (by decide +kernel), List.mem_of_getElem? (i := 796) (by decide +kernel), List.mem_of_getElem? (i := 797) (by decide +kernel)⟩
theorem lw_p41 : lw_okq (⟨"WarmBottlesModel", "soundIn", "(II)I"⟩, 19) := ⟨⟨by decide +kernel, by decide +kernel⟩, List.mem_of_getElem? (i := 563) (by decide +kernel), List.mem_of_getElem? (i := 800) (by decide +kernel), List.mem_of_getElem? (i := 801) (by decide +kernel)⟩
def lw_privs_3 : List (MethodName × Nat) := [(⟨"WarmBottlesModel", "keeps", "()V"⟩, 19), (⟨"WarmBottlesModel", "passes", "()V"⟩, 19), (⟨"WarmBottlesModel", "filled", "(II)I"⟩, 19), (⟨"WarmBottlesModel", "pints", "(II)I"⟩, 19), (⟨"WarmBottlesModel", "holds", "()V"⟩, 19), (⟨"WarmBottlesModel", "keptBy", "(I)I"⟩, 19), (⟨"WarmBottlesModel", "lets", "()V"⟩, 19), (⟨"WarmBottlesModel", "isWay", "(I)Z"⟩, 19), (⟨"WarmBottlesModel", "whoNow", "()I"⟩, 19), (⟨"WarmBottlesModel", "soundIn", "(II)I"⟩, 19)]
theorem lw_r3 : ∀ q ∈ lw_privs_3, lw_okq q := List.forall_mem_cons.mpr ⟨lw_p32, List.forall_mem_cons.mpr ⟨lw_p33, List.forall_mem_cons.mpr ⟨lw_p34, List.forall_mem_cons.mpr ⟨lw_p35, List.forall_mem_cons.mpr ⟨lw_p36, List.forall_mem_cons.mpr ⟨lw_p37, List.forall_mem_cons.mpr ⟨lw_p38, List.forall_mem_cons.mpr ⟨lw_p39, List.forall_mem_cons.mpr ⟨lw_p40, List.forall_mem_cons.mpr ⟨lw_p41, fun _ h => absurd h List.not_mem_nil⟩⟩⟩⟩⟩⟩⟩⟩⟩⟩
def lw_privs : List (MethodName × Nat) := lw_privs_1 ++ (lw_privs_2 ++ (lw_privs_3))
def lw_tbl : List Cond := k2_sels lw_privs ++ tables_1
theorem lw_privs_ok : ∀ q ∈ lw_privs, lw_okq q := by
  show ∀ q ∈ lw_privs_1 ++ (lw_privs_2 ++ (lw_privs_3)), lw_okq q
  exact List.forall_mem_append.mpr ⟨lw_r1, List.forall_mem_append.mpr ⟨lw_r2, lw_r3⟩⟩
-- ===== end of PART A; then your names; then what follows =====
end
section
/-! ===== BEGIN words of one list among another's, by their places ===== -/
theorem goodIn_r {big : List Cond} (ws : List Cond) (ps : List Nat) (hp : ws = ps.filterMap (fun i => big[i]?)) (h : ws.all goodWord = true) : GoodIn big ws := by
  intro w hw
  have h1 := List.all_eq_true.mp h w hw
  rw [hp] at hw
  obtain ⟨i, -, hi⟩ := List.mem_filterMap.mp hw
  have hm : w ∈ big := by first | exact List.mem_of_getElem? hi | exact List.getElem?_mem hi
  exact ⟨hm, good_of_word h1⟩
theorem goodIn_app {big a b : List Cond} (ha : GoodIn big a) (hb : GoodIn big b) : GoodIn big (a ++ b) := fun w h => (List.mem_append.mp h).elim (ha w) (hb w)
theorem goodIn_ca {big a b : List Cond} {c : Cond} (ha : GoodIn big (c :: a)) (hb : GoodIn big b) : GoodIn big (c :: (a ++ b)) := fun w h => (List.mem_cons.mp h).elim (fun e => ha w (List.mem_cons.mpr (Or.inl e))) (fun h => (List.mem_append.mp h).elim (fun h => ha w (List.mem_cons.mpr (Or.inr h))) (hb w))
theorem goodIn_sub {big ws : List Cond} (hm : ∀ w ∈ ws, w ∈ big) (h : ws.all goodWord = true) : GoodIn big ws := fun w hw => ⟨hm w hw, good_of_word (List.all_eq_true.mp h w hw)⟩
/-! ===== END ===== -/

/-! ===== BEGIN printed: names, fields, word lists, decode rows ===== -/
def RX0 : String := "WarmBottles$Copies"
def TX0 : u_T := fun k => match k with
  | 0 => ("WarmBottles$Copies", "slots", "I", true)
  | _ => ("WarmBottles$Copies", "cells", "[I", true)
def tyX0 : Nat → FieldType := fun k => match k with
  | 0 => .int
  | _ => .array .int
abbrev wsX00 : List Cond := u_ws RX0 TX0 2
theorem nmX0 : ∀ a, a < 2 → ∀ b, b < 2 → a ≠ b → (TX0 a).2.1 ≠ (TX0 b).2.1 := by decide +kernel
theorem tyX0_ok : ∀ k, k < 2 → parseFieldDescriptor (TX0 k).2.2.1 = some (tyX0 k) := by decide +kernel
abbrev cX0_init : ByteArray := prog_2_method_1_code
def yX0_init : MethodName := ⟨RX0, "<init>", "(I)V"⟩
abbrev cX0_put : ByteArray := prog_2_method_2_code
def yX0_put : MethodName := ⟨RX0, "put", "(ILWarmBottles$Night;)V"⟩
abbrev cX0_take : ByteArray := prog_2_method_3_code
def yX0_take : MethodName := ⟨RX0, "take", "(ILWarmBottles$Night;)V"⟩
def RX1 : String := "WarmBottles$Heard"
def TX1 : u_T := fun k => match k with
  | 0 => ("WarmBottles$Heard", "hours", "[I", true)
  | 1 => ("WarmBottles$Heard", "sounds", "[I", true)
  | _ => ("WarmBottles$Heard", "number", "I", false)
def tyX1 : Nat → FieldType := fun k => match k with
  | 0 => .array .int
  | 1 => .array .int
  | _ => .int
abbrev wsX10 : List Cond := u_ws RX1 TX1 3
theorem nmX1 : ∀ a, a < 3 → ∀ b, b < 3 → a ≠ b → (TX1 a).2.1 ≠ (TX1 b).2.1 := by decide +kernel
theorem tyX1_ok : ∀ k, k < 3 → parseFieldDescriptor (TX1 k).2.2.1 = some (tyX1 k) := by decide +kernel
abbrev cX1_init : ByteArray := prog_3_method_1_code
def yX1_init : MethodName := ⟨RX1, "<init>", "()V"⟩
abbrev cX1_add : ByteArray := prog_3_method_2_code
def yX1_add : MethodName := ⟨RX1, "add", "(II)V"⟩
abbrev cX1_whoFits : ByteArray := prog_3_method_3_code
def yX1_whoFits : MethodName := ⟨RX1, "whoFits", "(LWarmBottles$Night;)I"⟩
abbrev cX1_fits : ByteArray := prog_3_method_4_code
def yX1_fits : MethodName := ⟨RX1, "fits", "(LWarmBottles$Night;I)Z"⟩
def RX2 : String := "WarmBottles$Keeping"
def TX2 : u_T := fun k => match k with
  | 0 => ("WarmBottles$Keeping", "night", "LWarmBottles$Night;", true)
  | 1 => ("WarmBottles$Keeping", "loss", "[I", true)
  | _ => ("WarmBottles$Keeping", "warm", "[I", true)
def tyX2 : Nat → FieldType := fun k => match k with
  | 0 => .object "WarmBottles$Night"
  | 1 => .array .int
  | _ => .array .int
abbrev wsX20 : List Cond := u_ws RX2 TX2 3
theorem nmX2 : ∀ a, a < 3 → ∀ b, b < 3 → a ≠ b → (TX2 a).2.1 ≠ (TX2 b).2.1 := by decide +kernel
theorem tyX2_ok : ∀ k, k < 3 → parseFieldDescriptor (TX2 k).2.2.1 = some (tyX2 k) := by decide +kernel
abbrev cX2_init : ByteArray := prog_4_method_1_code
def yX2_init : MethodName := ⟨RX2, "<init>", "(LWarmBottles$Night;)V"⟩
abbrev cX2_mostHours : ByteArray := prog_4_method_2_code
def yX2_mostHours : MethodName := ⟨RX2, "mostHours", "()I"⟩
abbrev cX2_first : ByteArray := prog_4_method_3_code
def yX2_first : MethodName := ⟨RX2, "first", "()I"⟩
abbrev cX2_lookAtNight : ByteArray := prog_4_method_4_code
def yX2_lookAtNight : MethodName := ⟨RX2, "lookAtNight", "()V"⟩
abbrev cX2_mostFrom : ByteArray := prog_4_method_5_code
def yX2_mostFrom : MethodName := ⟨RX2, "mostFrom", "(II)I"⟩
abbrev cX2_mostByFilling : ByteArray := prog_4_method_6_code
def yX2_mostByFilling : MethodName := ⟨RX2, "mostByFilling", "(III)I"⟩
abbrev cX2_staysWarmByFilling : ByteArray := prog_4_method_7_code
def yX2_staysWarmByFilling : MethodName := ⟨RX2, "staysWarmByFilling", "(II)Z"⟩
def RX3 : String := "WarmBottles$Night"
def TX3 : u_T := fun k => match k with
  | 0 => ("WarmBottles$Night", "told", "LWarmBottles$Told;", true)
  | 1 => ("WarmBottles$Night", "warm", "[I", true)
  | 2 => ("WarmBottles$Night", "bed", "[I", true)
  | 3 => ("WarmBottles$Night", "hour", "I", false)
  | 4 => ("WarmBottles$Night", "frost", "I", false)
  | _ => ("WarmBottles$Night", "kettle", "I", false)
def tyX3 : Nat → FieldType := fun k => match k with
  | 0 => .object "WarmBottles$Told"
  | 1 => .array .int
  | 2 => .array .int
  | 3 => .int
  | 4 => .int
  | _ => .int
abbrev wsX30 : List Cond := u_ws RX3 TX3 6
theorem nmX3 : ∀ a, a < 6 → ∀ b, b < 6 → a ≠ b → (TX3 a).2.1 ≠ (TX3 b).2.1 := by decide +kernel
theorem tyX3_ok : ∀ k, k < 6 → parseFieldDescriptor (TX3 k).2.2.1 = some (tyX3 k) := by decide +kernel
abbrev cX3_init : ByteArray := prog_5_method_1_code
def yX3_init : MethodName := ⟨RX3, "<init>", "()V"⟩
abbrev cX3_begin : ByteArray := prog_5_method_2_code
def yX3_begin : MethodName := ⟨RX3, "begin", "()V"⟩
abbrev cX3_has : ByteArray := prog_5_method_3_code
def yX3_has : MethodName := ⟨RX3, "has", "(I)Z"⟩
abbrev cX3_numberWarm : ByteArray := prog_5_method_4_code
def yX3_numberWarm : MethodName := ⟨RX3, "numberWarm", "()I"⟩
abbrev cX3_letHourPass : ByteArray := prog_5_method_5_code
def yX3_letHourPass : MethodName := ⟨RX3, "letHourPass", "()V"⟩
abbrev cX3_warmBy : ByteArray := prog_5_method_6_code
def yX3_warmBy : MethodName := ⟨RX3, "warmBy", "(II)I"⟩
abbrev cX3_loss : ByteArray := prog_5_method_7_code
def yX3_loss : MethodName := ⟨RX3, "loss", "(I[II)I"⟩
abbrev cX3_lasts : ByteArray := prog_5_method_8_code
def yX3_lasts : MethodName := ⟨RX3, "lasts", "(I[I)I"⟩
abbrev cX3_allLast : ByteArray := prog_5_method_9_code
def yX3_allLast : MethodName := ⟨RX3, "allLast", "([I)I"⟩
abbrev cX3_soundIn : ByteArray := prog_5_method_10_code
def yX3_soundIn : MethodName := ⟨RX3, "soundIn", "(II)I"⟩
abbrev cX3_mostOfOneSound : ByteArray := prog_5_method_11_code
def yX3_mostOfOneSound : MethodName := ⟨RX3, "mostOfOneSound", "(II)I"⟩
abbrev cX3_pintsOf : ByteArray := prog_5_method_12_code
def yX3_pintsOf : MethodName := ⟨RX3, "pintsOf", "(II)I"⟩
abbrev cX3_pintsOfAll : ByteArray := prog_5_method_13_code
def yX3_pintsOfAll : MethodName := ⟨RX3, "pintsOfAll", "(I)I"⟩
abbrev cX3_waysStillWarm : ByteArray := prog_5_method_14_code
def yX3_waysStillWarm : MethodName := ⟨RX3, "waysStillWarm", "(III)I"⟩
abbrev cX3_waysFrom : ByteArray := prog_5_method_15_code
def yX3_waysFrom : MethodName := ⟨RX3, "waysFrom", "(IIIII)I"⟩
def RX4 : String := "WarmBottles$Past"
def TX4 : u_T := fun k => match k with
  | 0 => ("WarmBottles$Past", "copies", "LWarmBottles$Copies;", true)
  | 1 => ("WarmBottles$Past", "next", "I", false)
  | _ => ("WarmBottles$Past", "known", "I", false)
def tyX4 : Nat → FieldType := fun k => match k with
  | 0 => .object "WarmBottles$Copies"
  | 1 => .int
  | _ => .int
abbrev wsX40 : List Cond := u_ws RX4 TX4 3
theorem nmX4 : ∀ a, a < 3 → ∀ b, b < 3 → a ≠ b → (TX4 a).2.1 ≠ (TX4 b).2.1 := by decide +kernel
theorem tyX4_ok : ∀ k, k < 3 → parseFieldDescriptor (TX4 k).2.2.1 = some (tyX4 k) := by decide +kernel
abbrev cX4_init : ByteArray := prog_6_method_1_code
def yX4_init : MethodName := ⟨RX4, "<init>", "()V"⟩
abbrev cX4_remember : ByteArray := prog_6_method_2_code
def yX4_remember : MethodName := ⟨RX4, "remember", "(LWarmBottles$Night;)V"⟩
abbrev cX4_takeLatest : ByteArray := prog_6_method_3_code
def yX4_takeLatest : MethodName := ⟨RX4, "takeLatest", "(LWarmBottles$Night;)V"⟩
def RX5 : String := "WarmBottles$Text"
def TX5 : u_T := fun k => match k with
  | 0 => ("WarmBottles$Text", "letters", "[C", true)
  | 1 => ("WarmBottles$Text", "length", "I", false)
  | 2 => ("WarmBottles$Text", "place", "I", false)
  | 3 => ("WarmBottles$Text", "start", "I", false)
  | 4 => ("WarmBottles$Text", "token", "I", false)
  | 5 => ("WarmBottles$Text", "value", "I", false)
  | 6 => ("WarmBottles$Text", "kettleTold", "Z", false)
  | _ => ("WarmBottles$Text", "pintTold", "Z", false)
def tyX5 : Nat → FieldType := fun k => match k with
  | 0 => .array .char
  | 1 => .int
  | 2 => .int
  | 3 => .int
  | 4 => .int
  | 5 => .int
  | 6 => .boolean
  | _ => .boolean
abbrev wsX50 : List Cond := u_ws RX5 TX5 8
theorem nmX5 : ∀ a, a < 8 → ∀ b, b < 8 → a ≠ b → (TX5 a).2.1 ≠ (TX5 b).2.1 := by decide +kernel
theorem tyX5_ok : ∀ k, k < 8 → parseFieldDescriptor (TX5 k).2.2.1 = some (tyX5 k) := by decide +kernel
abbrev cX5_init : ByteArray := prog_7_method_1_code
def yX5_init : MethodName := ⟨RX5, "<init>", "()V"⟩
abbrev cX5_append : ByteArray := prog_7_method_2_code
def yX5_append : MethodName := ⟨RX5, "append", "(C)V"⟩
abbrev cX5_read : ByteArray := prog_7_method_3_code
def yX5_read : MethodName := ⟨RX5, "read", "(LWarmBottles$Told;)I"⟩
abbrev cX5_readItem : ByteArray := prog_7_method_4_code
def yX5_readItem : MethodName := ⟨RX5, "readItem", "(LWarmBottles$Told;)Z"⟩
abbrev cX5_readBottle : ByteArray := prog_7_method_5_code
def yX5_readBottle : MethodName := ⟨RX5, "readBottle", "(LWarmBottles$Told;)Z"⟩
abbrev cX5_readKettle : ByteArray := prog_7_method_6_code
def yX5_readKettle : MethodName := ⟨RX5, "readKettle", "(LWarmBottles$Told;)Z"⟩
abbrev cX5_readPint : ByteArray := prog_7_method_7_code
def yX5_readPint : MethodName := ⟨RX5, "readPint", "(LWarmBottles$Told;)Z"⟩
abbrev cX5_readNumber : ByteArray := prog_7_method_8_code
def yX5_readNumber : MethodName := ⟨RX5, "readNumber", "(II)Z"⟩
abbrev cX5_readSemicolon : ByteArray := prog_7_method_9_code
def yX5_readSemicolon : MethodName := ⟨RX5, "readSemicolon", "()Z"⟩
abbrev cX5_readToken : ByteArray := prog_7_method_10_code
def yX5_readToken : MethodName := ⟨RX5, "readToken", "()V"⟩
abbrev cX5_readDigits : ByteArray := prog_7_method_11_code
def yX5_readDigits : MethodName := ⟨RX5, "readDigits", "()V"⟩
abbrev cX5_isDigit : ByteArray := prog_7_method_12_code
def yX5_isDigit : MethodName := ⟨RX5, "isDigit", "(C)Z"⟩
def RX6 : String := "WarmBottles$Told"
def TX6 : u_T := fun k => match k with
  | 0 => ("WarmBottles$Told", "warm", "[I", true)
  | 1 => ("WarmBottles$Told", "cools", "[I", true)
  | 2 => ("WarmBottles$Told", "speaks", "[I", true)
  | 3 => ("WarmBottles$Told", "bottles", "I", false)
  | 4 => ("WarmBottles$Told", "kettle", "I", false)
  | _ => ("WarmBottles$Told", "pint", "I", false)
def tyX6 : Nat → FieldType := fun k => match k with
  | 0 => .array .int
  | 1 => .array .int
  | 2 => .array .int
  | 3 => .int
  | 4 => .int
  | _ => .int
abbrev wsX60 : List Cond := u_ws RX6 TX6 6
theorem nmX6 : ∀ a, a < 6 → ∀ b, b < 6 → a ≠ b → (TX6 a).2.1 ≠ (TX6 b).2.1 := by decide +kernel
theorem tyX6_ok : ∀ k, k < 6 → parseFieldDescriptor (TX6 k).2.2.1 = some (tyX6 k) := by decide +kernel
abbrev cX6_init : ByteArray := prog_8_method_1_code
def yX6_init : MethodName := ⟨RX6, "<init>", "()V"⟩
abbrev cX6_beAsAtFirst : ByteArray := prog_8_method_2_code
def yX6_beAsAtFirst : MethodName := ⟨RX6, "beAsAtFirst", "()V"⟩
abbrev cX6_become : ByteArray := prog_8_method_3_code
def yX6_become : MethodName := ⟨RX6, "become", "(LWarmBottles$Told;)V"⟩
def RX7 : String := "WarmBottles"
def TX7 : u_T := fun k => match k with
  | 0 => ("WarmBottles", "text", "LWarmBottles$Text;", true)
  | 1 => ("WarmBottles", "draft", "LWarmBottles$Told;", true)
  | 2 => ("WarmBottles", "night", "LWarmBottles$Night;", true)
  | 3 => ("WarmBottles", "past", "LWarmBottles$Past;", true)
  | 4 => ("WarmBottles", "images", "LWarmBottles$Copies;", true)
  | 5 => ("WarmBottles", "imageKept", "[Z", true)
  | 6 => ("WarmBottles", "heard", "LWarmBottles$Heard;", true)
  | 7 => ("WarmBottles", "keeping", "LWarmBottles$Keeping;", true)
  | _ => ("WarmBottles", "trace", "J", false)
def tyX7 : Nat → FieldType := fun k => match k with
  | 0 => .object "WarmBottles$Text"
  | 1 => .object "WarmBottles$Told"
  | 2 => .object "WarmBottles$Night"
  | 3 => .object "WarmBottles$Past"
  | 4 => .object "WarmBottles$Copies"
  | 5 => .array .boolean
  | 6 => .object "WarmBottles$Heard"
  | 7 => .object "WarmBottles$Keeping"
  | _ => .long
abbrev wsX70 : List Cond := u_ws RX7 TX7 9
theorem nmX7 : ∀ a, a < 9 → ∀ b, b < 9 → a ≠ b → (TX7 a).2.1 ≠ (TX7 b).2.1 := by decide +kernel
theorem tyX7_ok : ∀ k, k < 9 → parseFieldDescriptor (TX7 k).2.2.1 = some (tyX7 k) := by decide +kernel
abbrev cX7_init : ByteArray := prog_1_method_1_code
def yX7_init : MethodName := ⟨RX7, "<init>", "()V"⟩
abbrev cX7_type : ByteArray := prog_1_method_2_code
def yX7_type : MethodName := ⟨RX7, "type", "(I)I"⟩
abbrev cX7_clear : ByteArray := prog_1_method_3_code
def yX7_clear : MethodName := ⟨RX7, "clear", "()I"⟩
abbrev cX7_ward : ByteArray := prog_1_method_4_code
def yX7_ward : MethodName := ⟨RX7, "ward", "()I"⟩
abbrev cX7_bottle : ByteArray := prog_1_method_5_code
def yX7_bottle : MethodName := ⟨RX7, "bottle", "(II)I"⟩
abbrev cX7_now : ByteArray := prog_1_method_6_code
def yX7_now : MethodName := ⟨RX7, "now", "(I)I"⟩
abbrev cX7_hour : ByteArray := prog_1_method_7_code
def yX7_hour : MethodName := ⟨RX7, "hour", "()I"⟩
abbrev cX7_fills : ByteArray := prog_1_method_8_code
def yX7_fills : MethodName := ⟨RX7, "fills", "(II)I"⟩
abbrev cX7_lays : ByteArray := prog_1_method_9_code
def yX7_lays : MethodName := ⟨RX7, "lays", "(II)I"⟩
abbrev cX7_spills : ByteArray := prog_1_method_10_code
def yX7_spills : MethodName := ⟨RX7, "spills", "(I)I"⟩
abbrev cX7_frosts : ByteArray := prog_1_method_11_code
def yX7_frosts : MethodName := ⟨RX7, "frosts", "(I)I"⟩
abbrev cX7_boils : ByteArray := prog_1_method_12_code
def yX7_boils : MethodName := ⟨RX7, "boils", "()I"⟩
abbrev cX7_undo : ByteArray := prog_1_method_13_code
def yX7_undo : MethodName := ⟨RX7, "undo", "()I"⟩
abbrev cX7_morning : ByteArray := prog_1_method_14_code
def yX7_morning : MethodName := ⟨RX7, "morning", "(II)I"⟩
abbrev cX7_kept : ByteArray := prog_1_method_15_code
def yX7_kept : MethodName := ⟨RX7, "kept", "(I)I"⟩
abbrev cX7_beds : ByteArray := prog_1_method_16_code
def yX7_beds : MethodName := ⟨RX7, "beds", "(I)I"⟩
abbrev cX7_odds : ByteArray := prog_1_method_17_code
def yX7_odds : MethodName := ⟨RX7, "odds", "(IIII)I"⟩
abbrev cX7_commonDivisor : ByteArray := prog_1_method_18_code
def yX7_commonDivisor : MethodName := ⟨RX7, "commonDivisor", "(II)I"⟩
abbrev cX7_hears : ByteArray := prog_1_method_19_code
def yX7_hears : MethodName := ⟨RX7, "hears", "(II)I"⟩
abbrev cX7_forget : ByteArray := prog_1_method_20_code
def yX7_forget : MethodName := ⟨RX7, "forget", "()I"⟩
abbrev cX7_who : ByteArray := prog_1_method_21_code
def yX7_who : MethodName := ⟨RX7, "who", "()I"⟩
abbrev cX7_listen : ByteArray := prog_1_method_22_code
def yX7_listen : MethodName := ⟨RX7, "listen", "()I"⟩
abbrev cX7_rate : ByteArray := prog_1_method_23_code
def yX7_rate : MethodName := ⟨RX7, "rate", "(II)I"⟩
abbrev cX7_asBottle : ByteArray := prog_1_method_24_code
def yX7_asBottle : MethodName := ⟨RX7, "asBottle", "(I)I"⟩
abbrev cX7_asBosun : ByteArray := prog_1_method_25_code
def yX7_asBosun : MethodName := ⟨RX7, "asBosun", "(I)I"⟩
abbrev cX7_asCook : ByteArray := prog_1_method_26_code
def yX7_asCook : MethodName := ⟨RX7, "asCook", "(I)I"⟩
abbrev cX7_asMate : ByteArray := prog_1_method_27_code
def yX7_asMate : MethodName := ⟨RX7, "asMate", "(I)I"⟩
abbrev cX7_asStoker : ByteArray := prog_1_method_28_code
def yX7_asStoker : MethodName := ⟨RX7, "asStoker", "(I)I"⟩
abbrev cX7_asMatron : ByteArray := prog_1_method_29_code
def yX7_asMatron : MethodName := ⟨RX7, "asMatron", "(I)I"⟩
abbrev cX7_keep : ByteArray := prog_1_method_30_code
def yX7_keep : MethodName := ⟨RX7, "keep", "(I)I"⟩
abbrev cX7_back : ByteArray := prog_1_method_31_code
def yX7_back : MethodName := ⟨RX7, "back", "(I)I"⟩
abbrev cX7_count : ByteArray := prog_1_method_32_code
def yX7_count : MethodName := ⟨RX7, "count", "(I)I"⟩
abbrev cX7_trace : ByteArray := prog_1_method_33_code
def yX7_trace : MethodName := ⟨RX7, "trace", "()J"⟩
def RX8 : String := "WarmBottlesModel"
def TX8 : u_T := fun k => match k with
  | 0 => ("WarmBottlesModel", "trace", "J", false)
  | 1 => ("WarmBottlesModel", "text", "[I", true)
  | 2 => ("WarmBottlesModel", "typed", "I", false)
  | 3 => ("WarmBottlesModel", "told", "[I", true)
  | 4 => ("WarmBottlesModel", "draft", "[I", true)
  | 5 => ("WarmBottlesModel", "s", "[I", true)
  | 6 => ("WarmBottlesModel", "past", "[I", true)
  | 7 => ("WarmBottlesModel", "known", "I", false)
  | 8 => ("WarmBottlesModel", "images", "[I", true)
  | 9 => ("WarmBottlesModel", "kept", "[Z", true)
  | 10 => ("WarmBottlesModel", "notes", "[I", true)
  | 11 => ("WarmBottlesModel", "noted", "I", false)
  | 12 => ("WarmBottlesModel", "at", "I", false)
  | 13 => ("WarmBottlesModel", "sort", "I", false)
  | 14 => ("WarmBottlesModel", "start", "I", false)
  | 15 => ("WarmBottlesModel", "value", "I", false)
  | 16 => ("WarmBottlesModel", "aside", "[I", true)
  | 17 => ("WarmBottlesModel", "row", "[I", true)
  | _ => ("WarmBottlesModel", "best", "[I", true)
def tyX8 : Nat → FieldType := fun k => match k with
  | 0 => .long
  | 1 => .array .int
  | 2 => .int
  | 3 => .array .int
  | 4 => .array .int
  | 5 => .array .int
  | 6 => .array .int
  | 7 => .int
  | 8 => .array .int
  | 9 => .array .boolean
  | 10 => .array .int
  | 11 => .int
  | 12 => .int
  | 13 => .int
  | 14 => .int
  | 15 => .int
  | 16 => .array .int
  | 17 => .array .int
  | _ => .array .int
abbrev wsX80 : List Cond := u_ws RX8 TX8 19
theorem nmX8 : ∀ a, a < 19 → ∀ b, b < 19 → a ≠ b → (TX8 a).2.1 ≠ (TX8 b).2.1 := by decide +kernel
theorem tyX8_ok : ∀ k, k < 19 → parseFieldDescriptor (TX8 k).2.2.1 = some (tyX8 k) := by decide +kernel
abbrev cX8_init : ByteArray := prog_10_method_1_code
def yX8_init : MethodName := ⟨RX8, "<init>", "()V"⟩
abbrev cX8_in : ByteArray := prog_10_method_3_code
def yX8_in : MethodName := ⟨RX8, "in", "(III)Z"⟩
abbrev cX8_isBottle : ByteArray := prog_10_method_4_code
def yX8_isBottle : MethodName := ⟨RX8, "isBottle", "(I)Z"⟩
abbrev cX8_type : ByteArray := prog_10_method_5_code
def yX8_type : MethodName := ⟨RX8, "type", "(I)I"⟩
abbrev cX8_clear : ByteArray := prog_10_method_6_code
def yX8_clear : MethodName := ⟨RX8, "clear", "()I"⟩
abbrev cX8_letterAt : ByteArray := prog_10_method_7_code
def yX8_letterAt : MethodName := ⟨RX8, "letterAt", "(I)I"⟩
abbrev cX8_isDigit : ByteArray := prog_10_method_8_code
def yX8_isDigit : MethodName := ⟨RX8, "isDigit", "(I)Z"⟩
abbrev cX8_token : ByteArray := prog_10_method_9_code
def yX8_token : MethodName := ⟨RX8, "token", "()V"⟩
abbrev cX8_number : ByteArray := prog_10_method_10_code
def yX8_number : MethodName := ⟨RX8, "number", "(III)Z"⟩
abbrev cX8_once : ByteArray := prog_10_method_11_code
def yX8_once : MethodName := ⟨RX8, "once", "(IIII)Z"⟩
abbrev cX8_readsItem : ByteArray := prog_10_method_12_code
def yX8_readsItem : MethodName := ⟨RX8, "readsItem", "()Z"⟩
abbrev cX8_reads : ByteArray := prog_10_method_13_code
def yX8_reads : MethodName := ⟨RX8, "reads", "()Z"⟩
abbrev cX8_begins : ByteArray := prog_10_method_14_code
def yX8_begins : MethodName := ⟨RX8, "begins", "()V"⟩
abbrev cX8_ward : ByteArray := prog_10_method_15_code
def yX8_ward : MethodName := ⟨RX8, "ward", "()I"⟩
abbrev cX8_cools : ByteArray := prog_10_method_16_code
def yX8_cools : MethodName := ⟨RX8, "cools", "(II)I"⟩
abbrev cX8_less : ByteArray := prog_10_method_17_code
def yX8_less : MethodName := ⟨RX8, "less", "(II)I"⟩
abbrev cX8_lasts : ByteArray := prog_10_method_18_code
def yX8_lasts : MethodName := ⟨RX8, "lasts", "(I)I"⟩
abbrev cX8_allLast : ByteArray := prog_10_method_19_code
def yX8_allLast : MethodName := ⟨RX8, "allLast", "()I"⟩
abbrev cX8_soundOf : ByteArray := prog_10_method_20_code
def yX8_soundOf : MethodName := ⟨RX8, "soundOf", "(II)I"⟩
abbrev cX8_bottle : ByteArray := prog_10_method_21_code
def yX8_bottle : MethodName := ⟨RX8, "bottle", "(II)I"⟩
abbrev cX8_manyWarm : ByteArray := prog_10_method_22_code
def yX8_manyWarm : MethodName := ⟨RX8, "manyWarm", "()I"⟩
abbrev cX8_now : ByteArray := prog_10_method_23_code
def yX8_now : MethodName := ⟨RX8, "now", "(I)I"⟩
abbrev cX8_keeps : ByteArray := prog_10_method_24_code
def yX8_keeps : MethodName := ⟨RX8, "keeps", "()V"⟩
abbrev cX8_passes : ByteArray := prog_10_method_25_code
def yX8_passes : MethodName := ⟨RX8, "passes", "()V"⟩
abbrev cX8_hour : ByteArray := prog_10_method_26_code
def yX8_hour : MethodName := ⟨RX8, "hour", "()I"⟩
abbrev cX8_filled : ByteArray := prog_10_method_27_code
def yX8_filled : MethodName := ⟨RX8, "filled", "(II)I"⟩
abbrev cX8_fills : ByteArray := prog_10_method_28_code
def yX8_fills : MethodName := ⟨RX8, "fills", "(II)I"⟩
abbrev cX8_lays : ByteArray := prog_10_method_29_code
def yX8_lays : MethodName := ⟨RX8, "lays", "(II)I"⟩
abbrev cX8_spills : ByteArray := prog_10_method_30_code
def yX8_spills : MethodName := ⟨RX8, "spills", "(I)I"⟩
abbrev cX8_frosts : ByteArray := prog_10_method_31_code
def yX8_frosts : MethodName := ⟨RX8, "frosts", "(I)I"⟩
abbrev cX8_boils : ByteArray := prog_10_method_32_code
def yX8_boils : MethodName := ⟨RX8, "boils", "()I"⟩
abbrev cX8_undo : ByteArray := prog_10_method_33_code
def yX8_undo : MethodName := ⟨RX8, "undo", "()I"⟩
abbrev cX8_pints : ByteArray := prog_10_method_34_code
def yX8_pints : MethodName := ⟨RX8, "pints", "(II)I"⟩
abbrev cX8_morning : ByteArray := prog_10_method_35_code
def yX8_morning : MethodName := ⟨RX8, "morning", "(II)I"⟩
abbrev cX8_holds : ByteArray := prog_10_method_36_code
def yX8_holds : MethodName := ⟨RX8, "holds", "()V"⟩
abbrev cX8_lets : ByteArray := prog_10_method_37_code
def yX8_lets : MethodName := ⟨RX8, "lets", "()V"⟩
abbrev cX8_keptBy : ByteArray := prog_10_method_38_code
def yX8_keptBy : MethodName := ⟨RX8, "keptBy", "(I)I"⟩
abbrev cX8_kept : ByteArray := prog_10_method_39_code
def yX8_kept : MethodName := ⟨RX8, "kept", "(I)I"⟩
abbrev cX8_isWay : ByteArray := prog_10_method_40_code
def yX8_isWay : MethodName := ⟨RX8, "isWay", "(I)Z"⟩
abbrev cX8_beds : ByteArray := prog_10_method_41_code
def yX8_beds : MethodName := ⟨RX8, "beds", "(I)I"⟩
abbrev cX8_odds : ByteArray := prog_10_method_42_code
def yX8_odds : MethodName := ⟨RX8, "odds", "(IIII)I"⟩
abbrev cX8_hears : ByteArray := prog_10_method_43_code
def yX8_hears : MethodName := ⟨RX8, "hears", "(II)I"⟩
abbrev cX8_forget : ByteArray := prog_10_method_44_code
def yX8_forget : MethodName := ⟨RX8, "forget", "()I"⟩
abbrev cX8_soundIn : ByteArray := prog_10_method_45_code
def yX8_soundIn : MethodName := ⟨RX8, "soundIn", "(II)I"⟩
abbrev cX8_whoNow : ByteArray := prog_10_method_46_code
def yX8_whoNow : MethodName := ⟨RX8, "whoNow", "()I"⟩
abbrev cX8_who : ByteArray := prog_10_method_47_code
def yX8_who : MethodName := ⟨RX8, "who", "()I"⟩
abbrev cX8_listen : ByteArray := prog_10_method_48_code
def yX8_listen : MethodName := ⟨RX8, "listen", "()I"⟩
abbrev cX8_rate : ByteArray := prog_10_method_49_code
def yX8_rate : MethodName := ⟨RX8, "rate", "(II)I"⟩
abbrev cX8_keep : ByteArray := prog_10_method_50_code
def yX8_keep : MethodName := ⟨RX8, "keep", "(I)I"⟩
abbrev cX8_back : ByteArray := prog_10_method_51_code
def yX8_back : MethodName := ⟨RX8, "back", "(I)I"⟩
abbrev cX8_count : ByteArray := prog_10_method_52_code
def yX8_count : MethodName := ⟨RX8, "count", "(I)I"⟩
abbrev cX8_trace : ByteArray := prog_10_method_53_code
def yX8_trace : MethodName := ⟨RX8, "trace", "()J"⟩
def RJ6 : String := "java/lang/Integer"
def TJ6 : u_T := fun k => match k with
  | _ => ("", "", "", false)
def tyJ6 : Nat → FieldType := fun k => match k with
  | _ => .int
abbrev wsJ60 : List Cond := u_ws RJ6 TJ6 0
theorem nmJ6 : ∀ a, a < 0 → ∀ b, b < 0 → a ≠ b → (TJ6 a).2.1 ≠ (TJ6 b).2.1 := by decide +kernel
theorem tyJ6_ok : ∀ k, k < 0 → parseFieldDescriptor (TJ6 k).2.2.1 = some (tyJ6 k) := by decide +kernel
abbrev cJ6_bitCount_0f7a4 : ByteArray := prog_11_method_49_code
def yJ6_bitCount_0f7a4 : MethodName := ⟨RJ6, "bitCount", "(I)I"⟩
def RJ9 : String := "java/lang/Math"
def TJ9 : u_T := fun k => match k with
  | _ => ("", "", "", false)
def tyJ9 : Nat → FieldType := fun k => match k with
  | _ => .int
abbrev wsJ90 : List Cond := u_ws RJ9 TJ9 0
theorem nmJ9 : ∀ a, a < 0 → ∀ b, b < 0 → a ≠ b → (TJ9 a).2.1 ≠ (TJ9 b).2.1 := by decide +kernel
theorem tyJ9_ok : ∀ k, k < 0 → parseFieldDescriptor (TJ9 k).2.2.1 = some (tyJ9 k) := by decide +kernel
abbrev cJ9_max_7cf53 : ByteArray := prog_12_method_65_code
def yJ9_max_7cf53 : MethodName := ⟨RJ9, "max", "(II)I"⟩
abbrev cJ9_min_7cf53 : ByteArray := prog_12_method_69_code
def yJ9_min_7cf53 : MethodName := ⟨RJ9, "min", "(II)I"⟩
def RJ10 : String := "java/lang/System"
def TJ10 : u_T := fun k => match k with
  | _ => ("", "", "", false)
def tyJ10 : Nat → FieldType := fun k => match k with
  | _ => .int
abbrev wsJ100 : List Cond := u_ws RJ10 TJ10 0
theorem nmJ10 : ∀ a, a < 0 → ∀ b, b < 0 → a ≠ b → (TJ10 a).2.1 ≠ (TJ10 b).2.1 := by decide +kernel
theorem tyJ10_ok : ∀ k, k < 0 → parseFieldDescriptor (TJ10 k).2.2.1 = some (tyJ10 k) := by decide +kernel
def RL : String := "WarmBottlesLaw"
abbrev cL_law : ByteArray := code
def yL_law : MethodName := ⟨RL, "law", "([I)Z"⟩
def wsX0_init : List Cond := .code yX0_init cX0_init 2 none :: ([.methodLink RX0 5 objectInit, .instanceMethod objectInit, .code objectInit ⟨#[0xb1]⟩ 1 none, .methodLink RX0 11 Lib.Math.max.name, .static Lib.Math.max.name, .initialized "java/lang/Math", .code Lib.Math.max.name Lib.Math.max.code 2 (some .int), .fieldLink RX0 17 "WarmBottles$Copies" "slots" "I", .arrayClass .int, .fieldLink RX0 21 "WarmBottles$Copies" "cells" "[I"] ++ wsX00)
def wsX0_put : List Cond := .code yX0_put cX0_put 4 none :: ([.fieldLink RX0 17 "WarmBottles$Copies" "slots" "I", .fieldLink RX0 21 "WarmBottles$Copies" "cells" "[I", .fieldLink RX0 25 "WarmBottles$Night" "hour" "I", .fieldLink RX0 30 "WarmBottles$Night" "frost" "I", .fieldLink RX0 33 "WarmBottles$Night" "kettle" "I", .fieldLink RX0 36 "WarmBottles$Night" "warm" "[I", .methodLink RX0 39 arraycopyName, .native arraycopyName, .static arraycopyName, .initialized "java/lang/System", .fieldLink RX0 45 "WarmBottles$Night" "bed" "[I"] ++ wsX00 ++ wsX30)
def wsX0_take : List Cond := .code yX0_take cX0_take 4 none :: ([.fieldLink RX0 17 "WarmBottles$Copies" "slots" "I", .fieldLink RX0 21 "WarmBottles$Copies" "cells" "[I", .fieldLink RX0 25 "WarmBottles$Night" "hour" "I", .fieldLink RX0 30 "WarmBottles$Night" "frost" "I", .fieldLink RX0 33 "WarmBottles$Night" "kettle" "I", .fieldLink RX0 36 "WarmBottles$Night" "warm" "[I", .methodLink RX0 39 arraycopyName, .native arraycopyName, .static arraycopyName, .initialized "java/lang/System", .fieldLink RX0 45 "WarmBottles$Night" "bed" "[I"] ++ wsX00 ++ wsX30)
def wsX1_init : List Cond := .code yX1_init cX1_init 1 none :: ([.methodLink RX1 3 objectInit, .instanceMethod objectInit, .code objectInit ⟨#[0xb1]⟩ 1 none, .arrayClass .int, .fieldLink RX1 9 "WarmBottles$Heard" "hours" "[I", .fieldLink RX1 15 "WarmBottles$Heard" "sounds" "[I"] ++ wsX10)
def wsX1_add : List Cond := .code yX1_add cX1_add 3 none :: ([.fieldLink RX1 18 "WarmBottles$Heard" "number" "I", .fieldLink RX1 9 "WarmBottles$Heard" "hours" "[I", .fieldLink RX1 15 "WarmBottles$Heard" "sounds" "[I"] ++ wsX10)
def wsX3_loss : List Cond := .code yX3_loss cX3_loss 6 (some .int) :: ([.fieldLink RX3 12 "WarmBottles$Night" "told" "LWarmBottles$Told;", .fieldLink RX3 59 "WarmBottles$Told" "cools" "[I", .fieldLink RX3 40 "WarmBottles$Told" "bottles" "I", .methodLink RX3 47 Lib.Math.max.name, .static Lib.Math.max.name, .initialized "java/lang/Math", .code Lib.Math.max.name Lib.Math.max.code 2 (some .int)] ++ wsX30 ++ wsX60)
def wsX3_soundIn : List Cond := .code yX3_soundIn cX3_soundIn 4 (some .int) :: ([.fieldLink RX3 18 "WarmBottles$Night" "warm" "[I", .fieldLink RX3 22 "WarmBottles$Night" "bed" "[I", .fieldLink RX3 32 "WarmBottles$Night" "frost" "I", .fieldLink RX3 12 "WarmBottles$Night" "told" "LWarmBottles$Told;", .fieldLink RX3 66 "WarmBottles$Told" "speaks" "[I", .methodLink RX3 43 yX3_loss, .instanceMethod yX3_loss, .selects RX3 yX3_loss yX3_loss, .initialized RX3, .code yX3_loss cX3_loss 6 (some .int), .fieldLink RX3 59 "WarmBottles$Told" "cools" "[I", .fieldLink RX3 40 "WarmBottles$Told" "bottles" "I", .methodLink RX3 47 Lib.Math.max.name, .static Lib.Math.max.name, .initialized "java/lang/Math", .code Lib.Math.max.name Lib.Math.max.code 2 (some .int)] ++ wsX30 ++ wsX60)
def wsX1_fits : List Cond := .code yX1_fits cX1_fits 4 (some .boolean) :: ([.fieldLink RX1 18 "WarmBottles$Heard" "number" "I", .fieldLink RX1 9 "WarmBottles$Heard" "hours" "[I", .fieldLink RX1 15 "WarmBottles$Heard" "sounds" "[I", .methodLink RX1 37 yX3_soundIn, .instanceMethod yX3_soundIn, .selects RX3 yX3_soundIn yX3_soundIn, .initialized RX3, .code yX3_soundIn cX3_soundIn 4 (some .int), .fieldLink RX3 18 "WarmBottles$Night" "warm" "[I", .fieldLink RX3 22 "WarmBottles$Night" "bed" "[I", .fieldLink RX3 32 "WarmBottles$Night" "frost" "I", .fieldLink RX3 12 "WarmBottles$Night" "told" "LWarmBottles$Told;", .fieldLink RX3 66 "WarmBottles$Told" "speaks" "[I", .methodLink RX3 43 yX3_loss, .instanceMethod yX3_loss, .selects RX3 yX3_loss yX3_loss, .code yX3_loss cX3_loss 6 (some .int), .fieldLink RX3 59 "WarmBottles$Told" "cools" "[I", .fieldLink RX3 40 "WarmBottles$Told" "bottles" "I", .methodLink RX3 47 Lib.Math.max.name, .static Lib.Math.max.name, .initialized "java/lang/Math", .code Lib.Math.max.name Lib.Math.max.code 2 (some .int)] ++ wsX10 ++ wsX30 ++ wsX60)
def wsX1_whoFits_r1 : List Cond := [Cond.fieldLink RX1 22 "WarmBottles$Night" "told" "LWarmBottles$Told;", Cond.fieldLink RX1 28 "WarmBottles$Told" "bottles" "I", Cond.methodLink RX1 33 yX1_fits, Cond.instanceMethod yX1_fits, Cond.selects RX1 yX1_fits yX1_fits, Cond.initialized RX1, Cond.code yX1_fits cX1_fits 4 (some .boolean), Cond.fieldLink RX1 18 "WarmBottles$Heard" "number" "I", Cond.fieldLink RX1 9 "WarmBottles$Heard" "hours" "[I", Cond.fieldLink RX1 15 "WarmBottles$Heard" "sounds" "[I", Cond.methodLink RX1 37 yX3_soundIn, Cond.instanceMethod yX3_soundIn, Cond.selects RX3 yX3_soundIn yX3_soundIn, Cond.initialized RX3, Cond.code yX3_soundIn cX3_soundIn 4 (some .int), Cond.fieldLink RX3 18 "WarmBottles$Night" "warm" "[I", Cond.fieldLink RX3 22 "WarmBottles$Night" "bed" "[I", Cond.fieldLink RX3 32 "WarmBottles$Night" "frost" "I", Cond.fieldLink RX3 12 "WarmBottles$Night" "told" "LWarmBottles$Told;", Cond.fieldLink RX3 66 "WarmBottles$Told" "speaks" "[I", Cond.methodLink RX3 43 yX3_loss, Cond.instanceMethod yX3_loss, Cond.selects RX3 yX3_loss yX3_loss, Cond.code yX3_loss cX3_loss 6 (some .int)]
def wsX1_whoFits_r2 : List Cond := [Cond.fieldLink RX3 59 "WarmBottles$Told" "cools" "[I", Cond.fieldLink RX3 40 "WarmBottles$Told" "bottles" "I", Cond.methodLink RX3 47 Lib.Math.max.name, Cond.static Lib.Math.max.name, Cond.initialized "java/lang/Math", Cond.code Lib.Math.max.name Lib.Math.max.code 2 (some .int)]
def wsX1_whoFits : List Cond := .code yX1_whoFits cX1_whoFits 4 (some .int) :: ((wsX1_whoFits_r1 ++ wsX1_whoFits_r2) ++ wsX30 ++ wsX60 ++ wsX10)
def wsX2_init : List Cond := .code yX2_init cX2_init 2 none :: ([.methodLink RX2 3 objectInit, .instanceMethod objectInit, .code objectInit ⟨#[0xb1]⟩ 1 none, .arrayClass .int, .fieldLink RX2 9 "WarmBottles$Keeping" "loss" "[I", .fieldLink RX2 15 "WarmBottles$Keeping" "warm" "[I", .fieldLink RX2 18 "WarmBottles$Keeping" "night" "LWarmBottles$Night;"] ++ wsX20)
def wsX2_lookAtNight : List Cond := .code yX2_lookAtNight cX2_lookAtNight 2 none :: ([.fieldLink RX2 18 "WarmBottles$Keeping" "night" "LWarmBottles$Night;", .fieldLink RX2 39 "WarmBottles$Night" "told" "LWarmBottles$Told;", .fieldLink RX2 43 "WarmBottles$Told" "bottles" "I", .fieldLink RX2 9 "WarmBottles$Keeping" "loss" "[I", .fieldLink RX2 52 "WarmBottles$Night" "bed" "[I", .fieldLink RX2 55 "WarmBottles$Night" "frost" "I", .fieldLink RX2 15 "WarmBottles$Keeping" "warm" "[I", .fieldLink RX2 61 "WarmBottles$Night" "warm" "[I", .methodLink RX2 58 yX3_loss, .instanceMethod yX3_loss, .selects RX3 yX3_loss yX3_loss, .initialized RX3, .code yX3_loss cX3_loss 6 (some .int), .fieldLink RX3 12 "WarmBottles$Night" "told" "LWarmBottles$Told;", .fieldLink RX3 59 "WarmBottles$Told" "cools" "[I", .fieldLink RX3 40 "WarmBottles$Told" "bottles" "I", .methodLink RX3 47 Lib.Math.max.name, .static Lib.Math.max.name, .initialized "java/lang/Math", .code Lib.Math.max.name Lib.Math.max.code 2 (some .int)] ++ wsX20 ++ wsX30 ++ wsX60)
def wsX3_warmBy : List Cond := .code yX3_warmBy cX3_warmBy 3 (some .int) :: ([.fieldLink RX3 12 "WarmBottles$Night" "told" "LWarmBottles$Told;", .fieldLink RX3 53 "WarmBottles$Told" "pint" "I", .methodLink RX3 56 Lib.Math.min.name, .static Lib.Math.min.name, .initialized "java/lang/Math", .code Lib.Math.min.name Lib.Math.min.code 2 (some .int)] ++ wsX30 ++ wsX60)
def wsX2_staysWarmByFilling : List Cond := .code yX2_staysWarmByFilling cX2_staysWarmByFilling 6 (some .boolean) :: ([.fieldLink RX2 18 "WarmBottles$Keeping" "night" "LWarmBottles$Night;", .fieldLink RX2 39 "WarmBottles$Night" "told" "LWarmBottles$Told;", .fieldLink RX2 43 "WarmBottles$Told" "bottles" "I", .fieldLink RX2 15 "WarmBottles$Keeping" "warm" "[I", .fieldLink RX2 9 "WarmBottles$Keeping" "loss" "[I", .methodLink RX2 71 yX3_warmBy, .instanceMethod yX3_warmBy, .selects RX3 yX3_warmBy yX3_warmBy, .initialized RX3, .code yX3_warmBy cX3_warmBy 3 (some .int), .fieldLink RX3 12 "WarmBottles$Night" "told" "LWarmBottles$Told;", .fieldLink RX3 53 "WarmBottles$Told" "pint" "I", .methodLink RX3 56 Lib.Math.min.name, .static Lib.Math.min.name, .initialized "java/lang/Math", .code Lib.Math.min.name Lib.Math.min.code 2 (some .int)] ++ wsX20 ++ wsX30 ++ wsX60)
def wsX2_mostByFilling_r1 : List Cond := [Cond.methodLink RX2 67 yX2_staysWarmByFilling, Cond.instanceMethod yX2_staysWarmByFilling, Cond.selects RX2 yX2_staysWarmByFilling yX2_staysWarmByFilling, Cond.initialized RX2, Cond.code yX2_staysWarmByFilling cX2_staysWarmByFilling 6 (some .boolean), Cond.fieldLink RX2 18 "WarmBottles$Keeping" "night" "LWarmBottles$Night;", Cond.fieldLink RX2 39 "WarmBottles$Night" "told" "LWarmBottles$Told;", Cond.fieldLink RX2 43 "WarmBottles$Told" "bottles" "I", Cond.fieldLink RX2 15 "WarmBottles$Keeping" "warm" "[I", Cond.fieldLink RX2 9 "WarmBottles$Keeping" "loss" "[I", Cond.methodLink RX2 71 yX3_warmBy, Cond.instanceMethod yX3_warmBy, Cond.selects RX3 yX3_warmBy yX3_warmBy, Cond.initialized RX3, Cond.code yX3_warmBy cX3_warmBy 3 (some .int), Cond.fieldLink RX3 12 "WarmBottles$Night" "told" "LWarmBottles$Told;", Cond.fieldLink RX3 53 "WarmBottles$Told" "pint" "I", Cond.methodLink RX3 56 Lib.Math.min.name, Cond.static Lib.Math.min.name, Cond.initialized "java/lang/Math", Cond.code Lib.Math.min.name Lib.Math.min.code 2 (some .int), Cond.methodLink RX2 31 yX2_mostFrom, Cond.instanceMethod yX2_mostFrom, Cond.selects RX2 yX2_mostFrom yX2_mostFrom]
def wsX2_mostByFilling_r2 : List Cond := [Cond.code yX2_mostFrom cX2_mostFrom 5 (some .int), Cond.methodLink RX2 62 Lib.Math.max.name, Cond.static Lib.Math.max.name, Cond.code Lib.Math.max.name Lib.Math.max.code 2 (some .int), Cond.methodLink RX2 48 yX2_mostByFilling, Cond.instanceMethod yX2_mostByFilling, Cond.selects RX2 yX2_mostByFilling yX2_mostByFilling]
def wsX2_mostByFilling : List Cond := .code yX2_mostByFilling cX2_mostByFilling 5 (some .int) :: ((wsX2_mostByFilling_r1 ++ wsX2_mostByFilling_r2) ++ wsX20 ++ wsX30 ++ wsX60)
def wsX2_mostFrom_r1 : List Cond := [Cond.fieldLink RX2 18 "WarmBottles$Keeping" "night" "LWarmBottles$Night;", Cond.fieldLink RX2 39 "WarmBottles$Night" "told" "LWarmBottles$Told;", Cond.fieldLink RX2 43 "WarmBottles$Told" "bottles" "I", Cond.methodLink RX2 62 Lib.Math.max.name, Cond.static Lib.Math.max.name, Cond.initialized "java/lang/Math", Cond.code Lib.Math.max.name Lib.Math.max.code 2 (some .int), Cond.methodLink RX2 48 yX2_mostByFilling, Cond.instanceMethod yX2_mostByFilling, Cond.selects RX2 yX2_mostByFilling yX2_mostByFilling, Cond.initialized RX2, Cond.code yX2_mostByFilling cX2_mostByFilling 5 (some .int), Cond.methodLink RX2 67 yX2_staysWarmByFilling, Cond.instanceMethod yX2_staysWarmByFilling, Cond.selects RX2 yX2_staysWarmByFilling yX2_staysWarmByFilling, Cond.code yX2_staysWarmByFilling cX2_staysWarmByFilling 6 (some .boolean), Cond.fieldLink RX2 15 "WarmBottles$Keeping" "warm" "[I", Cond.fieldLink RX2 9 "WarmBottles$Keeping" "loss" "[I", Cond.methodLink RX2 71 yX3_warmBy, Cond.instanceMethod yX3_warmBy, Cond.selects RX3 yX3_warmBy yX3_warmBy, Cond.initialized RX3, Cond.code yX3_warmBy cX3_warmBy 3 (some .int), Cond.fieldLink RX3 12 "WarmBottles$Night" "told" "LWarmBottles$Told;"]
def wsX2_mostFrom_r2 : List Cond := [Cond.fieldLink RX3 53 "WarmBottles$Told" "pint" "I", Cond.methodLink RX3 56 Lib.Math.min.name, Cond.static Lib.Math.min.name, Cond.code Lib.Math.min.name Lib.Math.min.code 2 (some .int), Cond.methodLink RX2 31 yX2_mostFrom, Cond.instanceMethod yX2_mostFrom, Cond.selects RX2 yX2_mostFrom yX2_mostFrom]
def wsX2_mostFrom : List Cond := .code yX2_mostFrom cX2_mostFrom 5 (some .int) :: ((wsX2_mostFrom_r1 ++ wsX2_mostFrom_r2) ++ wsX20 ++ wsX30 ++ wsX60)
def wsX2_mostHours_r1 : List Cond := [Cond.fieldLink RX2 18 "WarmBottles$Keeping" "night" "LWarmBottles$Night;", Cond.fieldLink RX2 25 "WarmBottles$Night" "kettle" "I", Cond.methodLink RX2 22 yX2_lookAtNight, Cond.instanceMethod yX2_lookAtNight, Cond.selects RX2 yX2_lookAtNight yX2_lookAtNight, Cond.initialized RX2, Cond.code yX2_lookAtNight cX2_lookAtNight 2 none, Cond.fieldLink RX2 39 "WarmBottles$Night" "told" "LWarmBottles$Told;", Cond.fieldLink RX2 43 "WarmBottles$Told" "bottles" "I", Cond.fieldLink RX2 9 "WarmBottles$Keeping" "loss" "[I", Cond.fieldLink RX2 52 "WarmBottles$Night" "bed" "[I", Cond.fieldLink RX2 55 "WarmBottles$Night" "frost" "I", Cond.fieldLink RX2 15 "WarmBottles$Keeping" "warm" "[I", Cond.fieldLink RX2 61 "WarmBottles$Night" "warm" "[I", Cond.methodLink RX2 58 yX3_loss, Cond.instanceMethod yX3_loss, Cond.selects RX3 yX3_loss yX3_loss, Cond.initialized RX3, Cond.code yX3_loss cX3_loss 6 (some .int), Cond.fieldLink RX3 12 "WarmBottles$Night" "told" "LWarmBottles$Told;", Cond.fieldLink RX3 59 "WarmBottles$Told" "cools" "[I", Cond.fieldLink RX3 40 "WarmBottles$Told" "bottles" "I", Cond.methodLink RX3 47 Lib.Math.max.name, Cond.static Lib.Math.max.name]
def wsX2_mostHours_r2 : List Cond := [Cond.initialized "java/lang/Math", Cond.code Lib.Math.max.name Lib.Math.max.code 2 (some .int), Cond.methodLink RX2 31 yX2_mostFrom, Cond.instanceMethod yX2_mostFrom, Cond.selects RX2 yX2_mostFrom yX2_mostFrom, Cond.code yX2_mostFrom cX2_mostFrom 5 (some .int), Cond.methodLink RX2 62 Lib.Math.max.name, Cond.methodLink RX2 48 yX2_mostByFilling, Cond.instanceMethod yX2_mostByFilling, Cond.selects RX2 yX2_mostByFilling yX2_mostByFilling, Cond.code yX2_mostByFilling cX2_mostByFilling 5 (some .int), Cond.methodLink RX2 67 yX2_staysWarmByFilling, Cond.instanceMethod yX2_staysWarmByFilling, Cond.selects RX2 yX2_staysWarmByFilling yX2_staysWarmByFilling, Cond.code yX2_staysWarmByFilling cX2_staysWarmByFilling 6 (some .boolean), Cond.methodLink RX2 71 yX3_warmBy, Cond.instanceMethod yX3_warmBy, Cond.selects RX3 yX3_warmBy yX3_warmBy, Cond.code yX3_warmBy cX3_warmBy 3 (some .int), Cond.fieldLink RX3 53 "WarmBottles$Told" "pint" "I", Cond.methodLink RX3 56 Lib.Math.min.name, Cond.static Lib.Math.min.name, Cond.code Lib.Math.min.name Lib.Math.min.code 2 (some .int)]
def wsX2_mostHours : List Cond := .code yX2_mostHours cX2_mostHours 1 (some .int) :: ((wsX2_mostHours_r1 ++ wsX2_mostHours_r2) ++ wsX20 ++ wsX30 ++ wsX60)
def wsX2_first_r1 : List Cond := [Cond.fieldLink RX2 18 "WarmBottles$Keeping" "night" "LWarmBottles$Night;", Cond.fieldLink RX2 39 "WarmBottles$Night" "told" "LWarmBottles$Told;", Cond.fieldLink RX2 43 "WarmBottles$Told" "bottles" "I", Cond.fieldLink RX2 25 "WarmBottles$Night" "kettle" "I", Cond.methodLink RX2 35 yX2_mostHours, Cond.instanceMethod yX2_mostHours, Cond.selects RX2 yX2_mostHours yX2_mostHours, Cond.initialized RX2, Cond.code yX2_mostHours cX2_mostHours 1 (some .int), Cond.methodLink RX2 22 yX2_lookAtNight, Cond.instanceMethod yX2_lookAtNight, Cond.selects RX2 yX2_lookAtNight yX2_lookAtNight, Cond.code yX2_lookAtNight cX2_lookAtNight 2 none, Cond.fieldLink RX2 9 "WarmBottles$Keeping" "loss" "[I", Cond.fieldLink RX2 52 "WarmBottles$Night" "bed" "[I", Cond.fieldLink RX2 55 "WarmBottles$Night" "frost" "I", Cond.fieldLink RX2 15 "WarmBottles$Keeping" "warm" "[I", Cond.fieldLink RX2 61 "WarmBottles$Night" "warm" "[I", Cond.methodLink RX2 58 yX3_loss, Cond.instanceMethod yX3_loss, Cond.selects RX3 yX3_loss yX3_loss, Cond.initialized RX3, Cond.code yX3_loss cX3_loss 6 (some .int), Cond.fieldLink RX3 12 "WarmBottles$Night" "told" "LWarmBottles$Told;"]
def wsX2_first_r2 : List Cond := [Cond.fieldLink RX3 59 "WarmBottles$Told" "cools" "[I", Cond.fieldLink RX3 40 "WarmBottles$Told" "bottles" "I", Cond.methodLink RX3 47 Lib.Math.max.name, Cond.static Lib.Math.max.name, Cond.initialized "java/lang/Math", Cond.code Lib.Math.max.name Lib.Math.max.code 2 (some .int), Cond.methodLink RX2 31 yX2_mostFrom, Cond.instanceMethod yX2_mostFrom, Cond.selects RX2 yX2_mostFrom yX2_mostFrom, Cond.code yX2_mostFrom cX2_mostFrom 5 (some .int), Cond.methodLink RX2 62 Lib.Math.max.name, Cond.methodLink RX2 48 yX2_mostByFilling, Cond.instanceMethod yX2_mostByFilling, Cond.selects RX2 yX2_mostByFilling yX2_mostByFilling, Cond.code yX2_mostByFilling cX2_mostByFilling 5 (some .int), Cond.methodLink RX2 67 yX2_staysWarmByFilling, Cond.instanceMethod yX2_staysWarmByFilling, Cond.selects RX2 yX2_staysWarmByFilling yX2_staysWarmByFilling, Cond.code yX2_staysWarmByFilling cX2_staysWarmByFilling 6 (some .boolean), Cond.methodLink RX2 71 yX3_warmBy, Cond.instanceMethod yX3_warmBy, Cond.selects RX3 yX3_warmBy yX3_warmBy, Cond.code yX3_warmBy cX3_warmBy 3 (some .int), Cond.fieldLink RX3 53 "WarmBottles$Told" "pint" "I"]
def wsX2_first_r3 : List Cond := [Cond.methodLink RX3 56 Lib.Math.min.name, Cond.static Lib.Math.min.name, Cond.code Lib.Math.min.name Lib.Math.min.code 2 (some .int)]
def wsX2_first : List Cond := .code yX2_first cX2_first 3 (some .int) :: ((wsX2_first_r1 ++ (wsX2_first_r2 ++ wsX2_first_r3)) ++ wsX20 ++ wsX30 ++ wsX60)
def wsX6_beAsAtFirst : List Cond := .code yX6_beAsAtFirst cX6_beAsAtFirst 1 none :: ([.fieldLink RX6 24 "WarmBottles$Told" "bottles" "I", .fieldLink RX6 28 "WarmBottles$Told" "kettle" "I", .fieldLink RX6 31 "WarmBottles$Told" "pint" "I"] ++ wsX60)
def wsX6_init : List Cond := .code yX6_init cX6_init 1 none :: ([.methodLink RX6 3 objectInit, .instanceMethod objectInit, .code objectInit ⟨#[0xb1]⟩ 1 none, .arrayClass .int, .fieldLink RX6 9 "WarmBottles$Told" "warm" "[I", .fieldLink RX6 15 "WarmBottles$Told" "cools" "[I", .fieldLink RX6 18 "WarmBottles$Told" "speaks" "[I", .methodLink RX6 21 yX6_beAsAtFirst, .instanceMethod yX6_beAsAtFirst, .selects RX6 yX6_beAsAtFirst yX6_beAsAtFirst, .initialized RX6, .code yX6_beAsAtFirst cX6_beAsAtFirst 1 none, .fieldLink RX6 24 "WarmBottles$Told" "bottles" "I", .fieldLink RX6 28 "WarmBottles$Told" "kettle" "I", .fieldLink RX6 31 "WarmBottles$Told" "pint" "I"] ++ wsX60)
def wsX3_begin : List Cond := .code yX3_begin cX3_begin 2 none :: ([.fieldLink RX3 28 "WarmBottles$Night" "hour" "I", .fieldLink RX3 32 "WarmBottles$Night" "frost" "I", .fieldLink RX3 12 "WarmBottles$Night" "told" "LWarmBottles$Told;", .fieldLink RX3 35 "WarmBottles$Told" "kettle" "I", .fieldLink RX3 38 "WarmBottles$Night" "kettle" "I", .fieldLink RX3 18 "WarmBottles$Night" "warm" "[I", .fieldLink RX3 39 "WarmBottles$Told" "warm" "[I", .fieldLink RX3 22 "WarmBottles$Night" "bed" "[I"] ++ wsX30 ++ wsX60)
def wsX3_init_r1 : List Cond := [Cond.methodLink RX3 3 objectInit, Cond.instanceMethod objectInit, Cond.code objectInit ⟨#[0xb1]⟩ 1 none, Cond.classLink RX3 9 RX6, Cond.instantiable RX6 6, Cond.initialized RX6, Cond.fieldLink RX3 12 "WarmBottles$Night" "told" "LWarmBottles$Told;", Cond.arrayClass .int, Cond.fieldLink RX3 18 "WarmBottles$Night" "warm" "[I", Cond.fieldLink RX3 22 "WarmBottles$Night" "bed" "[I", Cond.methodLink RX3 11 yX6_init, Cond.instanceMethod yX6_init, Cond.code yX6_init cX6_init 1 none, Cond.methodLink RX6 3 objectInit, Cond.fieldLink RX6 9 "WarmBottles$Told" "warm" "[I", Cond.fieldLink RX6 15 "WarmBottles$Told" "cools" "[I", Cond.fieldLink RX6 18 "WarmBottles$Told" "speaks" "[I", Cond.methodLink RX6 21 yX6_beAsAtFirst, Cond.instanceMethod yX6_beAsAtFirst, Cond.selects RX6 yX6_beAsAtFirst yX6_beAsAtFirst, Cond.code yX6_beAsAtFirst cX6_beAsAtFirst 1 none, Cond.fieldLink RX6 24 "WarmBottles$Told" "bottles" "I", Cond.fieldLink RX6 28 "WarmBottles$Told" "kettle" "I", Cond.fieldLink RX6 31 "WarmBottles$Told" "pint" "I"]
def wsX3_init_r2 : List Cond := [Cond.methodLink RX3 25 yX3_begin, Cond.instanceMethod yX3_begin, Cond.selects RX3 yX3_begin yX3_begin, Cond.initialized RX3, Cond.code yX3_begin cX3_begin 2 none, Cond.fieldLink RX3 28 "WarmBottles$Night" "hour" "I", Cond.fieldLink RX3 32 "WarmBottles$Night" "frost" "I", Cond.fieldLink RX3 35 "WarmBottles$Told" "kettle" "I", Cond.fieldLink RX3 38 "WarmBottles$Night" "kettle" "I", Cond.fieldLink RX3 39 "WarmBottles$Told" "warm" "[I"]
def wsX3_init : List Cond := .code yX3_init cX3_init 1 none :: ((wsX3_init_r1 ++ wsX3_init_r2) ++ wsX60 ++ wsX30)
def wsX3_has : List Cond := .code yX3_has cX3_has 2 (some .boolean) :: ([.fieldLink RX3 12 "WarmBottles$Night" "told" "LWarmBottles$Told;", .fieldLink RX3 40 "WarmBottles$Told" "bottles" "I"] ++ wsX30 ++ wsX60)
def wsX3_numberWarm : List Cond := .code yX3_numberWarm cX3_numberWarm 3 (some .int) :: ([.fieldLink RX3 12 "WarmBottles$Night" "told" "LWarmBottles$Told;", .fieldLink RX3 40 "WarmBottles$Told" "bottles" "I", .fieldLink RX3 18 "WarmBottles$Night" "warm" "[I"] ++ wsX30 ++ wsX60)
def wsX3_letHourPass : List Cond := .code yX3_letHourPass cX3_letHourPass 2 none :: ([.fieldLink RX3 28 "WarmBottles$Night" "hour" "I", .fieldLink RX3 12 "WarmBottles$Night" "told" "LWarmBottles$Told;", .fieldLink RX3 40 "WarmBottles$Told" "bottles" "I", .fieldLink RX3 18 "WarmBottles$Night" "warm" "[I", .fieldLink RX3 22 "WarmBottles$Night" "bed" "[I", .fieldLink RX3 32 "WarmBottles$Night" "frost" "I", .methodLink RX3 47 Lib.Math.max.name, .static Lib.Math.max.name, .initialized "java/lang/Math", .code Lib.Math.max.name Lib.Math.max.code 2 (some .int), .methodLink RX3 43 yX3_loss, .instanceMethod yX3_loss, .selects RX3 yX3_loss yX3_loss, .initialized RX3, .code yX3_loss cX3_loss 6 (some .int), .fieldLink RX3 59 "WarmBottles$Told" "cools" "[I"] ++ wsX30 ++ wsX60)
def wsX3_lasts : List Cond := .code yX3_lasts cX3_lasts 4 (some .int) :: ([.fieldLink RX3 32 "WarmBottles$Night" "frost" "I", .fieldLink RX3 18 "WarmBottles$Night" "warm" "[I", .methodLink RX3 43 yX3_loss, .instanceMethod yX3_loss, .selects RX3 yX3_loss yX3_loss, .initialized RX3, .code yX3_loss cX3_loss 6 (some .int), .fieldLink RX3 12 "WarmBottles$Night" "told" "LWarmBottles$Told;", .fieldLink RX3 59 "WarmBottles$Told" "cools" "[I", .fieldLink RX3 40 "WarmBottles$Told" "bottles" "I", .methodLink RX3 47 Lib.Math.max.name, .static Lib.Math.max.name, .initialized "java/lang/Math", .code Lib.Math.max.name Lib.Math.max.code 2 (some .int)] ++ wsX30 ++ wsX60)
def wsX3_allLast : List Cond := .code yX3_allLast cX3_allLast 4 (some .int) :: ([.fieldLink RX3 12 "WarmBottles$Night" "told" "LWarmBottles$Told;", .fieldLink RX3 40 "WarmBottles$Told" "bottles" "I", .methodLink RX3 56 Lib.Math.min.name, .static Lib.Math.min.name, .initialized "java/lang/Math", .code Lib.Math.min.name Lib.Math.min.code 2 (some .int), .methodLink RX3 62 yX3_lasts, .instanceMethod yX3_lasts, .selects RX3 yX3_lasts yX3_lasts, .initialized RX3, .code yX3_lasts cX3_lasts 4 (some .int), .fieldLink RX3 32 "WarmBottles$Night" "frost" "I", .fieldLink RX3 18 "WarmBottles$Night" "warm" "[I", .methodLink RX3 43 yX3_loss, .instanceMethod yX3_loss, .selects RX3 yX3_loss yX3_loss, .code yX3_loss cX3_loss 6 (some .int), .fieldLink RX3 59 "WarmBottles$Told" "cools" "[I", .methodLink RX3 47 Lib.Math.max.name, .static Lib.Math.max.name, .code Lib.Math.max.name Lib.Math.max.code 2 (some .int)] ++ wsX30 ++ wsX60)
def wsX3_mostOfOneSound : List Cond := .code yX3_mostOfOneSound cX3_mostOfOneSound 7 (some .int) :: ([.fieldLink RX3 12 "WarmBottles$Night" "told" "LWarmBottles$Told;", .fieldLink RX3 40 "WarmBottles$Told" "bottles" "I", .methodLink RX3 47 Lib.Math.max.name, .static Lib.Math.max.name, .initialized "java/lang/Math", .code Lib.Math.max.name Lib.Math.max.code 2 (some .int), .methodLink RX3 69 yX3_soundIn, .instanceMethod yX3_soundIn, .selects RX3 yX3_soundIn yX3_soundIn, .initialized RX3, .code yX3_soundIn cX3_soundIn 4 (some .int), .fieldLink RX3 18 "WarmBottles$Night" "warm" "[I", .fieldLink RX3 22 "WarmBottles$Night" "bed" "[I", .fieldLink RX3 32 "WarmBottles$Night" "frost" "I", .fieldLink RX3 66 "WarmBottles$Told" "speaks" "[I", .methodLink RX3 43 yX3_loss, .instanceMethod yX3_loss, .selects RX3 yX3_loss yX3_loss, .code yX3_loss cX3_loss 6 (some .int), .fieldLink RX3 59 "WarmBottles$Told" "cools" "[I"] ++ wsX30 ++ wsX60)
def wsX3_pintsOf : List Cond := .code yX3_pintsOf cX3_pintsOf 5 (some .int) :: ([.fieldLink RX3 22 "WarmBottles$Night" "bed" "[I", .fieldLink RX3 32 "WarmBottles$Night" "frost" "I", .fieldLink RX3 18 "WarmBottles$Night" "warm" "[I", .methodLink RX3 43 yX3_loss, .instanceMethod yX3_loss, .selects RX3 yX3_loss yX3_loss, .initialized RX3, .code yX3_loss cX3_loss 6 (some .int), .fieldLink RX3 12 "WarmBottles$Night" "told" "LWarmBottles$Told;", .fieldLink RX3 59 "WarmBottles$Told" "cools" "[I", .fieldLink RX3 40 "WarmBottles$Told" "bottles" "I", .methodLink RX3 47 Lib.Math.max.name, .static Lib.Math.max.name, .initialized "java/lang/Math", .code Lib.Math.max.name Lib.Math.max.code 2 (some .int), .methodLink RX3 72 yX3_warmBy, .instanceMethod yX3_warmBy, .selects RX3 yX3_warmBy yX3_warmBy, .code yX3_warmBy cX3_warmBy 3 (some .int), .fieldLink RX3 53 "WarmBottles$Told" "pint" "I", .methodLink RX3 56 Lib.Math.min.name, .static Lib.Math.min.name, .code Lib.Math.min.name Lib.Math.min.code 2 (some .int)] ++ wsX30 ++ wsX60)
def wsX3_pintsOfAll_r1 : List Cond := [Cond.fieldLink RX3 12 "WarmBottles$Night" "told" "LWarmBottles$Told;", Cond.fieldLink RX3 40 "WarmBottles$Told" "bottles" "I", Cond.methodLink RX3 75 yX3_pintsOf, Cond.instanceMethod yX3_pintsOf, Cond.selects RX3 yX3_pintsOf yX3_pintsOf, Cond.initialized RX3, Cond.code yX3_pintsOf cX3_pintsOf 5 (some .int), Cond.fieldLink RX3 22 "WarmBottles$Night" "bed" "[I", Cond.fieldLink RX3 32 "WarmBottles$Night" "frost" "I", Cond.fieldLink RX3 18 "WarmBottles$Night" "warm" "[I", Cond.methodLink RX3 43 yX3_loss, Cond.instanceMethod yX3_loss, Cond.selects RX3 yX3_loss yX3_loss, Cond.code yX3_loss cX3_loss 6 (some .int), Cond.fieldLink RX3 59 "WarmBottles$Told" "cools" "[I", Cond.methodLink RX3 47 Lib.Math.max.name, Cond.static Lib.Math.max.name, Cond.initialized "java/lang/Math", Cond.code Lib.Math.max.name Lib.Math.max.code 2 (some .int), Cond.methodLink RX3 72 yX3_warmBy, Cond.instanceMethod yX3_warmBy, Cond.selects RX3 yX3_warmBy yX3_warmBy, Cond.code yX3_warmBy cX3_warmBy 3 (some .int), Cond.fieldLink RX3 53 "WarmBottles$Told" "pint" "I"]
def wsX3_pintsOfAll_r2 : List Cond := [Cond.methodLink RX3 56 Lib.Math.min.name, Cond.static Lib.Math.min.name, Cond.code Lib.Math.min.name Lib.Math.min.code 2 (some .int)]
def wsX3_pintsOfAll : List Cond := .code yX3_pintsOfAll cX3_pintsOfAll 5 (some .int) :: ((wsX3_pintsOfAll_r1 ++ wsX3_pintsOfAll_r2) ++ wsX30 ++ wsX60)
def wsX3_waysFrom : List Cond := .code yX3_waysFrom cX3_waysFrom 5 (some .int) :: ([.methodLink RX3 78 yX3_waysFrom, .static yX3_waysFrom, .initialized RX3])
def wsX3_waysStillWarm : List Cond := .code yX3_waysStillWarm cX3_waysStillWarm 6 (some .int) :: ([.fieldLink RX3 22 "WarmBottles$Night" "bed" "[I", .fieldLink RX3 32 "WarmBottles$Night" "frost" "I", .fieldLink RX3 18 "WarmBottles$Night" "warm" "[I", .methodLink RX3 43 yX3_loss, .instanceMethod yX3_loss, .selects RX3 yX3_loss yX3_loss, .initialized RX3, .code yX3_loss cX3_loss 6 (some .int), .fieldLink RX3 12 "WarmBottles$Night" "told" "LWarmBottles$Told;", .fieldLink RX3 59 "WarmBottles$Told" "cools" "[I", .fieldLink RX3 40 "WarmBottles$Told" "bottles" "I", .methodLink RX3 47 Lib.Math.max.name, .static Lib.Math.max.name, .initialized "java/lang/Math", .code Lib.Math.max.name Lib.Math.max.code 2 (some .int), .methodLink RX3 78 yX3_waysFrom, .static yX3_waysFrom, .code yX3_waysFrom cX3_waysFrom 5 (some .int)] ++ wsX30 ++ wsX60)
def wsX4_init : List Cond := .code yX4_init cX4_init 1 none :: ([.methodLink RX4 3 objectInit, .instanceMethod objectInit, .code objectInit ⟨#[0xb1]⟩ 1 none, .classLink RX4 9 RX0, .instantiable RX0 2, .initialized RX0, .fieldLink RX4 14 "WarmBottles$Past" "copies" "LWarmBottles$Copies;", .methodLink RX4 11 yX0_init, .instanceMethod yX0_init, .code yX0_init cX0_init 2 none, .methodLink RX0 5 objectInit, .methodLink RX0 11 Lib.Math.max.name, .static Lib.Math.max.name, .initialized "java/lang/Math", .code Lib.Math.max.name Lib.Math.max.code 2 (some .int), .fieldLink RX0 17 "WarmBottles$Copies" "slots" "I", .arrayClass .int, .fieldLink RX0 21 "WarmBottles$Copies" "cells" "[I"] ++ wsX00 ++ wsX40)
def wsX4_remember : List Cond := .code yX4_remember cX4_remember 2 none :: ([.fieldLink RX4 14 "WarmBottles$Past" "copies" "LWarmBottles$Copies;", .fieldLink RX4 20 "WarmBottles$Past" "next" "I", .fieldLink RX4 28 "WarmBottles$Past" "known" "I", .methodLink RX4 31 Lib.Math.min.name, .static Lib.Math.min.name, .initialized "java/lang/Math", .code Lib.Math.min.name Lib.Math.min.code 2 (some .int), .methodLink RX4 24 yX0_put, .instanceMethod yX0_put, .selects RX0 yX0_put yX0_put, .initialized RX0, .code yX0_put cX0_put 4 none, .fieldLink RX0 17 "WarmBottles$Copies" "slots" "I", .fieldLink RX0 21 "WarmBottles$Copies" "cells" "[I", .fieldLink RX0 25 "WarmBottles$Night" "hour" "I", .fieldLink RX0 30 "WarmBottles$Night" "frost" "I", .fieldLink RX0 33 "WarmBottles$Night" "kettle" "I", .fieldLink RX0 36 "WarmBottles$Night" "warm" "[I", .methodLink RX0 39 arraycopyName, .native arraycopyName, .static arraycopyName, .initialized "java/lang/System", .fieldLink RX0 45 "WarmBottles$Night" "bed" "[I"] ++ wsX40 ++ wsX00 ++ wsX30)
def wsX4_takeLatest : List Cond := .code yX4_takeLatest cX4_takeLatest 2 none :: ([.fieldLink RX4 20 "WarmBottles$Past" "next" "I", .fieldLink RX4 14 "WarmBottles$Past" "copies" "LWarmBottles$Copies;", .fieldLink RX4 28 "WarmBottles$Past" "known" "I", .methodLink RX4 37 yX0_take, .instanceMethod yX0_take, .selects RX0 yX0_take yX0_take, .initialized RX0, .code yX0_take cX0_take 4 none, .fieldLink RX0 17 "WarmBottles$Copies" "slots" "I", .fieldLink RX0 21 "WarmBottles$Copies" "cells" "[I", .fieldLink RX0 25 "WarmBottles$Night" "hour" "I", .fieldLink RX0 30 "WarmBottles$Night" "frost" "I", .fieldLink RX0 33 "WarmBottles$Night" "kettle" "I", .fieldLink RX0 36 "WarmBottles$Night" "warm" "[I", .methodLink RX0 39 arraycopyName, .native arraycopyName, .static arraycopyName, .initialized "java/lang/System", .fieldLink RX0 45 "WarmBottles$Night" "bed" "[I"] ++ wsX40 ++ wsX00 ++ wsX30)
def wsX5_init : List Cond := .code yX5_init cX5_init 1 none :: ([.methodLink RX5 3 objectInit, .instanceMethod objectInit, .code objectInit ⟨#[0xb1]⟩ 1 none, .arrayClass .char, .fieldLink RX5 9 "WarmBottles$Text" "letters" "[C"] ++ wsX50)
def wsX5_append : List Cond := .code yX5_append cX5_append 2 none :: ([.fieldLink RX5 15 "WarmBottles$Text" "length" "I", .fieldLink RX5 9 "WarmBottles$Text" "letters" "[C"] ++ wsX50)
def wsX5_isDigit : List Cond := .code yX5_isDigit cX5_isDigit 1 (some .boolean) :: ([])
def wsX5_readDigits : List Cond := .code yX5_readDigits cX5_readDigits 2 none :: ([.fieldLink RX5 71 "WarmBottles$Text" "value" "I", .fieldLink RX5 24 "WarmBottles$Text" "place" "I", .fieldLink RX5 15 "WarmBottles$Text" "length" "I", .fieldLink RX5 9 "WarmBottles$Text" "letters" "[C", .methodLink RX5 93 Lib.Math.min.name, .static Lib.Math.min.name, .initialized "java/lang/Math", .code Lib.Math.min.name Lib.Math.min.code 2 (some .int), .fieldLink RX5 44 "WarmBottles$Text" "start" "I", .fieldLink RX5 37 "WarmBottles$Text" "token" "I", .methodLink RX5 86 yX5_isDigit, .static yX5_isDigit, .initialized RX5, .code yX5_isDigit cX5_isDigit 1 (some .boolean)] ++ wsX50)
def wsX5_readToken : List Cond := .code yX5_readToken cX5_readToken 1 none :: ([.fieldLink RX5 24 "WarmBottles$Text" "place" "I", .fieldLink RX5 15 "WarmBottles$Text" "length" "I", .fieldLink RX5 9 "WarmBottles$Text" "letters" "[C", .fieldLink RX5 44 "WarmBottles$Text" "start" "I", .fieldLink RX5 37 "WarmBottles$Text" "token" "I", .methodLink RX5 86 yX5_isDigit, .static yX5_isDigit, .initialized RX5, .code yX5_isDigit cX5_isDigit 1 (some .boolean), .methodLink RX5 90 yX5_readDigits, .instanceMethod yX5_readDigits, .selects RX5 yX5_readDigits yX5_readDigits, .code yX5_readDigits cX5_readDigits 2 none, .fieldLink RX5 71 "WarmBottles$Text" "value" "I", .methodLink RX5 93 Lib.Math.min.name, .static Lib.Math.min.name, .initialized "java/lang/Math", .code Lib.Math.min.name Lib.Math.min.code 2 (some .int)] ++ wsX50)
def wsX5_readNumber : List Cond := .code yX5_readNumber cX5_readNumber 3 (some .boolean) :: ([.fieldLink RX5 37 "WarmBottles$Text" "token" "I", .fieldLink RX5 71 "WarmBottles$Text" "value" "I", .methodLink RX5 34 yX5_readToken, .instanceMethod yX5_readToken, .selects RX5 yX5_readToken yX5_readToken, .initialized RX5, .code yX5_readToken cX5_readToken 1 none, .fieldLink RX5 24 "WarmBottles$Text" "place" "I", .fieldLink RX5 15 "WarmBottles$Text" "length" "I", .fieldLink RX5 9 "WarmBottles$Text" "letters" "[C", .fieldLink RX5 44 "WarmBottles$Text" "start" "I", .methodLink RX5 86 yX5_isDigit, .static yX5_isDigit, .code yX5_isDigit cX5_isDigit 1 (some .boolean), .methodLink RX5 90 yX5_readDigits, .instanceMethod yX5_readDigits, .selects RX5 yX5_readDigits yX5_readDigits, .code yX5_readDigits cX5_readDigits 2 none, .methodLink RX5 93 Lib.Math.min.name, .static Lib.Math.min.name, .initialized "java/lang/Math", .code Lib.Math.min.name Lib.Math.min.code 2 (some .int)] ++ wsX50)
def wsX5_readBottle_r1 : List Cond := [Cond.fieldLink RX5 60 "WarmBottles$Told" "bottles" "I", Cond.fieldLink RX5 67 "WarmBottles$Told" "warm" "[I", Cond.fieldLink RX5 71 "WarmBottles$Text" "value" "I", Cond.fieldLink RX5 74 "WarmBottles$Told" "cools" "[I", Cond.fieldLink RX5 77 "WarmBottles$Told" "speaks" "[I", Cond.methodLink RX5 63 yX5_readNumber, Cond.instanceMethod yX5_readNumber, Cond.selects RX5 yX5_readNumber yX5_readNumber, Cond.initialized RX5, Cond.code yX5_readNumber cX5_readNumber 3 (some .boolean), Cond.fieldLink RX5 37 "WarmBottles$Text" "token" "I", Cond.methodLink RX5 34 yX5_readToken, Cond.instanceMethod yX5_readToken, Cond.selects RX5 yX5_readToken yX5_readToken, Cond.code yX5_readToken cX5_readToken 1 none, Cond.fieldLink RX5 24 "WarmBottles$Text" "place" "I", Cond.fieldLink RX5 15 "WarmBottles$Text" "length" "I", Cond.fieldLink RX5 9 "WarmBottles$Text" "letters" "[C", Cond.fieldLink RX5 44 "WarmBottles$Text" "start" "I", Cond.methodLink RX5 86 yX5_isDigit, Cond.static yX5_isDigit, Cond.code yX5_isDigit cX5_isDigit 1 (some .boolean), Cond.methodLink RX5 90 yX5_readDigits, Cond.instanceMethod yX5_readDigits]
def wsX5_readBottle_r2 : List Cond := [Cond.selects RX5 yX5_readDigits yX5_readDigits, Cond.code yX5_readDigits cX5_readDigits 2 none, Cond.methodLink RX5 93 Lib.Math.min.name, Cond.static Lib.Math.min.name, Cond.initialized "java/lang/Math", Cond.code Lib.Math.min.name Lib.Math.min.code 2 (some .int)]
def wsX5_readBottle : List Cond := .code yX5_readBottle cX5_readBottle 3 (some .boolean) :: ((wsX5_readBottle_r1 ++ wsX5_readBottle_r2) ++ wsX60 ++ wsX50)
def wsX5_readSemicolon : List Cond := .code yX5_readSemicolon cX5_readSemicolon 1 (some .boolean) :: ([.fieldLink RX5 37 "WarmBottles$Text" "token" "I", .methodLink RX5 34 yX5_readToken, .instanceMethod yX5_readToken, .selects RX5 yX5_readToken yX5_readToken, .initialized RX5, .code yX5_readToken cX5_readToken 1 none, .fieldLink RX5 24 "WarmBottles$Text" "place" "I", .fieldLink RX5 15 "WarmBottles$Text" "length" "I", .fieldLink RX5 9 "WarmBottles$Text" "letters" "[C", .fieldLink RX5 44 "WarmBottles$Text" "start" "I", .methodLink RX5 86 yX5_isDigit, .static yX5_isDigit, .code yX5_isDigit cX5_isDigit 1 (some .boolean), .methodLink RX5 90 yX5_readDigits, .instanceMethod yX5_readDigits, .selects RX5 yX5_readDigits yX5_readDigits, .code yX5_readDigits cX5_readDigits 2 none, .fieldLink RX5 71 "WarmBottles$Text" "value" "I", .methodLink RX5 93 Lib.Math.min.name, .static Lib.Math.min.name, .initialized "java/lang/Math", .code Lib.Math.min.name Lib.Math.min.code 2 (some .int)] ++ wsX50)
def wsX5_readKettle_r1 : List Cond := [Cond.fieldLink RX5 27 "WarmBottles$Text" "kettleTold" "Z", Cond.fieldLink RX5 71 "WarmBottles$Text" "value" "I", Cond.fieldLink RX5 80 "WarmBottles$Told" "kettle" "I", Cond.methodLink RX5 63 yX5_readNumber, Cond.instanceMethod yX5_readNumber, Cond.selects RX5 yX5_readNumber yX5_readNumber, Cond.initialized RX5, Cond.code yX5_readNumber cX5_readNumber 3 (some .boolean), Cond.fieldLink RX5 37 "WarmBottles$Text" "token" "I", Cond.methodLink RX5 34 yX5_readToken, Cond.instanceMethod yX5_readToken, Cond.selects RX5 yX5_readToken yX5_readToken, Cond.code yX5_readToken cX5_readToken 1 none, Cond.fieldLink RX5 24 "WarmBottles$Text" "place" "I", Cond.fieldLink RX5 15 "WarmBottles$Text" "length" "I", Cond.fieldLink RX5 9 "WarmBottles$Text" "letters" "[C", Cond.fieldLink RX5 44 "WarmBottles$Text" "start" "I", Cond.methodLink RX5 86 yX5_isDigit, Cond.static yX5_isDigit, Cond.code yX5_isDigit cX5_isDigit 1 (some .boolean), Cond.methodLink RX5 90 yX5_readDigits, Cond.instanceMethod yX5_readDigits, Cond.selects RX5 yX5_readDigits yX5_readDigits, Cond.code yX5_readDigits cX5_readDigits 2 none]
def wsX5_readKettle_r2 : List Cond := [Cond.methodLink RX5 93 Lib.Math.min.name, Cond.static Lib.Math.min.name, Cond.initialized "java/lang/Math", Cond.code Lib.Math.min.name Lib.Math.min.code 2 (some .int)]
def wsX5_readKettle : List Cond := .code yX5_readKettle cX5_readKettle 2 (some .boolean) :: ((wsX5_readKettle_r1 ++ wsX5_readKettle_r2) ++ wsX50 ++ wsX60)
def wsX5_readPint_r1 : List Cond := [Cond.fieldLink RX5 31 "WarmBottles$Text" "pintTold" "Z", Cond.fieldLink RX5 71 "WarmBottles$Text" "value" "I", Cond.fieldLink RX5 83 "WarmBottles$Told" "pint" "I", Cond.methodLink RX5 63 yX5_readNumber, Cond.instanceMethod yX5_readNumber, Cond.selects RX5 yX5_readNumber yX5_readNumber, Cond.initialized RX5, Cond.code yX5_readNumber cX5_readNumber 3 (some .boolean), Cond.fieldLink RX5 37 "WarmBottles$Text" "token" "I", Cond.methodLink RX5 34 yX5_readToken, Cond.instanceMethod yX5_readToken, Cond.selects RX5 yX5_readToken yX5_readToken, Cond.code yX5_readToken cX5_readToken 1 none, Cond.fieldLink RX5 24 "WarmBottles$Text" "place" "I", Cond.fieldLink RX5 15 "WarmBottles$Text" "length" "I", Cond.fieldLink RX5 9 "WarmBottles$Text" "letters" "[C", Cond.fieldLink RX5 44 "WarmBottles$Text" "start" "I", Cond.methodLink RX5 86 yX5_isDigit, Cond.static yX5_isDigit, Cond.code yX5_isDigit cX5_isDigit 1 (some .boolean), Cond.methodLink RX5 90 yX5_readDigits, Cond.instanceMethod yX5_readDigits, Cond.selects RX5 yX5_readDigits yX5_readDigits, Cond.code yX5_readDigits cX5_readDigits 2 none]
def wsX5_readPint_r2 : List Cond := [Cond.methodLink RX5 93 Lib.Math.min.name, Cond.static Lib.Math.min.name, Cond.initialized "java/lang/Math", Cond.code Lib.Math.min.name Lib.Math.min.code 2 (some .int)]
def wsX5_readPint : List Cond := .code yX5_readPint cX5_readPint 2 (some .boolean) :: ((wsX5_readPint_r1 ++ wsX5_readPint_r2) ++ wsX50 ++ wsX60)
def wsX5_readItem_r1 : List Cond := [Cond.fieldLink RX5 37 "WarmBottles$Text" "token" "I", Cond.methodLink RX5 47 yX5_readBottle, Cond.instanceMethod yX5_readBottle, Cond.selects RX5 yX5_readBottle yX5_readBottle, Cond.initialized RX5, Cond.code yX5_readBottle cX5_readBottle 3 (some .boolean), Cond.fieldLink RX5 60 "WarmBottles$Told" "bottles" "I", Cond.fieldLink RX5 67 "WarmBottles$Told" "warm" "[I", Cond.fieldLink RX5 71 "WarmBottles$Text" "value" "I", Cond.fieldLink RX5 74 "WarmBottles$Told" "cools" "[I", Cond.fieldLink RX5 77 "WarmBottles$Told" "speaks" "[I", Cond.methodLink RX5 63 yX5_readNumber, Cond.instanceMethod yX5_readNumber, Cond.selects RX5 yX5_readNumber yX5_readNumber, Cond.code yX5_readNumber cX5_readNumber 3 (some .boolean), Cond.methodLink RX5 34 yX5_readToken, Cond.instanceMethod yX5_readToken, Cond.selects RX5 yX5_readToken yX5_readToken, Cond.code yX5_readToken cX5_readToken 1 none, Cond.fieldLink RX5 24 "WarmBottles$Text" "place" "I", Cond.fieldLink RX5 15 "WarmBottles$Text" "length" "I", Cond.fieldLink RX5 9 "WarmBottles$Text" "letters" "[C", Cond.fieldLink RX5 44 "WarmBottles$Text" "start" "I", Cond.methodLink RX5 86 yX5_isDigit]
def wsX5_readItem_r2 : List Cond := [Cond.static yX5_isDigit, Cond.code yX5_isDigit cX5_isDigit 1 (some .boolean), Cond.methodLink RX5 90 yX5_readDigits, Cond.instanceMethod yX5_readDigits, Cond.selects RX5 yX5_readDigits yX5_readDigits, Cond.code yX5_readDigits cX5_readDigits 2 none, Cond.methodLink RX5 93 Lib.Math.min.name, Cond.static Lib.Math.min.name, Cond.initialized "java/lang/Math", Cond.code Lib.Math.min.name Lib.Math.min.code 2 (some .int), Cond.methodLink RX5 50 yX5_readSemicolon, Cond.instanceMethod yX5_readSemicolon, Cond.selects RX5 yX5_readSemicolon yX5_readSemicolon, Cond.code yX5_readSemicolon cX5_readSemicolon 1 (some .boolean), Cond.methodLink RX5 54 yX5_readKettle, Cond.instanceMethod yX5_readKettle, Cond.selects RX5 yX5_readKettle yX5_readKettle, Cond.code yX5_readKettle cX5_readKettle 2 (some .boolean), Cond.fieldLink RX5 27 "WarmBottles$Text" "kettleTold" "Z", Cond.fieldLink RX5 80 "WarmBottles$Told" "kettle" "I", Cond.methodLink RX5 57 yX5_readPint, Cond.instanceMethod yX5_readPint, Cond.selects RX5 yX5_readPint yX5_readPint, Cond.code yX5_readPint cX5_readPint 2 (some .boolean)]
def wsX5_readItem_r3 : List Cond := [Cond.fieldLink RX5 31 "WarmBottles$Text" "pintTold" "Z", Cond.fieldLink RX5 83 "WarmBottles$Told" "pint" "I"]
def wsX5_readItem : List Cond := .code yX5_readItem cX5_readItem 2 (some .boolean) :: ((wsX5_readItem_r1 ++ (wsX5_readItem_r2 ++ wsX5_readItem_r3)) ++ wsX50 ++ wsX60)
def wsX5_read_r1 : List Cond := [Cond.fieldLink RX5 24 "WarmBottles$Text" "place" "I", Cond.fieldLink RX5 27 "WarmBottles$Text" "kettleTold" "Z", Cond.fieldLink RX5 31 "WarmBottles$Text" "pintTold" "Z", Cond.fieldLink RX5 15 "WarmBottles$Text" "length" "I", Cond.fieldLink RX5 37 "WarmBottles$Text" "token" "I", Cond.fieldLink RX5 44 "WarmBottles$Text" "start" "I", Cond.methodLink RX5 19 yX6_beAsAtFirst, Cond.instanceMethod yX6_beAsAtFirst, Cond.selects RX6 yX6_beAsAtFirst yX6_beAsAtFirst, Cond.initialized RX6, Cond.code yX6_beAsAtFirst cX6_beAsAtFirst 1 none, Cond.fieldLink RX6 24 "WarmBottles$Told" "bottles" "I", Cond.fieldLink RX6 28 "WarmBottles$Told" "kettle" "I", Cond.fieldLink RX6 31 "WarmBottles$Told" "pint" "I", Cond.methodLink RX5 34 yX5_readToken, Cond.instanceMethod yX5_readToken, Cond.selects RX5 yX5_readToken yX5_readToken, Cond.initialized RX5, Cond.code yX5_readToken cX5_readToken 1 none, Cond.fieldLink RX5 9 "WarmBottles$Text" "letters" "[C", Cond.methodLink RX5 86 yX5_isDigit, Cond.static yX5_isDigit, Cond.code yX5_isDigit cX5_isDigit 1 (some .boolean), Cond.methodLink RX5 90 yX5_readDigits]
def wsX5_read_r2 : List Cond := [Cond.instanceMethod yX5_readDigits, Cond.selects RX5 yX5_readDigits yX5_readDigits, Cond.code yX5_readDigits cX5_readDigits 2 none, Cond.fieldLink RX5 71 "WarmBottles$Text" "value" "I", Cond.methodLink RX5 93 Lib.Math.min.name, Cond.static Lib.Math.min.name, Cond.initialized "java/lang/Math", Cond.code Lib.Math.min.name Lib.Math.min.code 2 (some .int), Cond.methodLink RX5 40 yX5_readItem, Cond.instanceMethod yX5_readItem, Cond.selects RX5 yX5_readItem yX5_readItem, Cond.code yX5_readItem cX5_readItem 2 (some .boolean), Cond.methodLink RX5 47 yX5_readBottle, Cond.instanceMethod yX5_readBottle, Cond.selects RX5 yX5_readBottle yX5_readBottle, Cond.code yX5_readBottle cX5_readBottle 3 (some .boolean), Cond.fieldLink RX5 60 "WarmBottles$Told" "bottles" "I", Cond.fieldLink RX5 67 "WarmBottles$Told" "warm" "[I", Cond.fieldLink RX5 74 "WarmBottles$Told" "cools" "[I", Cond.fieldLink RX5 77 "WarmBottles$Told" "speaks" "[I", Cond.methodLink RX5 63 yX5_readNumber, Cond.instanceMethod yX5_readNumber, Cond.selects RX5 yX5_readNumber yX5_readNumber, Cond.code yX5_readNumber cX5_readNumber 3 (some .boolean)]
def wsX5_read_r3 : List Cond := [Cond.methodLink RX5 50 yX5_readSemicolon, Cond.instanceMethod yX5_readSemicolon, Cond.selects RX5 yX5_readSemicolon yX5_readSemicolon, Cond.code yX5_readSemicolon cX5_readSemicolon 1 (some .boolean), Cond.methodLink RX5 54 yX5_readKettle, Cond.instanceMethod yX5_readKettle, Cond.selects RX5 yX5_readKettle yX5_readKettle, Cond.code yX5_readKettle cX5_readKettle 2 (some .boolean), Cond.fieldLink RX5 80 "WarmBottles$Told" "kettle" "I", Cond.methodLink RX5 57 yX5_readPint, Cond.instanceMethod yX5_readPint, Cond.selects RX5 yX5_readPint yX5_readPint, Cond.code yX5_readPint cX5_readPint 2 (some .boolean), Cond.fieldLink RX5 83 "WarmBottles$Told" "pint" "I"]
def wsX5_read : List Cond := .code yX5_read cX5_read 3 (some .int) :: ((wsX5_read_r1 ++ (wsX5_read_r2 ++ wsX5_read_r3)) ++ wsX50 ++ wsX60)
def wsX6_become : List Cond := .code yX6_become cX6_become 2 none :: ([.fieldLink RX6 24 "WarmBottles$Told" "bottles" "I", .fieldLink RX6 28 "WarmBottles$Told" "kettle" "I", .fieldLink RX6 31 "WarmBottles$Told" "pint" "I", .fieldLink RX6 9 "WarmBottles$Told" "warm" "[I", .methodLink RX6 34 arraycopyName, .native arraycopyName, .static arraycopyName, .initialized "java/lang/System", .fieldLink RX6 15 "WarmBottles$Told" "cools" "[I", .fieldLink RX6 18 "WarmBottles$Told" "speaks" "[I"] ++ wsX60)
def wsX7_init_r1 : List Cond := [Cond.methodLink RX7 1 objectInit, Cond.instanceMethod objectInit, Cond.code objectInit ⟨#[0xb1]⟩ 1 none, Cond.classLink RX7 7 RX5, Cond.instantiable RX5 8, Cond.initialized RX5, Cond.fieldLink RX7 10 "WarmBottles" "text" "LWarmBottles$Text;", Cond.classLink RX7 16 RX6, Cond.instantiable RX6 6, Cond.initialized RX6, Cond.fieldLink RX7 19 "WarmBottles" "draft" "LWarmBottles$Told;", Cond.classLink RX7 23 RX3, Cond.instantiable RX3 6, Cond.initialized RX3, Cond.fieldLink RX7 26 "WarmBottles" "night" "LWarmBottles$Night;", Cond.classLink RX7 30 RX4, Cond.instantiable RX4 3, Cond.initialized RX4, Cond.fieldLink RX7 33 "WarmBottles" "past" "LWarmBottles$Past;", Cond.classLink RX7 37 RX0, Cond.instantiable RX0 2, Cond.initialized RX0, Cond.fieldLink RX7 42 "WarmBottles" "images" "LWarmBottles$Copies;", Cond.arrayClass .boolean]
def wsX7_init_r2 : List Cond := [Cond.fieldLink RX7 46 "WarmBottles" "imageKept" "[Z", Cond.classLink RX7 50 RX1, Cond.instantiable RX1 3, Cond.initialized RX1, Cond.fieldLink RX7 53 "WarmBottles" "heard" "LWarmBottles$Heard;", Cond.classLink RX7 57 RX2, Cond.instantiable RX2 3, Cond.initialized RX2, Cond.fieldLink RX7 62 "WarmBottles" "keeping" "LWarmBottles$Keeping;", Cond.instanceMethod yX5_init, Cond.code yX5_init cX5_init 1 none, Cond.methodLink RX5 3 objectInit, Cond.arrayClass .char, Cond.fieldLink RX5 9 "WarmBottles$Text" "letters" "[C", Cond.methodLink RX7 18 yX6_init, Cond.instanceMethod yX6_init, Cond.code yX6_init cX6_init 1 none, Cond.methodLink RX6 3 objectInit, Cond.arrayClass .int, Cond.fieldLink RX6 9 "WarmBottles$Told" "warm" "[I", Cond.fieldLink RX6 15 "WarmBottles$Told" "cools" "[I", Cond.fieldLink RX6 18 "WarmBottles$Told" "speaks" "[I", Cond.methodLink RX6 21 yX6_beAsAtFirst, Cond.instanceMethod yX6_beAsAtFirst]
def wsX7_init_r3 : List Cond := [Cond.selects RX6 yX6_beAsAtFirst yX6_beAsAtFirst, Cond.code yX6_beAsAtFirst cX6_beAsAtFirst 1 none, Cond.fieldLink RX6 24 "WarmBottles$Told" "bottles" "I", Cond.fieldLink RX6 28 "WarmBottles$Told" "kettle" "I", Cond.fieldLink RX6 31 "WarmBottles$Told" "pint" "I", Cond.methodLink RX7 25 yX3_init, Cond.instanceMethod yX3_init, Cond.code yX3_init cX3_init 1 none, Cond.methodLink RX3 3 objectInit, Cond.classLink RX3 9 RX6, Cond.fieldLink RX3 12 "WarmBottles$Night" "told" "LWarmBottles$Told;", Cond.fieldLink RX3 18 "WarmBottles$Night" "warm" "[I", Cond.fieldLink RX3 22 "WarmBottles$Night" "bed" "[I", Cond.methodLink RX3 11 yX6_init, Cond.methodLink RX3 25 yX3_begin, Cond.instanceMethod yX3_begin, Cond.selects RX3 yX3_begin yX3_begin, Cond.code yX3_begin cX3_begin 2 none, Cond.fieldLink RX3 28 "WarmBottles$Night" "hour" "I", Cond.fieldLink RX3 32 "WarmBottles$Night" "frost" "I", Cond.fieldLink RX3 35 "WarmBottles$Told" "kettle" "I", Cond.fieldLink RX3 38 "WarmBottles$Night" "kettle" "I", Cond.fieldLink RX3 39 "WarmBottles$Told" "warm" "[I", Cond.instanceMethod yX4_init]
def wsX7_init_r4 : List Cond := [Cond.code yX4_init cX4_init 1 none, Cond.methodLink RX4 3 objectInit, Cond.classLink RX4 9 RX0, Cond.fieldLink RX4 14 "WarmBottles$Past" "copies" "LWarmBottles$Copies;", Cond.methodLink RX4 11 yX0_init, Cond.instanceMethod yX0_init, Cond.code yX0_init cX0_init 2 none, Cond.methodLink RX0 5 objectInit, Cond.methodLink RX0 11 Lib.Math.max.name, Cond.static Lib.Math.max.name, Cond.initialized "java/lang/Math", Cond.code Lib.Math.max.name Lib.Math.max.code 2 (some .int), Cond.fieldLink RX0 17 "WarmBottles$Copies" "slots" "I", Cond.fieldLink RX0 21 "WarmBottles$Copies" "cells" "[I", Cond.methodLink RX7 39 yX0_init, Cond.instanceMethod yX1_init, Cond.code yX1_init cX1_init 1 none, Cond.methodLink RX1 3 objectInit, Cond.fieldLink RX1 9 "WarmBottles$Heard" "hours" "[I", Cond.fieldLink RX1 15 "WarmBottles$Heard" "sounds" "[I", Cond.methodLink RX7 59 yX2_init, Cond.instanceMethod yX2_init, Cond.code yX2_init cX2_init 2 none, Cond.methodLink RX2 3 objectInit]
def wsX7_init_r5 : List Cond := [Cond.fieldLink RX2 9 "WarmBottles$Keeping" "loss" "[I", Cond.fieldLink RX2 15 "WarmBottles$Keeping" "warm" "[I", Cond.fieldLink RX2 18 "WarmBottles$Keeping" "night" "LWarmBottles$Night;"]
def wsX7_init : List Cond := .code yX7_init cX7_init 1 none :: ((wsX7_init_r1 ++ (wsX7_init_r2 ++ (wsX7_init_r3 ++ (wsX7_init_r4 ++ wsX7_init_r5)))) ++ wsX50 ++ wsX70 ++ wsX60 ++ wsX30 ++ wsX40 ++ wsX00 ++ wsX10 ++ wsX20)
def wsX7_type : List Cond := .code yX7_type cX7_type 2 (some .int) :: ([.fieldLink RX7 10 "WarmBottles" "text" "LWarmBottles$Text;", .fieldLink RX7 66 "WarmBottles$Text" "length" "I", .methodLink RX7 70 yX5_append, .instanceMethod yX5_append, .selects RX5 yX5_append yX5_append, .initialized RX5, .code yX5_append cX5_append 2 none, .fieldLink RX5 15 "WarmBottles$Text" "length" "I", .fieldLink RX5 9 "WarmBottles$Text" "letters" "[C"] ++ wsX70 ++ wsX50)
def wsX7_clear : List Cond := .code yX7_clear cX7_clear 2 (some .int) :: ([.fieldLink RX7 10 "WarmBottles" "text" "LWarmBottles$Text;", .fieldLink RX7 66 "WarmBottles$Text" "length" "I"] ++ wsX70 ++ wsX50)
def wsX7_ward_r1 : List Cond := [Cond.fieldLink RX7 10 "WarmBottles" "text" "LWarmBottles$Text;", Cond.fieldLink RX7 19 "WarmBottles" "draft" "LWarmBottles$Told;", Cond.fieldLink RX7 26 "WarmBottles" "night" "LWarmBottles$Night;", Cond.fieldLink RX7 78 "WarmBottles$Night" "told" "LWarmBottles$Told;", Cond.fieldLink RX7 33 "WarmBottles" "past" "LWarmBottles$Past;", Cond.fieldLink RX7 88 "WarmBottles$Past" "known" "I", Cond.fieldLink RX7 53 "WarmBottles" "heard" "LWarmBottles$Heard;", Cond.fieldLink RX7 91 "WarmBottles$Heard" "number" "I", Cond.fieldLink RX7 46 "WarmBottles" "imageKept" "[Z", Cond.fieldLink RX7 66 "WarmBottles$Text" "length" "I", Cond.methodLink RX7 74 yX5_read, Cond.instanceMethod yX5_read, Cond.selects RX5 yX5_read yX5_read, Cond.initialized RX5, Cond.code yX5_read cX5_read 3 (some .int), Cond.fieldLink RX5 24 "WarmBottles$Text" "place" "I", Cond.fieldLink RX5 27 "WarmBottles$Text" "kettleTold" "Z", Cond.fieldLink RX5 31 "WarmBottles$Text" "pintTold" "Z", Cond.fieldLink RX5 15 "WarmBottles$Text" "length" "I", Cond.fieldLink RX5 37 "WarmBottles$Text" "token" "I", Cond.fieldLink RX5 44 "WarmBottles$Text" "start" "I", Cond.methodLink RX5 19 yX6_beAsAtFirst, Cond.instanceMethod yX6_beAsAtFirst, Cond.selects RX6 yX6_beAsAtFirst yX6_beAsAtFirst]
def wsX7_ward_r2 : List Cond := [Cond.initialized RX6, Cond.code yX6_beAsAtFirst cX6_beAsAtFirst 1 none, Cond.fieldLink RX6 24 "WarmBottles$Told" "bottles" "I", Cond.fieldLink RX6 28 "WarmBottles$Told" "kettle" "I", Cond.fieldLink RX6 31 "WarmBottles$Told" "pint" "I", Cond.methodLink RX5 34 yX5_readToken, Cond.instanceMethod yX5_readToken, Cond.selects RX5 yX5_readToken yX5_readToken, Cond.code yX5_readToken cX5_readToken 1 none, Cond.fieldLink RX5 9 "WarmBottles$Text" "letters" "[C", Cond.methodLink RX5 86 yX5_isDigit, Cond.static yX5_isDigit, Cond.code yX5_isDigit cX5_isDigit 1 (some .boolean), Cond.methodLink RX5 90 yX5_readDigits, Cond.instanceMethod yX5_readDigits, Cond.selects RX5 yX5_readDigits yX5_readDigits, Cond.code yX5_readDigits cX5_readDigits 2 none, Cond.fieldLink RX5 71 "WarmBottles$Text" "value" "I", Cond.methodLink RX5 93 Lib.Math.min.name, Cond.static Lib.Math.min.name, Cond.initialized "java/lang/Math", Cond.code Lib.Math.min.name Lib.Math.min.code 2 (some .int), Cond.methodLink RX5 40 yX5_readItem, Cond.instanceMethod yX5_readItem]
def wsX7_ward_r3 : List Cond := [Cond.selects RX5 yX5_readItem yX5_readItem, Cond.code yX5_readItem cX5_readItem 2 (some .boolean), Cond.methodLink RX5 47 yX5_readBottle, Cond.instanceMethod yX5_readBottle, Cond.selects RX5 yX5_readBottle yX5_readBottle, Cond.code yX5_readBottle cX5_readBottle 3 (some .boolean), Cond.fieldLink RX5 60 "WarmBottles$Told" "bottles" "I", Cond.fieldLink RX5 67 "WarmBottles$Told" "warm" "[I", Cond.fieldLink RX5 74 "WarmBottles$Told" "cools" "[I", Cond.fieldLink RX5 77 "WarmBottles$Told" "speaks" "[I", Cond.methodLink RX5 63 yX5_readNumber, Cond.instanceMethod yX5_readNumber, Cond.selects RX5 yX5_readNumber yX5_readNumber, Cond.code yX5_readNumber cX5_readNumber 3 (some .boolean), Cond.methodLink RX5 50 yX5_readSemicolon, Cond.instanceMethod yX5_readSemicolon, Cond.selects RX5 yX5_readSemicolon yX5_readSemicolon, Cond.code yX5_readSemicolon cX5_readSemicolon 1 (some .boolean), Cond.methodLink RX5 54 yX5_readKettle, Cond.instanceMethod yX5_readKettle, Cond.selects RX5 yX5_readKettle yX5_readKettle, Cond.code yX5_readKettle cX5_readKettle 2 (some .boolean), Cond.fieldLink RX5 80 "WarmBottles$Told" "kettle" "I", Cond.methodLink RX5 57 yX5_readPint]
def wsX7_ward_r4 : List Cond := [Cond.instanceMethod yX5_readPint, Cond.selects RX5 yX5_readPint yX5_readPint, Cond.code yX5_readPint cX5_readPint 2 (some .boolean), Cond.fieldLink RX5 83 "WarmBottles$Told" "pint" "I", Cond.methodLink RX7 81 yX6_become, Cond.instanceMethod yX6_become, Cond.selects RX6 yX6_become yX6_become, Cond.code yX6_become cX6_become 2 none, Cond.fieldLink RX6 9 "WarmBottles$Told" "warm" "[I", Cond.methodLink RX6 34 arraycopyName, Cond.native arraycopyName, Cond.static arraycopyName, Cond.initialized "java/lang/System", Cond.fieldLink RX6 15 "WarmBottles$Told" "cools" "[I", Cond.fieldLink RX6 18 "WarmBottles$Told" "speaks" "[I", Cond.methodLink RX7 85 yX3_begin, Cond.instanceMethod yX3_begin, Cond.selects RX3 yX3_begin yX3_begin, Cond.initialized RX3, Cond.code yX3_begin cX3_begin 2 none, Cond.fieldLink RX3 28 "WarmBottles$Night" "hour" "I", Cond.fieldLink RX3 32 "WarmBottles$Night" "frost" "I", Cond.fieldLink RX3 12 "WarmBottles$Night" "told" "LWarmBottles$Told;", Cond.fieldLink RX3 35 "WarmBottles$Told" "kettle" "I"]
def wsX7_ward_r5 : List Cond := [Cond.fieldLink RX3 38 "WarmBottles$Night" "kettle" "I", Cond.fieldLink RX3 18 "WarmBottles$Night" "warm" "[I", Cond.fieldLink RX3 39 "WarmBottles$Told" "warm" "[I", Cond.fieldLink RX3 22 "WarmBottles$Night" "bed" "[I"]
def wsX7_ward : List Cond := .code yX7_ward cX7_ward 3 (some .int) :: ((wsX7_ward_r1 ++ (wsX7_ward_r2 ++ (wsX7_ward_r3 ++ (wsX7_ward_r4 ++ wsX7_ward_r5)))) ++ wsX70 ++ wsX30 ++ wsX40 ++ wsX10 ++ wsX50 ++ wsX60)
def wsX7_bottle_r1 : List Cond := [Cond.fieldLink RX7 26 "WarmBottles" "night" "LWarmBottles$Night;", Cond.fieldLink RX7 98 "WarmBottles$Night" "warm" "[I", Cond.fieldLink RX7 78 "WarmBottles$Night" "told" "LWarmBottles$Told;", Cond.fieldLink RX7 102 "WarmBottles$Told" "cools" "[I", Cond.fieldLink RX7 105 "WarmBottles$Told" "speaks" "[I", Cond.fieldLink RX7 108 "WarmBottles$Night" "bed" "[I", Cond.methodLink RX7 94 yX3_has, Cond.instanceMethod yX3_has, Cond.selects RX3 yX3_has yX3_has, Cond.initialized RX3, Cond.code yX3_has cX3_has 2 (some .boolean), Cond.fieldLink RX3 12 "WarmBottles$Night" "told" "LWarmBottles$Told;", Cond.fieldLink RX3 40 "WarmBottles$Told" "bottles" "I", Cond.methodLink RX7 111 yX3_soundIn, Cond.instanceMethod yX3_soundIn, Cond.selects RX3 yX3_soundIn yX3_soundIn, Cond.code yX3_soundIn cX3_soundIn 4 (some .int), Cond.fieldLink RX3 18 "WarmBottles$Night" "warm" "[I", Cond.fieldLink RX3 22 "WarmBottles$Night" "bed" "[I", Cond.fieldLink RX3 32 "WarmBottles$Night" "frost" "I", Cond.fieldLink RX3 66 "WarmBottles$Told" "speaks" "[I", Cond.methodLink RX3 43 yX3_loss, Cond.instanceMethod yX3_loss, Cond.selects RX3 yX3_loss yX3_loss]
def wsX7_bottle_r2 : List Cond := [Cond.code yX3_loss cX3_loss 6 (some .int), Cond.fieldLink RX3 59 "WarmBottles$Told" "cools" "[I", Cond.methodLink RX3 47 Lib.Math.max.name, Cond.static Lib.Math.max.name, Cond.initialized "java/lang/Math", Cond.code Lib.Math.max.name Lib.Math.max.code 2 (some .int), Cond.methodLink RX7 115 yX3_lasts, Cond.instanceMethod yX3_lasts, Cond.selects RX3 yX3_lasts yX3_lasts, Cond.code yX3_lasts cX3_lasts 4 (some .int)]
def wsX7_bottle : List Cond := .code yX7_bottle cX7_bottle 3 (some .int) :: ((wsX7_bottle_r1 ++ wsX7_bottle_r2) ++ wsX70 ++ wsX30 ++ wsX60)
def wsX7_now_r1 : List Cond := [Cond.fieldLink RX7 26 "WarmBottles" "night" "LWarmBottles$Night;", Cond.fieldLink RX7 119 "WarmBottles$Night" "hour" "I", Cond.fieldLink RX7 122 "WarmBottles$Night" "frost" "I", Cond.fieldLink RX7 125 "WarmBottles$Night" "kettle" "I", Cond.fieldLink RX7 78 "WarmBottles$Night" "told" "LWarmBottles$Told;", Cond.fieldLink RX7 128 "WarmBottles$Told" "bottles" "I", Cond.fieldLink RX7 108 "WarmBottles$Night" "bed" "[I", Cond.fieldLink RX7 33 "WarmBottles" "past" "LWarmBottles$Past;", Cond.fieldLink RX7 88 "WarmBottles$Past" "known" "I", Cond.methodLink RX7 131 yX3_allLast, Cond.instanceMethod yX3_allLast, Cond.selects RX3 yX3_allLast yX3_allLast, Cond.initialized RX3, Cond.code yX3_allLast cX3_allLast 4 (some .int), Cond.fieldLink RX3 12 "WarmBottles$Night" "told" "LWarmBottles$Told;", Cond.fieldLink RX3 40 "WarmBottles$Told" "bottles" "I", Cond.methodLink RX3 56 Lib.Math.min.name, Cond.static Lib.Math.min.name, Cond.initialized "java/lang/Math", Cond.code Lib.Math.min.name Lib.Math.min.code 2 (some .int), Cond.methodLink RX3 62 yX3_lasts, Cond.instanceMethod yX3_lasts, Cond.selects RX3 yX3_lasts yX3_lasts, Cond.code yX3_lasts cX3_lasts 4 (some .int)]
def wsX7_now_r2 : List Cond := [Cond.fieldLink RX3 32 "WarmBottles$Night" "frost" "I", Cond.fieldLink RX3 18 "WarmBottles$Night" "warm" "[I", Cond.methodLink RX3 43 yX3_loss, Cond.instanceMethod yX3_loss, Cond.selects RX3 yX3_loss yX3_loss, Cond.code yX3_loss cX3_loss 6 (some .int), Cond.fieldLink RX3 59 "WarmBottles$Told" "cools" "[I", Cond.methodLink RX3 47 Lib.Math.max.name, Cond.static Lib.Math.max.name, Cond.code Lib.Math.max.name Lib.Math.max.code 2 (some .int), Cond.methodLink RX7 135 yX3_numberWarm, Cond.instanceMethod yX3_numberWarm, Cond.selects RX3 yX3_numberWarm yX3_numberWarm, Cond.code yX3_numberWarm cX3_numberWarm 3 (some .int)]
def wsX7_now : List Cond := .code yX7_now cX7_now 2 (some .int) :: ((wsX7_now_r1 ++ wsX7_now_r2) ++ wsX70 ++ wsX30 ++ wsX60 ++ wsX40)
def wsX7_hour_r1 : List Cond := [Cond.fieldLink RX7 26 "WarmBottles" "night" "LWarmBottles$Night;", Cond.fieldLink RX7 119 "WarmBottles$Night" "hour" "I", Cond.fieldLink RX7 33 "WarmBottles" "past" "LWarmBottles$Past;", Cond.methodLink RX7 139 yX4_remember, Cond.instanceMethod yX4_remember, Cond.selects RX4 yX4_remember yX4_remember, Cond.initialized RX4, Cond.code yX4_remember cX4_remember 2 none, Cond.fieldLink RX4 14 "WarmBottles$Past" "copies" "LWarmBottles$Copies;", Cond.fieldLink RX4 20 "WarmBottles$Past" "next" "I", Cond.fieldLink RX4 28 "WarmBottles$Past" "known" "I", Cond.methodLink RX4 31 Lib.Math.min.name, Cond.static Lib.Math.min.name, Cond.initialized "java/lang/Math", Cond.code Lib.Math.min.name Lib.Math.min.code 2 (some .int), Cond.methodLink RX4 24 yX0_put, Cond.instanceMethod yX0_put, Cond.selects RX0 yX0_put yX0_put, Cond.initialized RX0, Cond.code yX0_put cX0_put 4 none, Cond.fieldLink RX0 17 "WarmBottles$Copies" "slots" "I", Cond.fieldLink RX0 21 "WarmBottles$Copies" "cells" "[I", Cond.fieldLink RX0 25 "WarmBottles$Night" "hour" "I", Cond.fieldLink RX0 30 "WarmBottles$Night" "frost" "I"]
def wsX7_hour_r2 : List Cond := [Cond.fieldLink RX0 33 "WarmBottles$Night" "kettle" "I", Cond.fieldLink RX0 36 "WarmBottles$Night" "warm" "[I", Cond.methodLink RX0 39 arraycopyName, Cond.native arraycopyName, Cond.static arraycopyName, Cond.initialized "java/lang/System", Cond.fieldLink RX0 45 "WarmBottles$Night" "bed" "[I", Cond.methodLink RX7 142 yX3_letHourPass, Cond.instanceMethod yX3_letHourPass, Cond.selects RX3 yX3_letHourPass yX3_letHourPass, Cond.initialized RX3, Cond.code yX3_letHourPass cX3_letHourPass 2 none, Cond.fieldLink RX3 28 "WarmBottles$Night" "hour" "I", Cond.fieldLink RX3 12 "WarmBottles$Night" "told" "LWarmBottles$Told;", Cond.fieldLink RX3 40 "WarmBottles$Told" "bottles" "I", Cond.fieldLink RX3 18 "WarmBottles$Night" "warm" "[I", Cond.fieldLink RX3 22 "WarmBottles$Night" "bed" "[I", Cond.fieldLink RX3 32 "WarmBottles$Night" "frost" "I", Cond.methodLink RX3 47 Lib.Math.max.name, Cond.static Lib.Math.max.name, Cond.code Lib.Math.max.name Lib.Math.max.code 2 (some .int), Cond.methodLink RX3 43 yX3_loss, Cond.instanceMethod yX3_loss, Cond.selects RX3 yX3_loss yX3_loss]
def wsX7_hour_r3 : List Cond := [Cond.code yX3_loss cX3_loss 6 (some .int), Cond.fieldLink RX3 59 "WarmBottles$Told" "cools" "[I", Cond.methodLink RX7 135 yX3_numberWarm, Cond.instanceMethod yX3_numberWarm, Cond.selects RX3 yX3_numberWarm yX3_numberWarm, Cond.code yX3_numberWarm cX3_numberWarm 3 (some .int)]
def wsX7_hour : List Cond := .code yX7_hour cX7_hour 1 (some .int) :: ((wsX7_hour_r1 ++ (wsX7_hour_r2 ++ wsX7_hour_r3)) ++ wsX70 ++ wsX30 ++ wsX40 ++ wsX00 ++ wsX60)
def wsX7_fills_r1 : List Cond := [Cond.fieldLink RX7 26 "WarmBottles" "night" "LWarmBottles$Night;", Cond.fieldLink RX7 125 "WarmBottles$Night" "kettle" "I", Cond.fieldLink RX7 33 "WarmBottles" "past" "LWarmBottles$Past;", Cond.fieldLink RX7 98 "WarmBottles$Night" "warm" "[I", Cond.methodLink RX7 94 yX3_has, Cond.instanceMethod yX3_has, Cond.selects RX3 yX3_has yX3_has, Cond.initialized RX3, Cond.code yX3_has cX3_has 2 (some .boolean), Cond.fieldLink RX3 12 "WarmBottles$Night" "told" "LWarmBottles$Told;", Cond.fieldLink RX3 40 "WarmBottles$Told" "bottles" "I", Cond.methodLink RX7 139 yX4_remember, Cond.instanceMethod yX4_remember, Cond.selects RX4 yX4_remember yX4_remember, Cond.initialized RX4, Cond.code yX4_remember cX4_remember 2 none, Cond.fieldLink RX4 14 "WarmBottles$Past" "copies" "LWarmBottles$Copies;", Cond.fieldLink RX4 20 "WarmBottles$Past" "next" "I", Cond.fieldLink RX4 28 "WarmBottles$Past" "known" "I", Cond.methodLink RX4 31 Lib.Math.min.name, Cond.static Lib.Math.min.name, Cond.initialized "java/lang/Math", Cond.code Lib.Math.min.name Lib.Math.min.code 2 (some .int), Cond.methodLink RX4 24 yX0_put]
def wsX7_fills_r2 : List Cond := [Cond.instanceMethod yX0_put, Cond.selects RX0 yX0_put yX0_put, Cond.initialized RX0, Cond.code yX0_put cX0_put 4 none, Cond.fieldLink RX0 17 "WarmBottles$Copies" "slots" "I", Cond.fieldLink RX0 21 "WarmBottles$Copies" "cells" "[I", Cond.fieldLink RX0 25 "WarmBottles$Night" "hour" "I", Cond.fieldLink RX0 30 "WarmBottles$Night" "frost" "I", Cond.fieldLink RX0 33 "WarmBottles$Night" "kettle" "I", Cond.fieldLink RX0 36 "WarmBottles$Night" "warm" "[I", Cond.methodLink RX0 39 arraycopyName, Cond.native arraycopyName, Cond.static arraycopyName, Cond.initialized "java/lang/System", Cond.fieldLink RX0 45 "WarmBottles$Night" "bed" "[I", Cond.methodLink RX7 145 yX3_warmBy, Cond.instanceMethod yX3_warmBy, Cond.selects RX3 yX3_warmBy yX3_warmBy, Cond.code yX3_warmBy cX3_warmBy 3 (some .int), Cond.fieldLink RX3 53 "WarmBottles$Told" "pint" "I", Cond.methodLink RX3 56 Lib.Math.min.name]
def wsX7_fills : List Cond := .code yX7_fills cX7_fills 3 (some .int) :: ((wsX7_fills_r1 ++ wsX7_fills_r2) ++ wsX70 ++ wsX30 ++ wsX60 ++ wsX40 ++ wsX00)
def wsX7_lays_r1 : List Cond := [Cond.fieldLink RX7 26 "WarmBottles" "night" "LWarmBottles$Night;", Cond.fieldLink RX7 108 "WarmBottles$Night" "bed" "[I", Cond.fieldLink RX7 33 "WarmBottles" "past" "LWarmBottles$Past;", Cond.methodLink RX7 94 yX3_has, Cond.instanceMethod yX3_has, Cond.selects RX3 yX3_has yX3_has, Cond.initialized RX3, Cond.code yX3_has cX3_has 2 (some .boolean), Cond.fieldLink RX3 12 "WarmBottles$Night" "told" "LWarmBottles$Told;", Cond.fieldLink RX3 40 "WarmBottles$Told" "bottles" "I", Cond.methodLink RX7 139 yX4_remember, Cond.instanceMethod yX4_remember, Cond.selects RX4 yX4_remember yX4_remember, Cond.initialized RX4, Cond.code yX4_remember cX4_remember 2 none, Cond.fieldLink RX4 14 "WarmBottles$Past" "copies" "LWarmBottles$Copies;", Cond.fieldLink RX4 20 "WarmBottles$Past" "next" "I", Cond.fieldLink RX4 28 "WarmBottles$Past" "known" "I", Cond.methodLink RX4 31 Lib.Math.min.name, Cond.static Lib.Math.min.name, Cond.initialized "java/lang/Math", Cond.code Lib.Math.min.name Lib.Math.min.code 2 (some .int), Cond.methodLink RX4 24 yX0_put, Cond.instanceMethod yX0_put]
def wsX7_lays_r2 : List Cond := [Cond.selects RX0 yX0_put yX0_put, Cond.initialized RX0, Cond.code yX0_put cX0_put 4 none, Cond.fieldLink RX0 17 "WarmBottles$Copies" "slots" "I", Cond.fieldLink RX0 21 "WarmBottles$Copies" "cells" "[I", Cond.fieldLink RX0 25 "WarmBottles$Night" "hour" "I", Cond.fieldLink RX0 30 "WarmBottles$Night" "frost" "I", Cond.fieldLink RX0 33 "WarmBottles$Night" "kettle" "I", Cond.fieldLink RX0 36 "WarmBottles$Night" "warm" "[I", Cond.methodLink RX0 39 arraycopyName, Cond.native arraycopyName, Cond.static arraycopyName, Cond.initialized "java/lang/System", Cond.fieldLink RX0 45 "WarmBottles$Night" "bed" "[I"]
def wsX7_lays : List Cond := .code yX7_lays cX7_lays 4 (some .int) :: ((wsX7_lays_r1 ++ wsX7_lays_r2) ++ wsX70 ++ wsX30 ++ wsX60 ++ wsX40 ++ wsX00)
def wsX7_spills_r1 : List Cond := [Cond.fieldLink RX7 26 "WarmBottles" "night" "LWarmBottles$Night;", Cond.fieldLink RX7 98 "WarmBottles$Night" "warm" "[I", Cond.fieldLink RX7 33 "WarmBottles" "past" "LWarmBottles$Past;", Cond.methodLink RX7 94 yX3_has, Cond.instanceMethod yX3_has, Cond.selects RX3 yX3_has yX3_has, Cond.initialized RX3, Cond.code yX3_has cX3_has 2 (some .boolean), Cond.fieldLink RX3 12 "WarmBottles$Night" "told" "LWarmBottles$Told;", Cond.fieldLink RX3 40 "WarmBottles$Told" "bottles" "I", Cond.methodLink RX7 139 yX4_remember, Cond.instanceMethod yX4_remember, Cond.selects RX4 yX4_remember yX4_remember, Cond.initialized RX4, Cond.code yX4_remember cX4_remember 2 none, Cond.fieldLink RX4 14 "WarmBottles$Past" "copies" "LWarmBottles$Copies;", Cond.fieldLink RX4 20 "WarmBottles$Past" "next" "I", Cond.fieldLink RX4 28 "WarmBottles$Past" "known" "I", Cond.methodLink RX4 31 Lib.Math.min.name, Cond.static Lib.Math.min.name, Cond.initialized "java/lang/Math", Cond.code Lib.Math.min.name Lib.Math.min.code 2 (some .int), Cond.methodLink RX4 24 yX0_put, Cond.instanceMethod yX0_put]
def wsX7_spills_r2 : List Cond := [Cond.selects RX0 yX0_put yX0_put, Cond.initialized RX0, Cond.code yX0_put cX0_put 4 none, Cond.fieldLink RX0 17 "WarmBottles$Copies" "slots" "I", Cond.fieldLink RX0 21 "WarmBottles$Copies" "cells" "[I", Cond.fieldLink RX0 25 "WarmBottles$Night" "hour" "I", Cond.fieldLink RX0 30 "WarmBottles$Night" "frost" "I", Cond.fieldLink RX0 33 "WarmBottles$Night" "kettle" "I", Cond.fieldLink RX0 36 "WarmBottles$Night" "warm" "[I", Cond.methodLink RX0 39 arraycopyName, Cond.native arraycopyName, Cond.static arraycopyName, Cond.initialized "java/lang/System", Cond.fieldLink RX0 45 "WarmBottles$Night" "bed" "[I"]
def wsX7_spills : List Cond := .code yX7_spills cX7_spills 3 (some .int) :: ((wsX7_spills_r1 ++ wsX7_spills_r2) ++ wsX70 ++ wsX30 ++ wsX60 ++ wsX40 ++ wsX00)
def wsX7_frosts_r1 : List Cond := [Cond.fieldLink RX7 26 "WarmBottles" "night" "LWarmBottles$Night;", Cond.fieldLink RX7 122 "WarmBottles$Night" "frost" "I", Cond.fieldLink RX7 33 "WarmBottles" "past" "LWarmBottles$Past;", Cond.methodLink RX7 139 yX4_remember, Cond.instanceMethod yX4_remember, Cond.selects RX4 yX4_remember yX4_remember, Cond.initialized RX4, Cond.code yX4_remember cX4_remember 2 none, Cond.fieldLink RX4 14 "WarmBottles$Past" "copies" "LWarmBottles$Copies;", Cond.fieldLink RX4 20 "WarmBottles$Past" "next" "I", Cond.fieldLink RX4 28 "WarmBottles$Past" "known" "I", Cond.methodLink RX4 31 Lib.Math.min.name, Cond.static Lib.Math.min.name, Cond.initialized "java/lang/Math", Cond.code Lib.Math.min.name Lib.Math.min.code 2 (some .int), Cond.methodLink RX4 24 yX0_put, Cond.instanceMethod yX0_put, Cond.selects RX0 yX0_put yX0_put, Cond.initialized RX0, Cond.code yX0_put cX0_put 4 none, Cond.fieldLink RX0 17 "WarmBottles$Copies" "slots" "I", Cond.fieldLink RX0 21 "WarmBottles$Copies" "cells" "[I", Cond.fieldLink RX0 25 "WarmBottles$Night" "hour" "I", Cond.fieldLink RX0 30 "WarmBottles$Night" "frost" "I"]
def wsX7_frosts_r2 : List Cond := [Cond.fieldLink RX0 33 "WarmBottles$Night" "kettle" "I", Cond.fieldLink RX0 36 "WarmBottles$Night" "warm" "[I", Cond.methodLink RX0 39 arraycopyName, Cond.native arraycopyName, Cond.static arraycopyName, Cond.initialized "java/lang/System", Cond.fieldLink RX0 45 "WarmBottles$Night" "bed" "[I"]
def wsX7_frosts : List Cond := .code yX7_frosts cX7_frosts 3 (some .int) :: ((wsX7_frosts_r1 ++ wsX7_frosts_r2) ++ wsX70 ++ wsX30 ++ wsX40 ++ wsX00)
def wsX7_boils_r1 : List Cond := [Cond.fieldLink RX7 26 "WarmBottles" "night" "LWarmBottles$Night;", Cond.fieldLink RX7 125 "WarmBottles$Night" "kettle" "I", Cond.fieldLink RX7 78 "WarmBottles$Night" "told" "LWarmBottles$Told;", Cond.fieldLink RX7 148 "WarmBottles$Told" "kettle" "I", Cond.fieldLink RX7 33 "WarmBottles" "past" "LWarmBottles$Past;", Cond.methodLink RX7 139 yX4_remember, Cond.instanceMethod yX4_remember, Cond.selects RX4 yX4_remember yX4_remember, Cond.initialized RX4, Cond.code yX4_remember cX4_remember 2 none, Cond.fieldLink RX4 14 "WarmBottles$Past" "copies" "LWarmBottles$Copies;", Cond.fieldLink RX4 20 "WarmBottles$Past" "next" "I", Cond.fieldLink RX4 28 "WarmBottles$Past" "known" "I", Cond.methodLink RX4 31 Lib.Math.min.name, Cond.static Lib.Math.min.name, Cond.initialized "java/lang/Math", Cond.code Lib.Math.min.name Lib.Math.min.code 2 (some .int), Cond.methodLink RX4 24 yX0_put, Cond.instanceMethod yX0_put, Cond.selects RX0 yX0_put yX0_put, Cond.initialized RX0, Cond.code yX0_put cX0_put 4 none, Cond.fieldLink RX0 17 "WarmBottles$Copies" "slots" "I", Cond.fieldLink RX0 21 "WarmBottles$Copies" "cells" "[I"]
def wsX7_boils_r2 : List Cond := [Cond.fieldLink RX0 25 "WarmBottles$Night" "hour" "I", Cond.fieldLink RX0 30 "WarmBottles$Night" "frost" "I", Cond.fieldLink RX0 33 "WarmBottles$Night" "kettle" "I", Cond.fieldLink RX0 36 "WarmBottles$Night" "warm" "[I", Cond.methodLink RX0 39 arraycopyName, Cond.native arraycopyName, Cond.static arraycopyName, Cond.initialized "java/lang/System", Cond.fieldLink RX0 45 "WarmBottles$Night" "bed" "[I"]
def wsX7_boils : List Cond := .code yX7_boils cX7_boils 2 (some .int) :: ((wsX7_boils_r1 ++ wsX7_boils_r2) ++ wsX70 ++ wsX30 ++ wsX60 ++ wsX40 ++ wsX00)
def wsX7_undo_r1 : List Cond := [Cond.fieldLink RX7 33 "WarmBottles" "past" "LWarmBottles$Past;", Cond.fieldLink RX7 88 "WarmBottles$Past" "known" "I", Cond.fieldLink RX7 26 "WarmBottles" "night" "LWarmBottles$Night;", Cond.methodLink RX7 149 yX4_takeLatest, Cond.instanceMethod yX4_takeLatest, Cond.selects RX4 yX4_takeLatest yX4_takeLatest, Cond.initialized RX4, Cond.code yX4_takeLatest cX4_takeLatest 2 none, Cond.fieldLink RX4 20 "WarmBottles$Past" "next" "I", Cond.fieldLink RX4 14 "WarmBottles$Past" "copies" "LWarmBottles$Copies;", Cond.fieldLink RX4 28 "WarmBottles$Past" "known" "I", Cond.methodLink RX4 37 yX0_take, Cond.instanceMethod yX0_take, Cond.selects RX0 yX0_take yX0_take, Cond.initialized RX0, Cond.code yX0_take cX0_take 4 none, Cond.fieldLink RX0 17 "WarmBottles$Copies" "slots" "I", Cond.fieldLink RX0 21 "WarmBottles$Copies" "cells" "[I", Cond.fieldLink RX0 25 "WarmBottles$Night" "hour" "I", Cond.fieldLink RX0 30 "WarmBottles$Night" "frost" "I", Cond.fieldLink RX0 33 "WarmBottles$Night" "kettle" "I", Cond.fieldLink RX0 36 "WarmBottles$Night" "warm" "[I", Cond.methodLink RX0 39 arraycopyName, Cond.native arraycopyName]
def wsX7_undo_r2 : List Cond := [Cond.static arraycopyName, Cond.initialized "java/lang/System", Cond.fieldLink RX0 45 "WarmBottles$Night" "bed" "[I"]
def wsX7_undo : List Cond := .code yX7_undo cX7_undo 1 (some .int) :: ((wsX7_undo_r1 ++ wsX7_undo_r2) ++ wsX70 ++ wsX40 ++ wsX00 ++ wsX30)
def wsX7_morning_r1 : List Cond := [Cond.fieldLink RX7 26 "WarmBottles" "night" "LWarmBottles$Night;", Cond.methodLink RX7 94 yX3_has, Cond.instanceMethod yX3_has, Cond.selects RX3 yX3_has yX3_has, Cond.initialized RX3, Cond.code yX3_has cX3_has 2 (some .boolean), Cond.fieldLink RX3 12 "WarmBottles$Night" "told" "LWarmBottles$Told;", Cond.fieldLink RX3 40 "WarmBottles$Told" "bottles" "I", Cond.methodLink RX7 152 yX3_pintsOfAll, Cond.instanceMethod yX3_pintsOfAll, Cond.selects RX3 yX3_pintsOfAll yX3_pintsOfAll, Cond.code yX3_pintsOfAll cX3_pintsOfAll 5 (some .int), Cond.methodLink RX3 75 yX3_pintsOf, Cond.instanceMethod yX3_pintsOf, Cond.selects RX3 yX3_pintsOf yX3_pintsOf, Cond.code yX3_pintsOf cX3_pintsOf 5 (some .int), Cond.fieldLink RX3 22 "WarmBottles$Night" "bed" "[I", Cond.fieldLink RX3 32 "WarmBottles$Night" "frost" "I", Cond.fieldLink RX3 18 "WarmBottles$Night" "warm" "[I", Cond.methodLink RX3 43 yX3_loss, Cond.instanceMethod yX3_loss, Cond.selects RX3 yX3_loss yX3_loss, Cond.code yX3_loss cX3_loss 6 (some .int), Cond.fieldLink RX3 59 "WarmBottles$Told" "cools" "[I"]
def wsX7_morning_r2 : List Cond := [Cond.methodLink RX3 47 Lib.Math.max.name, Cond.static Lib.Math.max.name, Cond.initialized "java/lang/Math", Cond.code Lib.Math.max.name Lib.Math.max.code 2 (some .int), Cond.methodLink RX3 72 yX3_warmBy, Cond.instanceMethod yX3_warmBy, Cond.selects RX3 yX3_warmBy yX3_warmBy, Cond.code yX3_warmBy cX3_warmBy 3 (some .int), Cond.fieldLink RX3 53 "WarmBottles$Told" "pint" "I", Cond.methodLink RX3 56 Lib.Math.min.name, Cond.static Lib.Math.min.name, Cond.code Lib.Math.min.name Lib.Math.min.code 2 (some .int), Cond.methodLink RX7 156 yX3_pintsOf]
def wsX7_morning : List Cond := .code yX7_morning cX7_morning 3 (some .int) :: ((wsX7_morning_r1 ++ wsX7_morning_r2) ++ wsX70 ++ wsX30 ++ wsX60)
def wsX7_kept_r1 : List Cond := [Cond.fieldLink RX7 26 "WarmBottles" "night" "LWarmBottles$Night;", Cond.fieldLink RX7 78 "WarmBottles$Night" "told" "LWarmBottles$Told;", Cond.fieldLink RX7 128 "WarmBottles$Told" "bottles" "I", Cond.fieldLink RX7 62 "WarmBottles" "keeping" "LWarmBottles$Keeping;", Cond.methodLink RX7 159 yX2_mostHours, Cond.instanceMethod yX2_mostHours, Cond.selects RX2 yX2_mostHours yX2_mostHours, Cond.initialized RX2, Cond.code yX2_mostHours cX2_mostHours 1 (some .int), Cond.fieldLink RX2 18 "WarmBottles$Keeping" "night" "LWarmBottles$Night;", Cond.fieldLink RX2 25 "WarmBottles$Night" "kettle" "I", Cond.methodLink RX2 22 yX2_lookAtNight, Cond.instanceMethod yX2_lookAtNight, Cond.selects RX2 yX2_lookAtNight yX2_lookAtNight, Cond.code yX2_lookAtNight cX2_lookAtNight 2 none, Cond.fieldLink RX2 39 "WarmBottles$Night" "told" "LWarmBottles$Told;", Cond.fieldLink RX2 43 "WarmBottles$Told" "bottles" "I", Cond.fieldLink RX2 9 "WarmBottles$Keeping" "loss" "[I", Cond.fieldLink RX2 52 "WarmBottles$Night" "bed" "[I", Cond.fieldLink RX2 55 "WarmBottles$Night" "frost" "I", Cond.fieldLink RX2 15 "WarmBottles$Keeping" "warm" "[I", Cond.fieldLink RX2 61 "WarmBottles$Night" "warm" "[I", Cond.methodLink RX2 58 yX3_loss, Cond.instanceMethod yX3_loss]
def wsX7_kept_r2 : List Cond := [Cond.selects RX3 yX3_loss yX3_loss, Cond.initialized RX3, Cond.code yX3_loss cX3_loss 6 (some .int), Cond.fieldLink RX3 12 "WarmBottles$Night" "told" "LWarmBottles$Told;", Cond.fieldLink RX3 59 "WarmBottles$Told" "cools" "[I", Cond.fieldLink RX3 40 "WarmBottles$Told" "bottles" "I", Cond.methodLink RX3 47 Lib.Math.max.name, Cond.static Lib.Math.max.name, Cond.initialized "java/lang/Math", Cond.code Lib.Math.max.name Lib.Math.max.code 2 (some .int), Cond.methodLink RX2 31 yX2_mostFrom, Cond.instanceMethod yX2_mostFrom, Cond.selects RX2 yX2_mostFrom yX2_mostFrom, Cond.code yX2_mostFrom cX2_mostFrom 5 (some .int), Cond.methodLink RX2 62 Lib.Math.max.name, Cond.methodLink RX2 48 yX2_mostByFilling, Cond.instanceMethod yX2_mostByFilling, Cond.selects RX2 yX2_mostByFilling yX2_mostByFilling, Cond.code yX2_mostByFilling cX2_mostByFilling 5 (some .int), Cond.methodLink RX2 67 yX2_staysWarmByFilling, Cond.instanceMethod yX2_staysWarmByFilling, Cond.selects RX2 yX2_staysWarmByFilling yX2_staysWarmByFilling, Cond.code yX2_staysWarmByFilling cX2_staysWarmByFilling 6 (some .boolean), Cond.methodLink RX2 71 yX3_warmBy]
def wsX7_kept_r3 : List Cond := [Cond.instanceMethod yX3_warmBy, Cond.selects RX3 yX3_warmBy yX3_warmBy, Cond.code yX3_warmBy cX3_warmBy 3 (some .int), Cond.fieldLink RX3 53 "WarmBottles$Told" "pint" "I", Cond.methodLink RX3 56 Lib.Math.min.name, Cond.static Lib.Math.min.name, Cond.code Lib.Math.min.name Lib.Math.min.code 2 (some .int), Cond.methodLink RX7 162 yX2_first, Cond.instanceMethod yX2_first, Cond.selects RX2 yX2_first yX2_first, Cond.code yX2_first cX2_first 3 (some .int), Cond.methodLink RX2 35 yX2_mostHours]
def wsX7_kept : List Cond := .code yX7_kept cX7_kept 2 (some .int) :: ((wsX7_kept_r1 ++ (wsX7_kept_r2 ++ wsX7_kept_r3)) ++ wsX70 ++ wsX30 ++ wsX60 ++ wsX20)
def wsX7_beds_r1 : List Cond := [Cond.fieldLink RX7 26 "WarmBottles" "night" "LWarmBottles$Night;", Cond.fieldLink RX7 78 "WarmBottles$Night" "told" "LWarmBottles$Told;", Cond.fieldLink RX7 128 "WarmBottles$Told" "bottles" "I", Cond.fieldLink RX7 165 "WarmBottles" "ONE_BED" "[I", Cond.methodLink RX7 94 yX3_has, Cond.instanceMethod yX3_has, Cond.selects RX3 yX3_has yX3_has, Cond.initialized RX3, Cond.code yX3_has cX3_has 2 (some .boolean), Cond.fieldLink RX3 12 "WarmBottles$Night" "told" "LWarmBottles$Told;", Cond.fieldLink RX3 40 "WarmBottles$Told" "bottles" "I", Cond.methodLink RX7 131 yX3_allLast, Cond.instanceMethod yX3_allLast, Cond.selects RX3 yX3_allLast yX3_allLast, Cond.code yX3_allLast cX3_allLast 4 (some .int), Cond.methodLink RX3 56 Lib.Math.min.name, Cond.static Lib.Math.min.name, Cond.initialized "java/lang/Math", Cond.code Lib.Math.min.name Lib.Math.min.code 2 (some .int), Cond.methodLink RX3 62 yX3_lasts, Cond.instanceMethod yX3_lasts, Cond.selects RX3 yX3_lasts yX3_lasts, Cond.code yX3_lasts cX3_lasts 4 (some .int), Cond.fieldLink RX3 32 "WarmBottles$Night" "frost" "I"]
def wsX7_beds_r2 : List Cond := [Cond.fieldLink RX3 18 "WarmBottles$Night" "warm" "[I", Cond.methodLink RX3 43 yX3_loss, Cond.instanceMethod yX3_loss, Cond.selects RX3 yX3_loss yX3_loss, Cond.code yX3_loss cX3_loss 6 (some .int), Cond.fieldLink RX3 59 "WarmBottles$Told" "cools" "[I", Cond.methodLink RX3 47 Lib.Math.max.name, Cond.static Lib.Math.max.name, Cond.code Lib.Math.max.name Lib.Math.max.code 2 (some .int)]
def wsX7_beds : List Cond := .code yX7_beds cX7_beds 2 (some .int) :: ((wsX7_beds_r1 ++ wsX7_beds_r2) ++ wsX70 ++ wsX30 ++ wsX60)
def wsX7_commonDivisor : List Cond := .code yX7_commonDivisor cX7_commonDivisor 6 (some .int) :: ([])
def wsX7_odds_r1 : List Cond := [Cond.fieldLink RX7 26 "WarmBottles" "night" "LWarmBottles$Night;", Cond.methodLink RX7 94 yX3_has, Cond.instanceMethod yX3_has, Cond.selects RX3 yX3_has yX3_has, Cond.initialized RX3, Cond.code yX3_has cX3_has 2 (some .boolean), Cond.fieldLink RX3 12 "WarmBottles$Night" "told" "LWarmBottles$Told;", Cond.fieldLink RX3 40 "WarmBottles$Told" "bottles" "I", Cond.methodLink RX7 168 yX3_waysStillWarm, Cond.instanceMethod yX3_waysStillWarm, Cond.selects RX3 yX3_waysStillWarm yX3_waysStillWarm, Cond.code yX3_waysStillWarm cX3_waysStillWarm 6 (some .int), Cond.fieldLink RX3 22 "WarmBottles$Night" "bed" "[I", Cond.fieldLink RX3 32 "WarmBottles$Night" "frost" "I", Cond.fieldLink RX3 18 "WarmBottles$Night" "warm" "[I", Cond.methodLink RX3 43 yX3_loss, Cond.instanceMethod yX3_loss, Cond.selects RX3 yX3_loss yX3_loss, Cond.code yX3_loss cX3_loss 6 (some .int), Cond.fieldLink RX3 59 "WarmBottles$Told" "cools" "[I", Cond.methodLink RX3 47 Lib.Math.max.name, Cond.static Lib.Math.max.name, Cond.initialized "java/lang/Math", Cond.code Lib.Math.max.name Lib.Math.max.code 2 (some .int)]
def wsX7_odds_r2 : List Cond := [Cond.methodLink RX3 78 yX3_waysFrom, Cond.static yX3_waysFrom, Cond.code yX3_waysFrom cX3_waysFrom 5 (some .int), Cond.methodLink RX7 172 yX7_commonDivisor, Cond.static yX7_commonDivisor, Cond.initialized RX7, Cond.code yX7_commonDivisor cX7_commonDivisor 6 (some .int)]
def wsX7_odds : List Cond := .code yX7_odds cX7_odds 9 (some .int) :: ((wsX7_odds_r1 ++ wsX7_odds_r2) ++ wsX70 ++ wsX30 ++ wsX60)
def wsX7_hears : List Cond := .code yX7_hears cX7_hears 3 (some .int) :: ([.fieldLink RX7 53 "WarmBottles" "heard" "LWarmBottles$Heard;", .fieldLink RX7 91 "WarmBottles$Heard" "number" "I", .methodLink RX7 175 yX1_add, .instanceMethod yX1_add, .selects RX1 yX1_add yX1_add, .initialized RX1, .code yX1_add cX1_add 3 none, .fieldLink RX1 18 "WarmBottles$Heard" "number" "I", .fieldLink RX1 9 "WarmBottles$Heard" "hours" "[I", .fieldLink RX1 15 "WarmBottles$Heard" "sounds" "[I"] ++ wsX70 ++ wsX10)
def wsX7_forget : List Cond := .code yX7_forget cX7_forget 2 (some .int) :: ([.fieldLink RX7 53 "WarmBottles" "heard" "LWarmBottles$Heard;", .fieldLink RX7 91 "WarmBottles$Heard" "number" "I"] ++ wsX70 ++ wsX10)
def wsX7_who_r1 : List Cond := [Cond.fieldLink RX7 53 "WarmBottles" "heard" "LWarmBottles$Heard;", Cond.fieldLink RX7 26 "WarmBottles" "night" "LWarmBottles$Night;", Cond.methodLink RX7 179 yX1_whoFits, Cond.instanceMethod yX1_whoFits, Cond.selects RX1 yX1_whoFits yX1_whoFits, Cond.initialized RX1, Cond.code yX1_whoFits cX1_whoFits 4 (some .int), Cond.fieldLink RX1 22 "WarmBottles$Night" "told" "LWarmBottles$Told;", Cond.fieldLink RX1 28 "WarmBottles$Told" "bottles" "I", Cond.methodLink RX1 33 yX1_fits, Cond.instanceMethod yX1_fits, Cond.selects RX1 yX1_fits yX1_fits, Cond.code yX1_fits cX1_fits 4 (some .boolean), Cond.fieldLink RX1 18 "WarmBottles$Heard" "number" "I", Cond.fieldLink RX1 9 "WarmBottles$Heard" "hours" "[I", Cond.fieldLink RX1 15 "WarmBottles$Heard" "sounds" "[I", Cond.methodLink RX1 37 yX3_soundIn, Cond.instanceMethod yX3_soundIn, Cond.selects RX3 yX3_soundIn yX3_soundIn, Cond.initialized RX3, Cond.code yX3_soundIn cX3_soundIn 4 (some .int), Cond.fieldLink RX3 18 "WarmBottles$Night" "warm" "[I", Cond.fieldLink RX3 22 "WarmBottles$Night" "bed" "[I", Cond.fieldLink RX3 32 "WarmBottles$Night" "frost" "I"]
def wsX7_who_r2 : List Cond := [Cond.fieldLink RX3 12 "WarmBottles$Night" "told" "LWarmBottles$Told;", Cond.fieldLink RX3 66 "WarmBottles$Told" "speaks" "[I", Cond.methodLink RX3 43 yX3_loss, Cond.instanceMethod yX3_loss, Cond.selects RX3 yX3_loss yX3_loss, Cond.code yX3_loss cX3_loss 6 (some .int), Cond.fieldLink RX3 59 "WarmBottles$Told" "cools" "[I", Cond.fieldLink RX3 40 "WarmBottles$Told" "bottles" "I", Cond.methodLink RX3 47 Lib.Math.max.name, Cond.static Lib.Math.max.name, Cond.initialized "java/lang/Math", Cond.code Lib.Math.max.name Lib.Math.max.code 2 (some .int)]
def wsX7_who : List Cond := .code yX7_who cX7_who 1 (some .int) :: ((wsX7_who_r1 ++ wsX7_who_r2) ++ wsX70 ++ wsX30 ++ wsX60 ++ wsX10)
def wsJ6_bitCount_0f7a4 : List Cond := .code yJ6_bitCount_0f7a4 cJ6_bitCount_0f7a4 1 (some .int) :: ([.constant RJ6 265 (1431655765), .constant RJ6 266 (858993459), .constant RJ6 267 (252645135)])
def wsX7_listen_r1 : List Cond := [Cond.fieldLink RX7 53 "WarmBottles" "heard" "LWarmBottles$Heard;", Cond.fieldLink RX7 26 "WarmBottles" "night" "LWarmBottles$Night;", Cond.methodLink RX7 179 yX1_whoFits, Cond.instanceMethod yX1_whoFits, Cond.selects RX1 yX1_whoFits yX1_whoFits, Cond.initialized RX1, Cond.code yX1_whoFits cX1_whoFits 4 (some .int), Cond.fieldLink RX1 22 "WarmBottles$Night" "told" "LWarmBottles$Told;", Cond.fieldLink RX1 28 "WarmBottles$Told" "bottles" "I", Cond.methodLink RX1 33 yX1_fits, Cond.instanceMethod yX1_fits, Cond.selects RX1 yX1_fits yX1_fits, Cond.code yX1_fits cX1_fits 4 (some .boolean), Cond.fieldLink RX1 18 "WarmBottles$Heard" "number" "I", Cond.fieldLink RX1 9 "WarmBottles$Heard" "hours" "[I", Cond.fieldLink RX1 15 "WarmBottles$Heard" "sounds" "[I", Cond.methodLink RX1 37 yX3_soundIn, Cond.instanceMethod yX3_soundIn, Cond.selects RX3 yX3_soundIn yX3_soundIn, Cond.initialized RX3, Cond.code yX3_soundIn cX3_soundIn 4 (some .int), Cond.fieldLink RX3 18 "WarmBottles$Night" "warm" "[I", Cond.fieldLink RX3 22 "WarmBottles$Night" "bed" "[I", Cond.fieldLink RX3 32 "WarmBottles$Night" "frost" "I"]
def wsX7_listen_r2 : List Cond := [Cond.fieldLink RX3 12 "WarmBottles$Night" "told" "LWarmBottles$Told;", Cond.fieldLink RX3 66 "WarmBottles$Told" "speaks" "[I", Cond.methodLink RX3 43 yX3_loss, Cond.instanceMethod yX3_loss, Cond.selects RX3 yX3_loss yX3_loss, Cond.code yX3_loss cX3_loss 6 (some .int), Cond.fieldLink RX3 59 "WarmBottles$Told" "cools" "[I", Cond.fieldLink RX3 40 "WarmBottles$Told" "bottles" "I", Cond.methodLink RX3 47 Lib.Math.max.name, Cond.static Lib.Math.max.name, Cond.initialized "java/lang/Math", Cond.code Lib.Math.max.name Lib.Math.max.code 2 (some .int), Cond.methodLink RX7 183 yJ6_bitCount_0f7a4, Cond.static yJ6_bitCount_0f7a4, Cond.initialized RJ6, Cond.code yJ6_bitCount_0f7a4 cJ6_bitCount_0f7a4 1 (some .int), Cond.constant RJ6 265 (1431655765), Cond.constant RJ6 266 (858993459), Cond.constant RJ6 267 (252645135), Cond.methodLink RX7 188 yX3_mostOfOneSound, Cond.instanceMethod yX3_mostOfOneSound, Cond.selects RX3 yX3_mostOfOneSound yX3_mostOfOneSound, Cond.code yX3_mostOfOneSound cX3_mostOfOneSound 7 (some .int), Cond.methodLink RX3 69 yX3_soundIn]
def wsX7_listen : List Cond := .code yX7_listen cX7_listen 6 (some .int) :: ((wsX7_listen_r1 ++ wsX7_listen_r2) ++ wsX70 ++ wsX30 ++ wsX60 ++ wsX10)
def wsX7_asBottle : List Cond := .code yX7_asBottle cX7_asBottle 2 (some .int) :: ([.fieldLink RX7 210 "WarmBottles" "trace" "J", .fieldLink RX7 26 "WarmBottles" "night" "LWarmBottles$Night;", .fieldLink RX7 98 "WarmBottles$Night" "warm" "[I"] ++ wsX70 ++ wsX30)
def wsX7_asBosun : List Cond := .code yX7_asBosun cX7_asBosun 2 (some .int) :: ([.fieldLink RX7 210 "WarmBottles" "trace" "J", .constantLong RX7 214 (10), .fieldLink RX7 26 "WarmBottles" "night" "LWarmBottles$Night;", .fieldLink RX7 78 "WarmBottles$Night" "told" "LWarmBottles$Told;", .fieldLink RX7 105 "WarmBottles$Told" "speaks" "[I", .methodLink RX7 192 yX7_asBottle, .instanceMethod yX7_asBottle, .selects RX7 yX7_asBottle yX7_asBottle, .initialized RX7, .code yX7_asBottle cX7_asBottle 2 (some .int), .fieldLink RX7 98 "WarmBottles$Night" "warm" "[I"] ++ wsX70 ++ wsX30 ++ wsX60)
def wsX7_asCook : List Cond := .code yX7_asCook cX7_asCook 2 (some .int) :: ([.fieldLink RX7 210 "WarmBottles" "trace" "J", .constantLong RX7 216 (100), .fieldLink RX7 26 "WarmBottles" "night" "LWarmBottles$Night;", .fieldLink RX7 78 "WarmBottles$Night" "told" "LWarmBottles$Told;", .fieldLink RX7 102 "WarmBottles$Told" "cools" "[I", .methodLink RX7 192 yX7_asBottle, .instanceMethod yX7_asBottle, .selects RX7 yX7_asBottle yX7_asBottle, .initialized RX7, .code yX7_asBottle cX7_asBottle 2 (some .int), .fieldLink RX7 98 "WarmBottles$Night" "warm" "[I"] ++ wsX70 ++ wsX30 ++ wsX60)
def wsX7_asMate : List Cond := .code yX7_asMate cX7_asMate 2 (some .int) :: ([.fieldLink RX7 210 "WarmBottles" "trace" "J", .constantLong RX7 218 (1000), .methodLink RX7 195 yX7_asBosun, .instanceMethod yX7_asBosun, .selects RX7 yX7_asBosun yX7_asBosun, .initialized RX7, .code yX7_asBosun cX7_asBosun 2 (some .int), .constantLong RX7 214 (10), .fieldLink RX7 26 "WarmBottles" "night" "LWarmBottles$Night;", .fieldLink RX7 78 "WarmBottles$Night" "told" "LWarmBottles$Told;", .fieldLink RX7 105 "WarmBottles$Told" "speaks" "[I", .methodLink RX7 192 yX7_asBottle, .instanceMethod yX7_asBottle, .selects RX7 yX7_asBottle yX7_asBottle, .code yX7_asBottle cX7_asBottle 2 (some .int), .fieldLink RX7 98 "WarmBottles$Night" "warm" "[I"] ++ wsX70 ++ wsX30 ++ wsX60)
def wsX7_asStoker : List Cond := .code yX7_asStoker cX7_asStoker 2 (some .int) :: ([.fieldLink RX7 210 "WarmBottles" "trace" "J", .constantLong RX7 220 (10000), .methodLink RX7 198 yX7_asCook, .instanceMethod yX7_asCook, .selects RX7 yX7_asCook yX7_asCook, .initialized RX7, .code yX7_asCook cX7_asCook 2 (some .int), .constantLong RX7 216 (100), .fieldLink RX7 26 "WarmBottles" "night" "LWarmBottles$Night;", .fieldLink RX7 78 "WarmBottles$Night" "told" "LWarmBottles$Told;", .fieldLink RX7 102 "WarmBottles$Told" "cools" "[I", .methodLink RX7 192 yX7_asBottle, .instanceMethod yX7_asBottle, .selects RX7 yX7_asBottle yX7_asBottle, .code yX7_asBottle cX7_asBottle 2 (some .int), .fieldLink RX7 98 "WarmBottles$Night" "warm" "[I"] ++ wsX70 ++ wsX30 ++ wsX60)
def wsX7_asMatron : List Cond := .code yX7_asMatron cX7_asMatron 2 (some .int) :: ([.fieldLink RX7 210 "WarmBottles" "trace" "J", .constantLong RX7 222 (100000), .fieldLink RX7 26 "WarmBottles" "night" "LWarmBottles$Night;", .fieldLink RX7 125 "WarmBottles$Night" "kettle" "I", .methodLink RX7 192 yX7_asBottle, .instanceMethod yX7_asBottle, .selects RX7 yX7_asBottle yX7_asBottle, .initialized RX7, .code yX7_asBottle cX7_asBottle 2 (some .int), .fieldLink RX7 98 "WarmBottles$Night" "warm" "[I"] ++ wsX70 ++ wsX30)
def wsX7_rate_r1 : List Cond := [Cond.fieldLink RX7 26 "WarmBottles" "night" "LWarmBottles$Night;", Cond.constant RX7 191 (-1000000), Cond.methodLink RX7 94 yX3_has, Cond.instanceMethod yX3_has, Cond.selects RX3 yX3_has yX3_has, Cond.initialized RX3, Cond.code yX3_has cX3_has 2 (some .boolean), Cond.fieldLink RX3 12 "WarmBottles$Night" "told" "LWarmBottles$Told;", Cond.fieldLink RX3 40 "WarmBottles$Told" "bottles" "I", Cond.methodLink RX7 192 yX7_asBottle, Cond.instanceMethod yX7_asBottle, Cond.selects RX7 yX7_asBottle yX7_asBottle, Cond.initialized RX7, Cond.code yX7_asBottle cX7_asBottle 2 (some .int), Cond.fieldLink RX7 210 "WarmBottles" "trace" "J", Cond.fieldLink RX7 98 "WarmBottles$Night" "warm" "[I", Cond.methodLink RX7 195 yX7_asBosun, Cond.instanceMethod yX7_asBosun, Cond.selects RX7 yX7_asBosun yX7_asBosun, Cond.code yX7_asBosun cX7_asBosun 2 (some .int), Cond.constantLong RX7 214 (10), Cond.fieldLink RX7 78 "WarmBottles$Night" "told" "LWarmBottles$Told;", Cond.fieldLink RX7 105 "WarmBottles$Told" "speaks" "[I", Cond.methodLink RX7 198 yX7_asCook]
def wsX7_rate_r2 : List Cond := [Cond.instanceMethod yX7_asCook, Cond.selects RX7 yX7_asCook yX7_asCook, Cond.code yX7_asCook cX7_asCook 2 (some .int), Cond.constantLong RX7 216 (100), Cond.fieldLink RX7 102 "WarmBottles$Told" "cools" "[I", Cond.methodLink RX7 201 yX7_asMate, Cond.instanceMethod yX7_asMate, Cond.selects RX7 yX7_asMate yX7_asMate, Cond.code yX7_asMate cX7_asMate 2 (some .int), Cond.constantLong RX7 218 (1000), Cond.methodLink RX7 204 yX7_asStoker, Cond.instanceMethod yX7_asStoker, Cond.selects RX7 yX7_asStoker yX7_asStoker, Cond.code yX7_asStoker cX7_asStoker 2 (some .int), Cond.constantLong RX7 220 (10000), Cond.methodLink RX7 207 yX7_asMatron, Cond.instanceMethod yX7_asMatron, Cond.selects RX7 yX7_asMatron yX7_asMatron, Cond.code yX7_asMatron cX7_asMatron 2 (some .int), Cond.constantLong RX7 222 (100000), Cond.fieldLink RX7 125 "WarmBottles$Night" "kettle" "I"]
def wsX7_rate : List Cond := .code yX7_rate cX7_rate 3 (some .int) :: ((wsX7_rate_r1 ++ wsX7_rate_r2) ++ wsX70 ++ wsX30 ++ wsX60)
def wsX7_keep : List Cond := .code yX7_keep cX7_keep 2 (some .int) :: ([.fieldLink RX7 46 "WarmBottles" "imageKept" "[Z", .fieldLink RX7 42 "WarmBottles" "images" "LWarmBottles$Copies;", .fieldLink RX7 26 "WarmBottles" "night" "LWarmBottles$Night;", .fieldLink RX7 119 "WarmBottles$Night" "hour" "I", .methodLink RX7 224 yX0_put, .instanceMethod yX0_put, .selects RX0 yX0_put yX0_put, .initialized RX0, .code yX0_put cX0_put 4 none, .fieldLink RX0 17 "WarmBottles$Copies" "slots" "I", .fieldLink RX0 21 "WarmBottles$Copies" "cells" "[I", .fieldLink RX0 25 "WarmBottles$Night" "hour" "I", .fieldLink RX0 30 "WarmBottles$Night" "frost" "I", .fieldLink RX0 33 "WarmBottles$Night" "kettle" "I", .fieldLink RX0 36 "WarmBottles$Night" "warm" "[I", .methodLink RX0 39 arraycopyName, .native arraycopyName, .static arraycopyName, .initialized "java/lang/System", .fieldLink RX0 45 "WarmBottles$Night" "bed" "[I"] ++ wsX70 ++ wsX30 ++ wsX00)
def wsX7_back : List Cond := .code yX7_back cX7_back 2 (some .int) :: ([.fieldLink RX7 46 "WarmBottles" "imageKept" "[Z", .fieldLink RX7 42 "WarmBottles" "images" "LWarmBottles$Copies;", .fieldLink RX7 26 "WarmBottles" "night" "LWarmBottles$Night;", .fieldLink RX7 33 "WarmBottles" "past" "LWarmBottles$Past;", .fieldLink RX7 88 "WarmBottles$Past" "known" "I", .fieldLink RX7 119 "WarmBottles$Night" "hour" "I", .methodLink RX7 228 yX0_take, .instanceMethod yX0_take, .selects RX0 yX0_take yX0_take, .initialized RX0, .code yX0_take cX0_take 4 none, .fieldLink RX0 17 "WarmBottles$Copies" "slots" "I", .fieldLink RX0 21 "WarmBottles$Copies" "cells" "[I", .fieldLink RX0 25 "WarmBottles$Night" "hour" "I", .fieldLink RX0 30 "WarmBottles$Night" "frost" "I", .fieldLink RX0 33 "WarmBottles$Night" "kettle" "I", .fieldLink RX0 36 "WarmBottles$Night" "warm" "[I", .methodLink RX0 39 arraycopyName, .native arraycopyName, .static arraycopyName, .initialized "java/lang/System", .fieldLink RX0 45 "WarmBottles$Night" "bed" "[I"] ++ wsX70 ++ wsX40 ++ wsX30 ++ wsX00)
def wsX7_count : List Cond := .code yX7_count cX7_count 2 (some .int) :: ([.fieldLink RX7 26 "WarmBottles" "night" "LWarmBottles$Night;", .fieldLink RX7 78 "WarmBottles$Night" "told" "LWarmBottles$Told;", .fieldLink RX7 128 "WarmBottles$Told" "bottles" "I", .fieldLink RX7 148 "WarmBottles$Told" "kettle" "I", .fieldLink RX7 231 "WarmBottles$Told" "pint" "I", .fieldLink RX7 53 "WarmBottles" "heard" "LWarmBottles$Heard;", .fieldLink RX7 91 "WarmBottles$Heard" "number" "I", .fieldLink RX7 10 "WarmBottles" "text" "LWarmBottles$Text;", .fieldLink RX7 66 "WarmBottles$Text" "length" "I"] ++ wsX70 ++ wsX30 ++ wsX60 ++ wsX10 ++ wsX50)
def wsX7_trace : List Cond := .code yX7_trace cX7_trace 1 (some .long) :: ([.fieldLink RX7 210 "WarmBottles" "trace" "J"] ++ wsX70)
def wsX8_letterAt : List Cond := .code yX8_letterAt cX8_letterAt 2 (some .int) :: ([.fieldLink RX8 55 "WarmBottlesModel" "typed" "I", .fieldLink RX8 7 "WarmBottlesModel" "text" "[I"] ++ wsX80)
def wsX8_in : List Cond := .code yX8_in cX8_in 3 (some .boolean) :: ([])
def wsX8_isDigit : List Cond := .code yX8_isDigit cX8_isDigit 1 (some .boolean) :: ([.methodLink RX8 51 yX8_in, .static yX8_in, .initialized RX8, .code yX8_in cX8_in 3 (some .boolean)])
def wsX8_token : List Cond := .code yX8_token cX8_token 2 none :: ([.fieldLink RX8 59 "WarmBottlesModel" "at" "I", .fieldLink RX8 66 "WarmBottlesModel" "start" "I", .fieldLink RX8 73 "WarmBottlesModel" "sort" "I", .fieldLink RX8 76 "WarmBottlesModel" "value" "I", .fieldLink RX8 7 "WarmBottlesModel" "text" "[I", .methodLink RX8 62 yX8_letterAt, .instanceMethod yX8_letterAt, .selects RX8 yX8_letterAt yX8_letterAt, .initialized RX8, .code yX8_letterAt cX8_letterAt 2 (some .int), .fieldLink RX8 55 "WarmBottlesModel" "typed" "I", .methodLink RX8 69 yX8_isDigit, .static yX8_isDigit, .code yX8_isDigit cX8_isDigit 1 (some .boolean), .methodLink RX8 51 yX8_in, .static yX8_in, .code yX8_in cX8_in 3 (some .boolean)] ++ wsX80)
def wsX8_number : List Cond := .code yX8_number cX8_number 4 (some .boolean) :: ([.fieldLink RX8 16 "WarmBottlesModel" "draft" "[I", .fieldLink RX8 76 "WarmBottlesModel" "value" "I", .fieldLink RX8 73 "WarmBottlesModel" "sort" "I", .methodLink RX8 79 yX8_token, .instanceMethod yX8_token, .selects RX8 yX8_token yX8_token, .initialized RX8, .code yX8_token cX8_token 2 none, .fieldLink RX8 59 "WarmBottlesModel" "at" "I", .fieldLink RX8 66 "WarmBottlesModel" "start" "I", .fieldLink RX8 7 "WarmBottlesModel" "text" "[I", .methodLink RX8 62 yX8_letterAt, .instanceMethod yX8_letterAt, .selects RX8 yX8_letterAt yX8_letterAt, .code yX8_letterAt cX8_letterAt 2 (some .int), .fieldLink RX8 55 "WarmBottlesModel" "typed" "I", .methodLink RX8 69 yX8_isDigit, .static yX8_isDigit, .code yX8_isDigit cX8_isDigit 1 (some .boolean), .methodLink RX8 51 yX8_in, .static yX8_in, .code yX8_in cX8_in 3 (some .boolean)] ++ wsX80)
def wsX8_once_r1 : List Cond := [Cond.fieldLink RX8 16 "WarmBottlesModel" "draft" "[I", Cond.methodLink RX8 82 yX8_number, Cond.instanceMethod yX8_number, Cond.selects RX8 yX8_number yX8_number, Cond.initialized RX8, Cond.code yX8_number cX8_number 4 (some .boolean), Cond.fieldLink RX8 76 "WarmBottlesModel" "value" "I", Cond.fieldLink RX8 73 "WarmBottlesModel" "sort" "I", Cond.methodLink RX8 79 yX8_token, Cond.instanceMethod yX8_token, Cond.selects RX8 yX8_token yX8_token, Cond.code yX8_token cX8_token 2 none, Cond.fieldLink RX8 59 "WarmBottlesModel" "at" "I", Cond.fieldLink RX8 66 "WarmBottlesModel" "start" "I", Cond.fieldLink RX8 7 "WarmBottlesModel" "text" "[I", Cond.methodLink RX8 62 yX8_letterAt, Cond.instanceMethod yX8_letterAt, Cond.selects RX8 yX8_letterAt yX8_letterAt, Cond.code yX8_letterAt cX8_letterAt 2 (some .int), Cond.fieldLink RX8 55 "WarmBottlesModel" "typed" "I", Cond.methodLink RX8 69 yX8_isDigit, Cond.static yX8_isDigit, Cond.code yX8_isDigit cX8_isDigit 1 (some .boolean), Cond.methodLink RX8 51 yX8_in]
def wsX8_once_r2 : List Cond := [Cond.static yX8_in, Cond.code yX8_in cX8_in 3 (some .boolean)]
def wsX8_once : List Cond := .code yX8_once cX8_once 5 (some .boolean) :: ((wsX8_once_r1 ++ wsX8_once_r2) ++ wsX80)
def wsX8_readsItem_r1 : List Cond := [Cond.fieldLink RX8 73 "WarmBottlesModel" "sort" "I", Cond.fieldLink RX8 76 "WarmBottlesModel" "value" "I", Cond.fieldLink RX8 16 "WarmBottlesModel" "draft" "[I", Cond.methodLink RX8 82 yX8_number, Cond.instanceMethod yX8_number, Cond.selects RX8 yX8_number yX8_number, Cond.initialized RX8, Cond.code yX8_number cX8_number 4 (some .boolean), Cond.methodLink RX8 79 yX8_token, Cond.instanceMethod yX8_token, Cond.selects RX8 yX8_token yX8_token, Cond.code yX8_token cX8_token 2 none, Cond.fieldLink RX8 59 "WarmBottlesModel" "at" "I", Cond.fieldLink RX8 66 "WarmBottlesModel" "start" "I", Cond.fieldLink RX8 7 "WarmBottlesModel" "text" "[I", Cond.methodLink RX8 62 yX8_letterAt, Cond.instanceMethod yX8_letterAt, Cond.selects RX8 yX8_letterAt yX8_letterAt, Cond.code yX8_letterAt cX8_letterAt 2 (some .int), Cond.fieldLink RX8 55 "WarmBottlesModel" "typed" "I", Cond.methodLink RX8 69 yX8_isDigit, Cond.static yX8_isDigit, Cond.code yX8_isDigit cX8_isDigit 1 (some .boolean), Cond.methodLink RX8 51 yX8_in]
def wsX8_readsItem_r2 : List Cond := [Cond.static yX8_in, Cond.code yX8_in cX8_in 3 (some .boolean), Cond.methodLink RX8 85 yX8_once, Cond.instanceMethod yX8_once, Cond.selects RX8 yX8_once yX8_once, Cond.code yX8_once cX8_once 5 (some .boolean)]
def wsX8_readsItem : List Cond := .code yX8_readsItem cX8_readsItem 3 (some .boolean) :: ((wsX8_readsItem_r1 ++ wsX8_readsItem_r2) ++ wsX80)
def wsX8_reads_r1 : List Cond := [Cond.fieldLink RX8 16 "WarmBottlesModel" "draft" "[I", Cond.fieldLink RX8 59 "WarmBottlesModel" "at" "I", Cond.fieldLink RX8 73 "WarmBottlesModel" "sort" "I", Cond.methodLink RX8 79 yX8_token, Cond.instanceMethod yX8_token, Cond.selects RX8 yX8_token yX8_token, Cond.initialized RX8, Cond.code yX8_token cX8_token 2 none, Cond.fieldLink RX8 66 "WarmBottlesModel" "start" "I", Cond.fieldLink RX8 76 "WarmBottlesModel" "value" "I", Cond.fieldLink RX8 7 "WarmBottlesModel" "text" "[I", Cond.methodLink RX8 62 yX8_letterAt, Cond.instanceMethod yX8_letterAt, Cond.selects RX8 yX8_letterAt yX8_letterAt, Cond.code yX8_letterAt cX8_letterAt 2 (some .int), Cond.fieldLink RX8 55 "WarmBottlesModel" "typed" "I", Cond.methodLink RX8 69 yX8_isDigit, Cond.static yX8_isDigit, Cond.code yX8_isDigit cX8_isDigit 1 (some .boolean), Cond.methodLink RX8 51 yX8_in, Cond.static yX8_in, Cond.code yX8_in cX8_in 3 (some .boolean), Cond.methodLink RX8 89 yX8_readsItem, Cond.instanceMethod yX8_readsItem]
def wsX8_reads_r2 : List Cond := [Cond.selects RX8 yX8_readsItem yX8_readsItem, Cond.code yX8_readsItem cX8_readsItem 3 (some .boolean), Cond.methodLink RX8 82 yX8_number, Cond.instanceMethod yX8_number, Cond.selects RX8 yX8_number yX8_number, Cond.code yX8_number cX8_number 4 (some .boolean), Cond.methodLink RX8 85 yX8_once, Cond.instanceMethod yX8_once, Cond.selects RX8 yX8_once yX8_once, Cond.code yX8_once cX8_once 5 (some .boolean)]
def wsX8_reads : List Cond := .code yX8_reads cX8_reads 2 (some .boolean) :: ((wsX8_reads_r1 ++ wsX8_reads_r2) ++ wsX80)
def wsX8_begins : List Cond := .code yX8_begins cX8_begins 2 none :: ([.fieldLink RX8 13 "WarmBottlesModel" "told" "[I", .fieldLink RX8 16 "WarmBottlesModel" "draft" "[I", .fieldLink RX8 19 "WarmBottlesModel" "s" "[I", .fieldLink RX8 92 "WarmBottlesModel" "known" "I", .fieldLink RX8 95 "WarmBottlesModel" "noted" "I", .fieldLink RX8 28 "WarmBottlesModel" "kept" "[Z"] ++ wsX80)
def wsX8_init_r1 : List Cond := [Cond.methodLink RX8 1 objectInit, Cond.instanceMethod objectInit, Cond.code objectInit ⟨#[0xb1]⟩ 1 none, Cond.arrayClass .int, Cond.fieldLink RX8 7 "WarmBottlesModel" "text" "[I", Cond.fieldLink RX8 13 "WarmBottlesModel" "told" "[I", Cond.fieldLink RX8 16 "WarmBottlesModel" "draft" "[I", Cond.fieldLink RX8 19 "WarmBottlesModel" "s" "[I", Cond.fieldLink RX8 22 "WarmBottlesModel" "past" "[I", Cond.fieldLink RX8 25 "WarmBottlesModel" "images" "[I", Cond.arrayClass .boolean, Cond.fieldLink RX8 28 "WarmBottlesModel" "kept" "[Z", Cond.fieldLink RX8 32 "WarmBottlesModel" "notes" "[I", Cond.fieldLink RX8 35 "WarmBottlesModel" "aside" "[I", Cond.fieldLink RX8 38 "WarmBottlesModel" "row" "[I", Cond.fieldLink RX8 41 "WarmBottlesModel" "best" "[I", Cond.methodLink RX8 44 yX8_reads, Cond.instanceMethod yX8_reads, Cond.selects RX8 yX8_reads yX8_reads, Cond.initialized RX8, Cond.code yX8_reads cX8_reads 2 (some .boolean), Cond.fieldLink RX8 59 "WarmBottlesModel" "at" "I", Cond.fieldLink RX8 73 "WarmBottlesModel" "sort" "I", Cond.methodLink RX8 79 yX8_token]
def wsX8_init_r2 : List Cond := [Cond.instanceMethod yX8_token, Cond.selects RX8 yX8_token yX8_token, Cond.code yX8_token cX8_token 2 none, Cond.fieldLink RX8 66 "WarmBottlesModel" "start" "I", Cond.fieldLink RX8 76 "WarmBottlesModel" "value" "I", Cond.methodLink RX8 62 yX8_letterAt, Cond.instanceMethod yX8_letterAt, Cond.selects RX8 yX8_letterAt yX8_letterAt, Cond.code yX8_letterAt cX8_letterAt 2 (some .int), Cond.fieldLink RX8 55 "WarmBottlesModel" "typed" "I", Cond.methodLink RX8 69 yX8_isDigit, Cond.static yX8_isDigit, Cond.code yX8_isDigit cX8_isDigit 1 (some .boolean), Cond.methodLink RX8 51 yX8_in, Cond.static yX8_in, Cond.code yX8_in cX8_in 3 (some .boolean), Cond.methodLink RX8 89 yX8_readsItem, Cond.instanceMethod yX8_readsItem, Cond.selects RX8 yX8_readsItem yX8_readsItem, Cond.code yX8_readsItem cX8_readsItem 3 (some .boolean), Cond.methodLink RX8 82 yX8_number, Cond.instanceMethod yX8_number, Cond.selects RX8 yX8_number yX8_number, Cond.code yX8_number cX8_number 4 (some .boolean)]
def wsX8_init_r3 : List Cond := [Cond.methodLink RX8 85 yX8_once, Cond.instanceMethod yX8_once, Cond.selects RX8 yX8_once yX8_once, Cond.code yX8_once cX8_once 5 (some .boolean), Cond.methodLink RX8 48 yX8_begins, Cond.instanceMethod yX8_begins, Cond.selects RX8 yX8_begins yX8_begins, Cond.code yX8_begins cX8_begins 2 none, Cond.fieldLink RX8 92 "WarmBottlesModel" "known" "I", Cond.fieldLink RX8 95 "WarmBottlesModel" "noted" "I"]
def wsX8_init : List Cond := .code yX8_init cX8_init 1 none :: ((wsX8_init_r1 ++ (wsX8_init_r2 ++ wsX8_init_r3)) ++ wsX80)
def wsX8_isBottle : List Cond := .code yX8_isBottle cX8_isBottle 2 (some .boolean) :: ([.fieldLink RX8 13 "WarmBottlesModel" "told" "[I", .methodLink RX8 51 yX8_in, .static yX8_in, .initialized RX8, .code yX8_in cX8_in 3 (some .boolean)] ++ wsX80)
def wsX8_type : List Cond := .code yX8_type cX8_type 2 (some .int) :: ([.fieldLink RX8 55 "WarmBottlesModel" "typed" "I", .fieldLink RX8 7 "WarmBottlesModel" "text" "[I", .methodLink RX8 51 yX8_in, .static yX8_in, .initialized RX8, .code yX8_in cX8_in 3 (some .boolean)] ++ wsX80)
def wsX8_clear : List Cond := .code yX8_clear cX8_clear 2 (some .int) :: ([.fieldLink RX8 55 "WarmBottlesModel" "typed" "I"] ++ wsX80)
def wsX8_ward_r1 : List Cond := [Cond.fieldLink RX8 66 "WarmBottlesModel" "start" "I", Cond.fieldLink RX8 55 "WarmBottlesModel" "typed" "I", Cond.fieldLink RX8 13 "WarmBottlesModel" "told" "[I", Cond.methodLink RX8 44 yX8_reads, Cond.instanceMethod yX8_reads, Cond.selects RX8 yX8_reads yX8_reads, Cond.initialized RX8, Cond.code yX8_reads cX8_reads 2 (some .boolean), Cond.fieldLink RX8 16 "WarmBottlesModel" "draft" "[I", Cond.fieldLink RX8 59 "WarmBottlesModel" "at" "I", Cond.fieldLink RX8 73 "WarmBottlesModel" "sort" "I", Cond.methodLink RX8 79 yX8_token, Cond.instanceMethod yX8_token, Cond.selects RX8 yX8_token yX8_token, Cond.code yX8_token cX8_token 2 none, Cond.fieldLink RX8 76 "WarmBottlesModel" "value" "I", Cond.fieldLink RX8 7 "WarmBottlesModel" "text" "[I", Cond.methodLink RX8 62 yX8_letterAt, Cond.instanceMethod yX8_letterAt, Cond.selects RX8 yX8_letterAt yX8_letterAt, Cond.code yX8_letterAt cX8_letterAt 2 (some .int), Cond.methodLink RX8 69 yX8_isDigit, Cond.static yX8_isDigit, Cond.code yX8_isDigit cX8_isDigit 1 (some .boolean)]
def wsX8_ward_r2 : List Cond := [Cond.methodLink RX8 51 yX8_in, Cond.static yX8_in, Cond.code yX8_in cX8_in 3 (some .boolean), Cond.methodLink RX8 89 yX8_readsItem, Cond.instanceMethod yX8_readsItem, Cond.selects RX8 yX8_readsItem yX8_readsItem, Cond.code yX8_readsItem cX8_readsItem 3 (some .boolean), Cond.methodLink RX8 82 yX8_number, Cond.instanceMethod yX8_number, Cond.selects RX8 yX8_number yX8_number, Cond.code yX8_number cX8_number 4 (some .boolean), Cond.methodLink RX8 85 yX8_once, Cond.instanceMethod yX8_once, Cond.selects RX8 yX8_once yX8_once, Cond.code yX8_once cX8_once 5 (some .boolean), Cond.methodLink RX8 48 yX8_begins, Cond.instanceMethod yX8_begins, Cond.selects RX8 yX8_begins yX8_begins, Cond.code yX8_begins cX8_begins 2 none, Cond.fieldLink RX8 19 "WarmBottlesModel" "s" "[I", Cond.fieldLink RX8 92 "WarmBottlesModel" "known" "I", Cond.fieldLink RX8 95 "WarmBottlesModel" "noted" "I", Cond.fieldLink RX8 28 "WarmBottlesModel" "kept" "[Z"]
def wsX8_ward : List Cond := .code yX8_ward cX8_ward 1 (some .int) :: ((wsX8_ward_r1 ++ wsX8_ward_r2) ++ wsX80)
def wsX8_cools : List Cond := .code yX8_cools cX8_cools 5 (some .int) :: ([.fieldLink RX8 13 "WarmBottlesModel" "told" "[I", .fieldLink RX8 19 "WarmBottlesModel" "s" "[I"] ++ wsX80)
def wsX8_less : List Cond := .code yX8_less cX8_less 2 (some .int) :: ([])
def wsX8_lasts : List Cond := .code yX8_lasts cX8_lasts 3 (some .int) :: ([.fieldLink RX8 19 "WarmBottlesModel" "s" "[I", .methodLink RX8 98 yX8_cools, .instanceMethod yX8_cools, .selects RX8 yX8_cools yX8_cools, .initialized RX8, .code yX8_cools cX8_cools 5 (some .int), .fieldLink RX8 13 "WarmBottlesModel" "told" "[I"] ++ wsX80)
def wsX8_allLast : List Cond := .code yX8_allLast cX8_allLast 3 (some .int) :: ([.fieldLink RX8 13 "WarmBottlesModel" "told" "[I", .methodLink RX8 102 yX8_lasts, .instanceMethod yX8_lasts, .selects RX8 yX8_lasts yX8_lasts, .initialized RX8, .code yX8_lasts cX8_lasts 3 (some .int), .fieldLink RX8 19 "WarmBottlesModel" "s" "[I", .methodLink RX8 98 yX8_cools, .instanceMethod yX8_cools, .selects RX8 yX8_cools yX8_cools, .code yX8_cools cX8_cools 5 (some .int)] ++ wsX80)
def wsX8_soundOf : List Cond := .code yX8_soundOf cX8_soundOf 3 (some .int) :: ([.fieldLink RX8 13 "WarmBottlesModel" "told" "[I"] ++ wsX80)
def wsX8_bottle : List Cond := .code yX8_bottle cX8_bottle 3 (some .int) :: ([.fieldLink RX8 19 "WarmBottlesModel" "s" "[I", .fieldLink RX8 13 "WarmBottlesModel" "told" "[I", .methodLink RX8 105 yX8_isBottle, .instanceMethod yX8_isBottle, .selects RX8 yX8_isBottle yX8_isBottle, .initialized RX8, .code yX8_isBottle cX8_isBottle 2 (some .boolean), .methodLink RX8 51 yX8_in, .static yX8_in, .code yX8_in cX8_in 3 (some .boolean), .methodLink RX8 108 yX8_soundOf, .instanceMethod yX8_soundOf, .selects RX8 yX8_soundOf yX8_soundOf, .code yX8_soundOf cX8_soundOf 3 (some .int), .methodLink RX8 102 yX8_lasts, .instanceMethod yX8_lasts, .selects RX8 yX8_lasts yX8_lasts, .code yX8_lasts cX8_lasts 3 (some .int), .methodLink RX8 98 yX8_cools, .instanceMethod yX8_cools, .selects RX8 yX8_cools yX8_cools, .code yX8_cools cX8_cools 5 (some .int)] ++ wsX80)
def wsX8_manyWarm : List Cond := .code yX8_manyWarm cX8_manyWarm 3 (some .int) :: ([.fieldLink RX8 13 "WarmBottlesModel" "told" "[I", .fieldLink RX8 19 "WarmBottlesModel" "s" "[I"] ++ wsX80)
def wsX8_now : List Cond := .code yX8_now cX8_now 2 (some .int) :: ([.fieldLink RX8 19 "WarmBottlesModel" "s" "[I", .fieldLink RX8 92 "WarmBottlesModel" "known" "I", .methodLink RX8 111 yX8_allLast, .instanceMethod yX8_allLast, .selects RX8 yX8_allLast yX8_allLast, .initialized RX8, .code yX8_allLast cX8_allLast 3 (some .int), .fieldLink RX8 13 "WarmBottlesModel" "told" "[I", .methodLink RX8 102 yX8_lasts, .instanceMethod yX8_lasts, .selects RX8 yX8_lasts yX8_lasts, .code yX8_lasts cX8_lasts 3 (some .int), .methodLink RX8 98 yX8_cools, .instanceMethod yX8_cools, .selects RX8 yX8_cools yX8_cools, .code yX8_cools cX8_cools 5 (some .int), .methodLink RX8 115 yX8_manyWarm, .instanceMethod yX8_manyWarm, .selects RX8 yX8_manyWarm yX8_manyWarm, .code yX8_manyWarm cX8_manyWarm 3 (some .int)] ++ wsX80)
def wsX8_keeps : List Cond := .code yX8_keeps cX8_keeps 2 none :: ([.fieldLink RX8 92 "WarmBottlesModel" "known" "I", .fieldLink RX8 22 "WarmBottlesModel" "past" "[I", .fieldLink RX8 19 "WarmBottlesModel" "s" "[I"] ++ wsX80)
def wsX8_passes : List Cond := .code yX8_passes cX8_passes 2 none :: ([.fieldLink RX8 13 "WarmBottlesModel" "told" "[I", .fieldLink RX8 19 "WarmBottlesModel" "s" "[I", .methodLink RX8 98 yX8_cools, .instanceMethod yX8_cools, .selects RX8 yX8_cools yX8_cools, .initialized RX8, .code yX8_cools cX8_cools 5 (some .int), .methodLink RX8 118 yX8_less, .static yX8_less, .code yX8_less cX8_less 2 (some .int)] ++ wsX80)
def wsX8_hour : List Cond := .code yX8_hour cX8_hour 1 (some .int) :: ([.fieldLink RX8 19 "WarmBottlesModel" "s" "[I", .methodLink RX8 121 yX8_keeps, .instanceMethod yX8_keeps, .selects RX8 yX8_keeps yX8_keeps, .initialized RX8, .code yX8_keeps cX8_keeps 2 none, .fieldLink RX8 92 "WarmBottlesModel" "known" "I", .fieldLink RX8 22 "WarmBottlesModel" "past" "[I", .methodLink RX8 124 yX8_passes, .instanceMethod yX8_passes, .selects RX8 yX8_passes yX8_passes, .code yX8_passes cX8_passes 2 none, .fieldLink RX8 13 "WarmBottlesModel" "told" "[I", .methodLink RX8 98 yX8_cools, .instanceMethod yX8_cools, .selects RX8 yX8_cools yX8_cools, .code yX8_cools cX8_cools 5 (some .int), .methodLink RX8 118 yX8_less, .static yX8_less, .code yX8_less cX8_less 2 (some .int), .methodLink RX8 115 yX8_manyWarm, .instanceMethod yX8_manyWarm, .selects RX8 yX8_manyWarm yX8_manyWarm, .code yX8_manyWarm cX8_manyWarm 3 (some .int)] ++ wsX80)
def wsX8_filled : List Cond := .code yX8_filled cX8_filled 4 (some .int) :: ([.fieldLink RX8 19 "WarmBottlesModel" "s" "[I", .fieldLink RX8 13 "WarmBottlesModel" "told" "[I"] ++ wsX80)
def wsX8_fills : List Cond := .code yX8_fills cX8_fills 3 (some .int) :: ([.fieldLink RX8 19 "WarmBottlesModel" "s" "[I", .methodLink RX8 105 yX8_isBottle, .instanceMethod yX8_isBottle, .selects RX8 yX8_isBottle yX8_isBottle, .initialized RX8, .code yX8_isBottle cX8_isBottle 2 (some .boolean), .fieldLink RX8 13 "WarmBottlesModel" "told" "[I", .methodLink RX8 51 yX8_in, .static yX8_in, .code yX8_in cX8_in 3 (some .boolean), .methodLink RX8 121 yX8_keeps, .instanceMethod yX8_keeps, .selects RX8 yX8_keeps yX8_keeps, .code yX8_keeps cX8_keeps 2 none, .fieldLink RX8 92 "WarmBottlesModel" "known" "I", .fieldLink RX8 22 "WarmBottlesModel" "past" "[I", .methodLink RX8 127 yX8_filled, .instanceMethod yX8_filled, .selects RX8 yX8_filled yX8_filled, .code yX8_filled cX8_filled 4 (some .int)] ++ wsX80)
def wsX8_lays : List Cond := .code yX8_lays cX8_lays 4 (some .int) :: ([.fieldLink RX8 19 "WarmBottlesModel" "s" "[I", .methodLink RX8 105 yX8_isBottle, .instanceMethod yX8_isBottle, .selects RX8 yX8_isBottle yX8_isBottle, .initialized RX8, .code yX8_isBottle cX8_isBottle 2 (some .boolean), .fieldLink RX8 13 "WarmBottlesModel" "told" "[I", .methodLink RX8 51 yX8_in, .static yX8_in, .code yX8_in cX8_in 3 (some .boolean), .methodLink RX8 121 yX8_keeps, .instanceMethod yX8_keeps, .selects RX8 yX8_keeps yX8_keeps, .code yX8_keeps cX8_keeps 2 none, .fieldLink RX8 92 "WarmBottlesModel" "known" "I", .fieldLink RX8 22 "WarmBottlesModel" "past" "[I"] ++ wsX80)
def wsX8_spills : List Cond := .code yX8_spills cX8_spills 3 (some .int) :: ([.fieldLink RX8 19 "WarmBottlesModel" "s" "[I", .methodLink RX8 105 yX8_isBottle, .instanceMethod yX8_isBottle, .selects RX8 yX8_isBottle yX8_isBottle, .initialized RX8, .code yX8_isBottle cX8_isBottle 2 (some .boolean), .fieldLink RX8 13 "WarmBottlesModel" "told" "[I", .methodLink RX8 51 yX8_in, .static yX8_in, .code yX8_in cX8_in 3 (some .boolean), .methodLink RX8 121 yX8_keeps, .instanceMethod yX8_keeps, .selects RX8 yX8_keeps yX8_keeps, .code yX8_keeps cX8_keeps 2 none, .fieldLink RX8 92 "WarmBottlesModel" "known" "I", .fieldLink RX8 22 "WarmBottlesModel" "past" "[I"] ++ wsX80)
def wsX8_frosts : List Cond := .code yX8_frosts cX8_frosts 3 (some .int) :: ([.fieldLink RX8 19 "WarmBottlesModel" "s" "[I", .methodLink RX8 51 yX8_in, .static yX8_in, .initialized RX8, .code yX8_in cX8_in 3 (some .boolean), .methodLink RX8 121 yX8_keeps, .instanceMethod yX8_keeps, .selects RX8 yX8_keeps yX8_keeps, .code yX8_keeps cX8_keeps 2 none, .fieldLink RX8 92 "WarmBottlesModel" "known" "I", .fieldLink RX8 22 "WarmBottlesModel" "past" "[I"] ++ wsX80)
def wsX8_boils : List Cond := .code yX8_boils cX8_boils 2 (some .int) :: ([.fieldLink RX8 19 "WarmBottlesModel" "s" "[I", .fieldLink RX8 13 "WarmBottlesModel" "told" "[I", .methodLink RX8 121 yX8_keeps, .instanceMethod yX8_keeps, .selects RX8 yX8_keeps yX8_keeps, .initialized RX8, .code yX8_keeps cX8_keeps 2 none, .fieldLink RX8 92 "WarmBottlesModel" "known" "I", .fieldLink RX8 22 "WarmBottlesModel" "past" "[I"] ++ wsX80)
def wsX8_undo : List Cond := .code yX8_undo cX8_undo 2 (some .int) :: ([.fieldLink RX8 92 "WarmBottlesModel" "known" "I", .fieldLink RX8 19 "WarmBottlesModel" "s" "[I", .fieldLink RX8 22 "WarmBottlesModel" "past" "[I"] ++ wsX80)
def wsX8_pints : List Cond := .code yX8_pints cX8_pints 5 (some .int) :: ([.fieldLink RX8 19 "WarmBottlesModel" "s" "[I", .methodLink RX8 127 yX8_filled, .instanceMethod yX8_filled, .selects RX8 yX8_filled yX8_filled, .initialized RX8, .code yX8_filled cX8_filled 4 (some .int), .fieldLink RX8 13 "WarmBottlesModel" "told" "[I", .methodLink RX8 98 yX8_cools, .instanceMethod yX8_cools, .selects RX8 yX8_cools yX8_cools, .code yX8_cools cX8_cools 5 (some .int)] ++ wsX80)
def wsX8_morning : List Cond := .code yX8_morning cX8_morning 6 (some .int) :: ([.fieldLink RX8 13 "WarmBottlesModel" "told" "[I", .methodLink RX8 51 yX8_in, .static yX8_in, .initialized RX8, .code yX8_in cX8_in 3 (some .boolean), .methodLink RX8 105 yX8_isBottle, .instanceMethod yX8_isBottle, .selects RX8 yX8_isBottle yX8_isBottle, .code yX8_isBottle cX8_isBottle 2 (some .boolean), .methodLink RX8 130 yX8_pints, .instanceMethod yX8_pints, .selects RX8 yX8_pints yX8_pints, .code yX8_pints cX8_pints 5 (some .int), .fieldLink RX8 19 "WarmBottlesModel" "s" "[I", .methodLink RX8 127 yX8_filled, .instanceMethod yX8_filled, .selects RX8 yX8_filled yX8_filled, .code yX8_filled cX8_filled 4 (some .int), .methodLink RX8 98 yX8_cools, .instanceMethod yX8_cools, .selects RX8 yX8_cools yX8_cools, .code yX8_cools cX8_cools 5 (some .int)] ++ wsX80)
def wsX8_holds : List Cond := .code yX8_holds cX8_holds 2 none :: ([.fieldLink RX8 35 "WarmBottlesModel" "aside" "[I", .fieldLink RX8 19 "WarmBottlesModel" "s" "[I"] ++ wsX80)
def wsX8_lets : List Cond := .code yX8_lets cX8_lets 2 none :: ([.fieldLink RX8 19 "WarmBottlesModel" "s" "[I", .fieldLink RX8 35 "WarmBottlesModel" "aside" "[I"] ++ wsX80)
def wsX8_keptBy : List Cond := .code yX8_keptBy cX8_keptBy 5 (some .int) :: ([.fieldLink RX8 13 "WarmBottlesModel" "told" "[I", .fieldLink RX8 19 "WarmBottlesModel" "s" "[I", .methodLink RX8 127 yX8_filled, .instanceMethod yX8_filled, .selects RX8 yX8_filled yX8_filled, .initialized RX8, .code yX8_filled cX8_filled 4 (some .int), .methodLink RX8 124 yX8_passes, .instanceMethod yX8_passes, .selects RX8 yX8_passes yX8_passes, .code yX8_passes cX8_passes 2 none, .methodLink RX8 98 yX8_cools, .instanceMethod yX8_cools, .selects RX8 yX8_cools yX8_cools, .code yX8_cools cX8_cools 5 (some .int), .methodLink RX8 118 yX8_less, .static yX8_less, .code yX8_less cX8_less 2 (some .int), .methodLink RX8 115 yX8_manyWarm, .instanceMethod yX8_manyWarm, .selects RX8 yX8_manyWarm yX8_manyWarm, .code yX8_manyWarm cX8_manyWarm 3 (some .int)] ++ wsX80)
def wsX8_kept_r1 : List Cond := [Cond.fieldLink RX8 13 "WarmBottlesModel" "told" "[I", Cond.methodLink RX8 51 yX8_in, Cond.static yX8_in, Cond.initialized RX8, Cond.code yX8_in cX8_in 3 (some .boolean), Cond.methodLink RX8 133 yX8_holds, Cond.instanceMethod yX8_holds, Cond.selects RX8 yX8_holds yX8_holds, Cond.code yX8_holds cX8_holds 2 none, Cond.fieldLink RX8 35 "WarmBottlesModel" "aside" "[I", Cond.fieldLink RX8 19 "WarmBottlesModel" "s" "[I", Cond.methodLink RX8 136 yX8_keptBy, Cond.instanceMethod yX8_keptBy, Cond.selects RX8 yX8_keptBy yX8_keptBy, Cond.code yX8_keptBy cX8_keptBy 5 (some .int), Cond.methodLink RX8 127 yX8_filled, Cond.instanceMethod yX8_filled, Cond.selects RX8 yX8_filled yX8_filled, Cond.code yX8_filled cX8_filled 4 (some .int), Cond.methodLink RX8 124 yX8_passes, Cond.instanceMethod yX8_passes, Cond.selects RX8 yX8_passes yX8_passes, Cond.code yX8_passes cX8_passes 2 none, Cond.methodLink RX8 98 yX8_cools]
def wsX8_kept_r2 : List Cond := [Cond.instanceMethod yX8_cools, Cond.selects RX8 yX8_cools yX8_cools, Cond.code yX8_cools cX8_cools 5 (some .int), Cond.methodLink RX8 118 yX8_less, Cond.static yX8_less, Cond.code yX8_less cX8_less 2 (some .int), Cond.methodLink RX8 115 yX8_manyWarm, Cond.instanceMethod yX8_manyWarm, Cond.selects RX8 yX8_manyWarm yX8_manyWarm, Cond.code yX8_manyWarm cX8_manyWarm 3 (some .int), Cond.methodLink RX8 139 yX8_lets, Cond.instanceMethod yX8_lets, Cond.selects RX8 yX8_lets yX8_lets, Cond.code yX8_lets cX8_lets 2 none]
def wsX8_kept : List Cond := .code yX8_kept cX8_kept 6 (some .int) :: ((wsX8_kept_r1 ++ wsX8_kept_r2) ++ wsX80)
def wsX8_isWay : List Cond := .code yX8_isWay cX8_isWay 6 (some .boolean) :: ([.fieldLink RX8 13 "WarmBottlesModel" "told" "[I", .fieldLink RX8 38 "WarmBottlesModel" "row" "[I"] ++ wsX80)
def wsX8_beds_r1 : List Cond := [Cond.fieldLink RX8 13 "WarmBottlesModel" "told" "[I", Cond.fieldLink RX8 19 "WarmBottlesModel" "s" "[I", Cond.fieldLink RX8 38 "WarmBottlesModel" "row" "[I", Cond.fieldLink RX8 41 "WarmBottlesModel" "best" "[I", Cond.methodLink RX8 105 yX8_isBottle, Cond.instanceMethod yX8_isBottle, Cond.selects RX8 yX8_isBottle yX8_isBottle, Cond.initialized RX8, Cond.code yX8_isBottle cX8_isBottle 2 (some .boolean), Cond.methodLink RX8 51 yX8_in, Cond.static yX8_in, Cond.code yX8_in cX8_in 3 (some .boolean), Cond.methodLink RX8 133 yX8_holds, Cond.instanceMethod yX8_holds, Cond.selects RX8 yX8_holds yX8_holds, Cond.code yX8_holds cX8_holds 2 none, Cond.fieldLink RX8 35 "WarmBottlesModel" "aside" "[I", Cond.methodLink RX8 142 yX8_isWay, Cond.instanceMethod yX8_isWay, Cond.selects RX8 yX8_isWay yX8_isWay, Cond.code yX8_isWay cX8_isWay 6 (some .boolean), Cond.methodLink RX8 111 yX8_allLast, Cond.instanceMethod yX8_allLast, Cond.selects RX8 yX8_allLast yX8_allLast]
def wsX8_beds_r2 : List Cond := [Cond.code yX8_allLast cX8_allLast 3 (some .int), Cond.methodLink RX8 102 yX8_lasts, Cond.instanceMethod yX8_lasts, Cond.selects RX8 yX8_lasts yX8_lasts, Cond.code yX8_lasts cX8_lasts 3 (some .int), Cond.methodLink RX8 98 yX8_cools, Cond.instanceMethod yX8_cools, Cond.selects RX8 yX8_cools yX8_cools, Cond.code yX8_cools cX8_cools 5 (some .int), Cond.methodLink RX8 139 yX8_lets, Cond.instanceMethod yX8_lets, Cond.selects RX8 yX8_lets yX8_lets, Cond.code yX8_lets cX8_lets 2 none]
def wsX8_beds : List Cond := .code yX8_beds cX8_beds 7 (some .int) :: ((wsX8_beds_r1 ++ wsX8_beds_r2) ++ wsX80)
def wsX8_odds : List Cond := .code yX8_odds cX8_odds 12 (some .int) :: ([.fieldLink RX8 19 "WarmBottlesModel" "s" "[I", .methodLink RX8 105 yX8_isBottle, .instanceMethod yX8_isBottle, .selects RX8 yX8_isBottle yX8_isBottle, .initialized RX8, .code yX8_isBottle cX8_isBottle 2 (some .boolean), .fieldLink RX8 13 "WarmBottlesModel" "told" "[I", .methodLink RX8 51 yX8_in, .static yX8_in, .code yX8_in cX8_in 3 (some .boolean), .methodLink RX8 98 yX8_cools, .instanceMethod yX8_cools, .selects RX8 yX8_cools yX8_cools, .code yX8_cools cX8_cools 5 (some .int), .methodLink RX8 118 yX8_less, .static yX8_less, .code yX8_less cX8_less 2 (some .int)] ++ wsX80)
def wsX8_hears : List Cond := .code yX8_hears cX8_hears 3 (some .int) :: ([.fieldLink RX8 95 "WarmBottlesModel" "noted" "I", .fieldLink RX8 32 "WarmBottlesModel" "notes" "[I", .methodLink RX8 51 yX8_in, .static yX8_in, .initialized RX8, .code yX8_in cX8_in 3 (some .boolean)] ++ wsX80)
def wsX8_forget : List Cond := .code yX8_forget cX8_forget 2 (some .int) :: ([.fieldLink RX8 95 "WarmBottlesModel" "noted" "I"] ++ wsX80)
def wsX8_soundIn : List Cond := .code yX8_soundIn cX8_soundIn 3 (some .int) :: ([.fieldLink RX8 19 "WarmBottlesModel" "s" "[I", .methodLink RX8 98 yX8_cools, .instanceMethod yX8_cools, .selects RX8 yX8_cools yX8_cools, .initialized RX8, .code yX8_cools cX8_cools 5 (some .int), .fieldLink RX8 13 "WarmBottlesModel" "told" "[I", .methodLink RX8 118 yX8_less, .static yX8_less, .code yX8_less cX8_less 2 (some .int), .methodLink RX8 108 yX8_soundOf, .instanceMethod yX8_soundOf, .selects RX8 yX8_soundOf yX8_soundOf, .code yX8_soundOf cX8_soundOf 3 (some .int)] ++ wsX80)
def wsX8_whoNow : List Cond := .code yX8_whoNow cX8_whoNow 5 (some .int) :: ([.fieldLink RX8 13 "WarmBottlesModel" "told" "[I", .fieldLink RX8 95 "WarmBottlesModel" "noted" "I", .fieldLink RX8 32 "WarmBottlesModel" "notes" "[I", .methodLink RX8 145 yX8_soundIn, .instanceMethod yX8_soundIn, .selects RX8 yX8_soundIn yX8_soundIn, .initialized RX8, .code yX8_soundIn cX8_soundIn 3 (some .int), .fieldLink RX8 19 "WarmBottlesModel" "s" "[I", .methodLink RX8 98 yX8_cools, .instanceMethod yX8_cools, .selects RX8 yX8_cools yX8_cools, .code yX8_cools cX8_cools 5 (some .int), .methodLink RX8 118 yX8_less, .static yX8_less, .code yX8_less cX8_less 2 (some .int), .methodLink RX8 108 yX8_soundOf, .instanceMethod yX8_soundOf, .selects RX8 yX8_soundOf yX8_soundOf, .code yX8_soundOf cX8_soundOf 3 (some .int)] ++ wsX80)
def wsX8_who : List Cond := .code yX8_who cX8_who 1 (some .int) :: ([.methodLink RX8 148 yX8_whoNow, .instanceMethod yX8_whoNow, .selects RX8 yX8_whoNow yX8_whoNow, .initialized RX8, .code yX8_whoNow cX8_whoNow 5 (some .int), .fieldLink RX8 13 "WarmBottlesModel" "told" "[I", .fieldLink RX8 95 "WarmBottlesModel" "noted" "I", .fieldLink RX8 32 "WarmBottlesModel" "notes" "[I", .methodLink RX8 145 yX8_soundIn, .instanceMethod yX8_soundIn, .selects RX8 yX8_soundIn yX8_soundIn, .code yX8_soundIn cX8_soundIn 3 (some .int), .fieldLink RX8 19 "WarmBottlesModel" "s" "[I", .methodLink RX8 98 yX8_cools, .instanceMethod yX8_cools, .selects RX8 yX8_cools yX8_cools, .code yX8_cools cX8_cools 5 (some .int), .methodLink RX8 118 yX8_less, .static yX8_less, .code yX8_less cX8_less 2 (some .int), .methodLink RX8 108 yX8_soundOf, .instanceMethod yX8_soundOf, .selects RX8 yX8_soundOf yX8_soundOf, .code yX8_soundOf cX8_soundOf 3 (some .int)] ++ wsX80)
def wsX8_listen : List Cond := .code yX8_listen cX8_listen 9 (some .int) :: ([.fieldLink RX8 13 "WarmBottlesModel" "told" "[I", .methodLink RX8 148 yX8_whoNow, .instanceMethod yX8_whoNow, .selects RX8 yX8_whoNow yX8_whoNow, .initialized RX8, .code yX8_whoNow cX8_whoNow 5 (some .int), .fieldLink RX8 95 "WarmBottlesModel" "noted" "I", .fieldLink RX8 32 "WarmBottlesModel" "notes" "[I", .methodLink RX8 145 yX8_soundIn, .instanceMethod yX8_soundIn, .selects RX8 yX8_soundIn yX8_soundIn, .code yX8_soundIn cX8_soundIn 3 (some .int), .fieldLink RX8 19 "WarmBottlesModel" "s" "[I", .methodLink RX8 98 yX8_cools, .instanceMethod yX8_cools, .selects RX8 yX8_cools yX8_cools, .code yX8_cools cX8_cools 5 (some .int), .methodLink RX8 118 yX8_less, .static yX8_less, .code yX8_less cX8_less 2 (some .int), .methodLink RX8 108 yX8_soundOf, .instanceMethod yX8_soundOf, .selects RX8 yX8_soundOf yX8_soundOf, .code yX8_soundOf cX8_soundOf 3 (some .int)] ++ wsX80)
def wsX8_rate : List Cond := .code yX8_rate cX8_rate 6 (some .int) :: ([.constant RX8 151 (-1000000), .fieldLink RX8 152 "WarmBottlesModel" "trace" "J", .constantLong RX8 156 (11), .constantLong RX8 158 (101), .constantLong RX8 160 (1011), .constantLong RX8 162 (10101), .constantLong RX8 164 (100001), .fieldLink RX8 19 "WarmBottlesModel" "s" "[I", .fieldLink RX8 13 "WarmBottlesModel" "told" "[I", .methodLink RX8 51 yX8_in, .static yX8_in, .initialized RX8, .code yX8_in cX8_in 3 (some .boolean), .methodLink RX8 105 yX8_isBottle, .instanceMethod yX8_isBottle, .selects RX8 yX8_isBottle yX8_isBottle, .code yX8_isBottle cX8_isBottle 2 (some .boolean)] ++ wsX80)
def wsX8_keep : List Cond := .code yX8_keep cX8_keep 3 (some .int) :: ([.fieldLink RX8 25 "WarmBottlesModel" "images" "[I", .fieldLink RX8 19 "WarmBottlesModel" "s" "[I", .fieldLink RX8 28 "WarmBottlesModel" "kept" "[Z", .methodLink RX8 51 yX8_in, .static yX8_in, .initialized RX8, .code yX8_in cX8_in 3 (some .boolean)] ++ wsX80)
def wsX8_back : List Cond := .code yX8_back cX8_back 3 (some .int) :: ([.fieldLink RX8 28 "WarmBottlesModel" "kept" "[Z", .fieldLink RX8 19 "WarmBottlesModel" "s" "[I", .fieldLink RX8 25 "WarmBottlesModel" "images" "[I", .fieldLink RX8 92 "WarmBottlesModel" "known" "I", .methodLink RX8 51 yX8_in, .static yX8_in, .initialized RX8, .code yX8_in cX8_in 3 (some .boolean)] ++ wsX80)
def wsX8_count : List Cond := .code yX8_count cX8_count 2 (some .int) :: ([.fieldLink RX8 13 "WarmBottlesModel" "told" "[I", .fieldLink RX8 95 "WarmBottlesModel" "noted" "I", .fieldLink RX8 55 "WarmBottlesModel" "typed" "I"] ++ wsX80)
def wsX8_trace : List Cond := .code yX8_trace cX8_trace 1 (some .long) :: ([.fieldLink RX8 152 "WarmBottlesModel" "trace" "J"] ++ wsX80)
def wsJ9_max_7cf53 : List Cond := .code yJ9_max_7cf53 cJ9_max_7cf53 2 (some .int) :: ([])
def wsJ9_min_7cf53 : List Cond := .code yJ9_min_7cf53 cJ9_min_7cf53 2 (some .int) :: ([])
def wsL_law_r1 : List Cond := [Cond.classLink RL 7 RX7, Cond.instantiable RX7 9, Cond.initialized RX7, Cond.classLink RL 10 RX8, Cond.instantiable RX8 19, Cond.initialized RX8, Cond.methodLink RL 9 yX7_init, Cond.instanceMethod yX7_init, Cond.code yX7_init cX7_init 1 none, Cond.methodLink RX7 1 objectInit, Cond.instanceMethod objectInit, Cond.code objectInit ⟨#[0xb1]⟩ 1 none, Cond.classLink RX7 7 RX5, Cond.instantiable RX5 8, Cond.initialized RX5, Cond.fieldLink RX7 10 "WarmBottles" "text" "LWarmBottles$Text;", Cond.classLink RX7 16 RX6, Cond.instantiable RX6 6, Cond.initialized RX6, Cond.fieldLink RX7 19 "WarmBottles" "draft" "LWarmBottles$Told;", Cond.classLink RX7 23 RX3, Cond.instantiable RX3 6, Cond.initialized RX3, Cond.fieldLink RX7 26 "WarmBottles" "night" "LWarmBottles$Night;"]
def wsL_law_r2 : List Cond := [Cond.classLink RX7 30 RX4, Cond.instantiable RX4 3, Cond.initialized RX4, Cond.fieldLink RX7 33 "WarmBottles" "past" "LWarmBottles$Past;", Cond.classLink RX7 37 RX0, Cond.instantiable RX0 2, Cond.initialized RX0, Cond.fieldLink RX7 42 "WarmBottles" "images" "LWarmBottles$Copies;", Cond.arrayClass .boolean, Cond.fieldLink RX7 46 "WarmBottles" "imageKept" "[Z", Cond.classLink RX7 50 RX1, Cond.instantiable RX1 3, Cond.initialized RX1, Cond.fieldLink RX7 53 "WarmBottles" "heard" "LWarmBottles$Heard;", Cond.classLink RX7 57 RX2, Cond.instantiable RX2 3, Cond.initialized RX2, Cond.fieldLink RX7 62 "WarmBottles" "keeping" "LWarmBottles$Keeping;", Cond.instanceMethod yX5_init, Cond.code yX5_init cX5_init 1 none, Cond.methodLink RX5 3 objectInit, Cond.arrayClass .char, Cond.fieldLink RX5 9 "WarmBottles$Text" "letters" "[C", Cond.methodLink RX7 18 yX6_init]
def wsL_law_r3 : List Cond := [Cond.instanceMethod yX6_init, Cond.code yX6_init cX6_init 1 none, Cond.methodLink RX6 3 objectInit, Cond.arrayClass .int, Cond.fieldLink RX6 9 "WarmBottles$Told" "warm" "[I", Cond.fieldLink RX6 15 "WarmBottles$Told" "cools" "[I", Cond.fieldLink RX6 18 "WarmBottles$Told" "speaks" "[I", Cond.methodLink RX6 21 yX6_beAsAtFirst, Cond.instanceMethod yX6_beAsAtFirst, Cond.selects RX6 yX6_beAsAtFirst yX6_beAsAtFirst, Cond.code yX6_beAsAtFirst cX6_beAsAtFirst 1 none, Cond.fieldLink RX6 24 "WarmBottles$Told" "bottles" "I", Cond.fieldLink RX6 28 "WarmBottles$Told" "kettle" "I", Cond.fieldLink RX6 31 "WarmBottles$Told" "pint" "I", Cond.methodLink RX7 25 yX3_init, Cond.instanceMethod yX3_init, Cond.code yX3_init cX3_init 1 none, Cond.methodLink RX3 3 objectInit, Cond.classLink RX3 9 RX6, Cond.fieldLink RX3 12 "WarmBottles$Night" "told" "LWarmBottles$Told;", Cond.fieldLink RX3 18 "WarmBottles$Night" "warm" "[I", Cond.fieldLink RX3 22 "WarmBottles$Night" "bed" "[I", Cond.methodLink RX3 11 yX6_init, Cond.methodLink RX3 25 yX3_begin]
def wsL_law_r4 : List Cond := [Cond.instanceMethod yX3_begin, Cond.selects RX3 yX3_begin yX3_begin, Cond.code yX3_begin cX3_begin 2 none, Cond.fieldLink RX3 28 "WarmBottles$Night" "hour" "I", Cond.fieldLink RX3 32 "WarmBottles$Night" "frost" "I", Cond.fieldLink RX3 35 "WarmBottles$Told" "kettle" "I", Cond.fieldLink RX3 38 "WarmBottles$Night" "kettle" "I", Cond.fieldLink RX3 39 "WarmBottles$Told" "warm" "[I", Cond.instanceMethod yX4_init, Cond.code yX4_init cX4_init 1 none, Cond.methodLink RX4 3 objectInit, Cond.classLink RX4 9 RX0, Cond.fieldLink RX4 14 "WarmBottles$Past" "copies" "LWarmBottles$Copies;", Cond.methodLink RX4 11 yX0_init, Cond.instanceMethod yX0_init, Cond.code yX0_init cX0_init 2 none, Cond.methodLink RX0 5 objectInit, Cond.methodLink RX0 11 Lib.Math.max.name, Cond.static Lib.Math.max.name, Cond.initialized "java/lang/Math", Cond.code Lib.Math.max.name Lib.Math.max.code 2 (some .int), Cond.fieldLink RX0 17 "WarmBottles$Copies" "slots" "I", Cond.fieldLink RX0 21 "WarmBottles$Copies" "cells" "[I", Cond.methodLink RX7 39 yX0_init]
def wsL_law_r5 : List Cond := [Cond.instanceMethod yX1_init, Cond.code yX1_init cX1_init 1 none, Cond.methodLink RX1 3 objectInit, Cond.fieldLink RX1 9 "WarmBottles$Heard" "hours" "[I", Cond.fieldLink RX1 15 "WarmBottles$Heard" "sounds" "[I", Cond.methodLink RX7 59 yX2_init, Cond.instanceMethod yX2_init, Cond.code yX2_init cX2_init 2 none, Cond.methodLink RX2 3 objectInit, Cond.fieldLink RX2 9 "WarmBottles$Keeping" "loss" "[I", Cond.fieldLink RX2 15 "WarmBottles$Keeping" "warm" "[I", Cond.fieldLink RX2 18 "WarmBottles$Keeping" "night" "LWarmBottles$Night;", Cond.methodLink RL 12 yX8_init, Cond.instanceMethod yX8_init, Cond.code yX8_init cX8_init 1 none, Cond.methodLink RX8 1 objectInit, Cond.fieldLink RX8 7 "WarmBottlesModel" "text" "[I", Cond.fieldLink RX8 13 "WarmBottlesModel" "told" "[I", Cond.fieldLink RX8 16 "WarmBottlesModel" "draft" "[I", Cond.fieldLink RX8 19 "WarmBottlesModel" "s" "[I", Cond.fieldLink RX8 22 "WarmBottlesModel" "past" "[I", Cond.fieldLink RX8 25 "WarmBottlesModel" "images" "[I", Cond.fieldLink RX8 28 "WarmBottlesModel" "kept" "[Z", Cond.fieldLink RX8 32 "WarmBottlesModel" "notes" "[I"]
def wsL_law_r6 : List Cond := [Cond.fieldLink RX8 35 "WarmBottlesModel" "aside" "[I", Cond.fieldLink RX8 38 "WarmBottlesModel" "row" "[I", Cond.fieldLink RX8 41 "WarmBottlesModel" "best" "[I", Cond.methodLink RX8 44 yX8_reads, Cond.instanceMethod yX8_reads, Cond.selects RX8 yX8_reads yX8_reads, Cond.code yX8_reads cX8_reads 2 (some .boolean), Cond.fieldLink RX8 59 "WarmBottlesModel" "at" "I", Cond.fieldLink RX8 73 "WarmBottlesModel" "sort" "I", Cond.methodLink RX8 79 yX8_token, Cond.instanceMethod yX8_token, Cond.selects RX8 yX8_token yX8_token, Cond.code yX8_token cX8_token 2 none, Cond.fieldLink RX8 66 "WarmBottlesModel" "start" "I", Cond.fieldLink RX8 76 "WarmBottlesModel" "value" "I", Cond.methodLink RX8 62 yX8_letterAt, Cond.instanceMethod yX8_letterAt, Cond.selects RX8 yX8_letterAt yX8_letterAt, Cond.code yX8_letterAt cX8_letterAt 2 (some .int), Cond.fieldLink RX8 55 "WarmBottlesModel" "typed" "I", Cond.methodLink RX8 69 yX8_isDigit, Cond.static yX8_isDigit, Cond.code yX8_isDigit cX8_isDigit 1 (some .boolean), Cond.methodLink RX8 51 yX8_in]
def wsL_law_r7 : List Cond := [Cond.static yX8_in, Cond.code yX8_in cX8_in 3 (some .boolean), Cond.methodLink RX8 89 yX8_readsItem, Cond.instanceMethod yX8_readsItem, Cond.selects RX8 yX8_readsItem yX8_readsItem, Cond.code yX8_readsItem cX8_readsItem 3 (some .boolean), Cond.methodLink RX8 82 yX8_number, Cond.instanceMethod yX8_number, Cond.selects RX8 yX8_number yX8_number, Cond.code yX8_number cX8_number 4 (some .boolean), Cond.methodLink RX8 85 yX8_once, Cond.instanceMethod yX8_once, Cond.selects RX8 yX8_once yX8_once, Cond.code yX8_once cX8_once 5 (some .boolean), Cond.methodLink RX8 48 yX8_begins, Cond.instanceMethod yX8_begins, Cond.selects RX8 yX8_begins yX8_begins, Cond.code yX8_begins cX8_begins 2 none, Cond.fieldLink RX8 92 "WarmBottlesModel" "known" "I", Cond.fieldLink RX8 95 "WarmBottlesModel" "noted" "I", Cond.methodLink RL 13 yX7_type, Cond.instanceMethod yX7_type, Cond.selects RX7 yX7_type yX7_type, Cond.code yX7_type cX7_type 2 (some .int)]
def wsL_law_r8 : List Cond := [Cond.fieldLink RX7 66 "WarmBottles$Text" "length" "I", Cond.methodLink RX7 70 yX5_append, Cond.instanceMethod yX5_append, Cond.selects RX5 yX5_append yX5_append, Cond.code yX5_append cX5_append 2 none, Cond.fieldLink RX5 15 "WarmBottles$Text" "length" "I", Cond.methodLink RL 17 yX8_type, Cond.instanceMethod yX8_type, Cond.selects RX8 yX8_type yX8_type, Cond.code yX8_type cX8_type 2 (some .int), Cond.methodLink RL 18 yX7_clear, Cond.instanceMethod yX7_clear, Cond.selects RX7 yX7_clear yX7_clear, Cond.code yX7_clear cX7_clear 2 (some .int), Cond.methodLink RL 22 yX8_clear, Cond.instanceMethod yX8_clear, Cond.selects RX8 yX8_clear yX8_clear, Cond.code yX8_clear cX8_clear 2 (some .int), Cond.methodLink RL 23 yX7_ward, Cond.instanceMethod yX7_ward, Cond.selects RX7 yX7_ward yX7_ward, Cond.code yX7_ward cX7_ward 3 (some .int), Cond.fieldLink RX7 78 "WarmBottles$Night" "told" "LWarmBottles$Told;", Cond.fieldLink RX7 88 "WarmBottles$Past" "known" "I"]
def wsL_law_r9 : List Cond := [Cond.fieldLink RX7 91 "WarmBottles$Heard" "number" "I", Cond.methodLink RX7 74 yX5_read, Cond.instanceMethod yX5_read, Cond.selects RX5 yX5_read yX5_read, Cond.code yX5_read cX5_read 3 (some .int), Cond.fieldLink RX5 24 "WarmBottles$Text" "place" "I", Cond.fieldLink RX5 27 "WarmBottles$Text" "kettleTold" "Z", Cond.fieldLink RX5 31 "WarmBottles$Text" "pintTold" "Z", Cond.fieldLink RX5 37 "WarmBottles$Text" "token" "I", Cond.fieldLink RX5 44 "WarmBottles$Text" "start" "I", Cond.methodLink RX5 19 yX6_beAsAtFirst, Cond.methodLink RX5 34 yX5_readToken, Cond.instanceMethod yX5_readToken, Cond.selects RX5 yX5_readToken yX5_readToken, Cond.code yX5_readToken cX5_readToken 1 none, Cond.methodLink RX5 86 yX5_isDigit, Cond.static yX5_isDigit, Cond.code yX5_isDigit cX5_isDigit 1 (some .boolean), Cond.methodLink RX5 90 yX5_readDigits, Cond.instanceMethod yX5_readDigits, Cond.selects RX5 yX5_readDigits yX5_readDigits, Cond.code yX5_readDigits cX5_readDigits 2 none, Cond.fieldLink RX5 71 "WarmBottles$Text" "value" "I", Cond.methodLink RX5 93 Lib.Math.min.name]
def wsL_law_r10 : List Cond := [Cond.static Lib.Math.min.name, Cond.code Lib.Math.min.name Lib.Math.min.code 2 (some .int), Cond.methodLink RX5 40 yX5_readItem, Cond.instanceMethod yX5_readItem, Cond.selects RX5 yX5_readItem yX5_readItem, Cond.code yX5_readItem cX5_readItem 2 (some .boolean), Cond.methodLink RX5 47 yX5_readBottle, Cond.instanceMethod yX5_readBottle, Cond.selects RX5 yX5_readBottle yX5_readBottle, Cond.code yX5_readBottle cX5_readBottle 3 (some .boolean), Cond.fieldLink RX5 60 "WarmBottles$Told" "bottles" "I", Cond.fieldLink RX5 67 "WarmBottles$Told" "warm" "[I", Cond.fieldLink RX5 74 "WarmBottles$Told" "cools" "[I", Cond.fieldLink RX5 77 "WarmBottles$Told" "speaks" "[I", Cond.methodLink RX5 63 yX5_readNumber, Cond.instanceMethod yX5_readNumber, Cond.selects RX5 yX5_readNumber yX5_readNumber, Cond.code yX5_readNumber cX5_readNumber 3 (some .boolean), Cond.methodLink RX5 50 yX5_readSemicolon, Cond.instanceMethod yX5_readSemicolon, Cond.selects RX5 yX5_readSemicolon yX5_readSemicolon, Cond.code yX5_readSemicolon cX5_readSemicolon 1 (some .boolean), Cond.methodLink RX5 54 yX5_readKettle, Cond.instanceMethod yX5_readKettle]
def wsL_law_r11 : List Cond := [Cond.selects RX5 yX5_readKettle yX5_readKettle, Cond.code yX5_readKettle cX5_readKettle 2 (some .boolean), Cond.fieldLink RX5 80 "WarmBottles$Told" "kettle" "I", Cond.methodLink RX5 57 yX5_readPint, Cond.instanceMethod yX5_readPint, Cond.selects RX5 yX5_readPint yX5_readPint, Cond.code yX5_readPint cX5_readPint 2 (some .boolean), Cond.fieldLink RX5 83 "WarmBottles$Told" "pint" "I", Cond.methodLink RX7 81 yX6_become, Cond.instanceMethod yX6_become, Cond.selects RX6 yX6_become yX6_become, Cond.code yX6_become cX6_become 2 none, Cond.methodLink RX6 34 arraycopyName, Cond.native arraycopyName, Cond.static arraycopyName, Cond.initialized "java/lang/System", Cond.methodLink RX7 85 yX3_begin, Cond.methodLink RL 26 yX8_ward, Cond.instanceMethod yX8_ward, Cond.selects RX8 yX8_ward yX8_ward, Cond.code yX8_ward cX8_ward 1 (some .int), Cond.methodLink RL 27 yX7_bottle, Cond.instanceMethod yX7_bottle, Cond.selects RX7 yX7_bottle yX7_bottle]
def wsL_law_r12 : List Cond := [Cond.code yX7_bottle cX7_bottle 3 (some .int), Cond.fieldLink RX7 98 "WarmBottles$Night" "warm" "[I", Cond.fieldLink RX7 102 "WarmBottles$Told" "cools" "[I", Cond.fieldLink RX7 105 "WarmBottles$Told" "speaks" "[I", Cond.fieldLink RX7 108 "WarmBottles$Night" "bed" "[I", Cond.methodLink RX7 94 yX3_has, Cond.instanceMethod yX3_has, Cond.selects RX3 yX3_has yX3_has, Cond.code yX3_has cX3_has 2 (some .boolean), Cond.fieldLink RX3 40 "WarmBottles$Told" "bottles" "I", Cond.methodLink RX7 111 yX3_soundIn, Cond.instanceMethod yX3_soundIn, Cond.selects RX3 yX3_soundIn yX3_soundIn, Cond.code yX3_soundIn cX3_soundIn 4 (some .int), Cond.fieldLink RX3 66 "WarmBottles$Told" "speaks" "[I", Cond.methodLink RX3 43 yX3_loss, Cond.instanceMethod yX3_loss, Cond.selects RX3 yX3_loss yX3_loss, Cond.code yX3_loss cX3_loss 6 (some .int), Cond.fieldLink RX3 59 "WarmBottles$Told" "cools" "[I", Cond.methodLink RX3 47 Lib.Math.max.name, Cond.methodLink RX7 115 yX3_lasts, Cond.instanceMethod yX3_lasts, Cond.selects RX3 yX3_lasts yX3_lasts]
def wsL_law_r13 : List Cond := [Cond.code yX3_lasts cX3_lasts 4 (some .int), Cond.methodLink RL 31 yX8_bottle, Cond.instanceMethod yX8_bottle, Cond.selects RX8 yX8_bottle yX8_bottle, Cond.code yX8_bottle cX8_bottle 3 (some .int), Cond.methodLink RX8 105 yX8_isBottle, Cond.instanceMethod yX8_isBottle, Cond.selects RX8 yX8_isBottle yX8_isBottle, Cond.code yX8_isBottle cX8_isBottle 2 (some .boolean), Cond.methodLink RX8 108 yX8_soundOf, Cond.instanceMethod yX8_soundOf, Cond.selects RX8 yX8_soundOf yX8_soundOf, Cond.code yX8_soundOf cX8_soundOf 3 (some .int), Cond.methodLink RX8 102 yX8_lasts, Cond.instanceMethod yX8_lasts, Cond.selects RX8 yX8_lasts yX8_lasts, Cond.code yX8_lasts cX8_lasts 3 (some .int), Cond.methodLink RX8 98 yX8_cools, Cond.instanceMethod yX8_cools, Cond.selects RX8 yX8_cools yX8_cools, Cond.code yX8_cools cX8_cools 5 (some .int), Cond.methodLink RL 32 yX7_now, Cond.instanceMethod yX7_now, Cond.selects RX7 yX7_now yX7_now]
def wsL_law_r14 : List Cond := [Cond.code yX7_now cX7_now 2 (some .int), Cond.fieldLink RX7 119 "WarmBottles$Night" "hour" "I", Cond.fieldLink RX7 122 "WarmBottles$Night" "frost" "I", Cond.fieldLink RX7 125 "WarmBottles$Night" "kettle" "I", Cond.fieldLink RX7 128 "WarmBottles$Told" "bottles" "I", Cond.methodLink RX7 131 yX3_allLast, Cond.instanceMethod yX3_allLast, Cond.selects RX3 yX3_allLast yX3_allLast, Cond.code yX3_allLast cX3_allLast 4 (some .int), Cond.methodLink RX3 56 Lib.Math.min.name, Cond.methodLink RX3 62 yX3_lasts, Cond.methodLink RX7 135 yX3_numberWarm, Cond.instanceMethod yX3_numberWarm, Cond.selects RX3 yX3_numberWarm yX3_numberWarm, Cond.code yX3_numberWarm cX3_numberWarm 3 (some .int), Cond.methodLink RL 35 yX8_now, Cond.instanceMethod yX8_now, Cond.selects RX8 yX8_now yX8_now, Cond.code yX8_now cX8_now 2 (some .int), Cond.methodLink RX8 111 yX8_allLast, Cond.instanceMethod yX8_allLast, Cond.selects RX8 yX8_allLast yX8_allLast, Cond.code yX8_allLast cX8_allLast 3 (some .int), Cond.methodLink RX8 115 yX8_manyWarm]
def wsL_law_r15 : List Cond := [Cond.instanceMethod yX8_manyWarm, Cond.selects RX8 yX8_manyWarm yX8_manyWarm, Cond.code yX8_manyWarm cX8_manyWarm 3 (some .int), Cond.methodLink RL 36 yX7_hour, Cond.instanceMethod yX7_hour, Cond.selects RX7 yX7_hour yX7_hour, Cond.code yX7_hour cX7_hour 1 (some .int), Cond.methodLink RX7 139 yX4_remember, Cond.instanceMethod yX4_remember, Cond.selects RX4 yX4_remember yX4_remember, Cond.code yX4_remember cX4_remember 2 none, Cond.fieldLink RX4 20 "WarmBottles$Past" "next" "I", Cond.fieldLink RX4 28 "WarmBottles$Past" "known" "I", Cond.methodLink RX4 31 Lib.Math.min.name, Cond.methodLink RX4 24 yX0_put, Cond.instanceMethod yX0_put, Cond.selects RX0 yX0_put yX0_put, Cond.code yX0_put cX0_put 4 none, Cond.fieldLink RX0 25 "WarmBottles$Night" "hour" "I", Cond.fieldLink RX0 30 "WarmBottles$Night" "frost" "I", Cond.fieldLink RX0 33 "WarmBottles$Night" "kettle" "I", Cond.fieldLink RX0 36 "WarmBottles$Night" "warm" "[I", Cond.methodLink RX0 39 arraycopyName, Cond.fieldLink RX0 45 "WarmBottles$Night" "bed" "[I"]
def wsL_law_r16 : List Cond := [Cond.methodLink RX7 142 yX3_letHourPass, Cond.instanceMethod yX3_letHourPass, Cond.selects RX3 yX3_letHourPass yX3_letHourPass, Cond.code yX3_letHourPass cX3_letHourPass 2 none, Cond.methodLink RL 39 yX8_hour, Cond.instanceMethod yX8_hour, Cond.selects RX8 yX8_hour yX8_hour, Cond.code yX8_hour cX8_hour 1 (some .int), Cond.methodLink RX8 121 yX8_keeps, Cond.instanceMethod yX8_keeps, Cond.selects RX8 yX8_keeps yX8_keeps, Cond.code yX8_keeps cX8_keeps 2 none, Cond.methodLink RX8 124 yX8_passes, Cond.instanceMethod yX8_passes, Cond.selects RX8 yX8_passes yX8_passes, Cond.code yX8_passes cX8_passes 2 none, Cond.methodLink RX8 118 yX8_less, Cond.static yX8_less, Cond.code yX8_less cX8_less 2 (some .int), Cond.methodLink RL 40 yX7_fills, Cond.instanceMethod yX7_fills, Cond.selects RX7 yX7_fills yX7_fills, Cond.code yX7_fills cX7_fills 3 (some .int), Cond.methodLink RX7 145 yX3_warmBy]
def wsL_law_r17 : List Cond := [Cond.instanceMethod yX3_warmBy, Cond.selects RX3 yX3_warmBy yX3_warmBy, Cond.code yX3_warmBy cX3_warmBy 3 (some .int), Cond.fieldLink RX3 53 "WarmBottles$Told" "pint" "I", Cond.methodLink RL 43 yX8_fills, Cond.instanceMethod yX8_fills, Cond.selects RX8 yX8_fills yX8_fills, Cond.code yX8_fills cX8_fills 3 (some .int), Cond.methodLink RX8 127 yX8_filled, Cond.instanceMethod yX8_filled, Cond.selects RX8 yX8_filled yX8_filled, Cond.code yX8_filled cX8_filled 4 (some .int), Cond.methodLink RL 44 yX7_lays, Cond.instanceMethod yX7_lays, Cond.selects RX7 yX7_lays yX7_lays, Cond.code yX7_lays cX7_lays 4 (some .int), Cond.methodLink RL 47 yX8_lays, Cond.instanceMethod yX8_lays, Cond.selects RX8 yX8_lays yX8_lays, Cond.code yX8_lays cX8_lays 4 (some .int), Cond.methodLink RL 48 yX7_spills, Cond.instanceMethod yX7_spills, Cond.selects RX7 yX7_spills yX7_spills, Cond.code yX7_spills cX7_spills 3 (some .int)]
def wsL_law_r18 : List Cond := [Cond.methodLink RL 51 yX8_spills, Cond.instanceMethod yX8_spills, Cond.selects RX8 yX8_spills yX8_spills, Cond.code yX8_spills cX8_spills 3 (some .int), Cond.methodLink RL 52 yX7_frosts, Cond.instanceMethod yX7_frosts, Cond.selects RX7 yX7_frosts yX7_frosts, Cond.code yX7_frosts cX7_frosts 3 (some .int), Cond.methodLink RL 55 yX8_frosts, Cond.instanceMethod yX8_frosts, Cond.selects RX8 yX8_frosts yX8_frosts, Cond.code yX8_frosts cX8_frosts 3 (some .int), Cond.methodLink RL 56 yX7_boils, Cond.instanceMethod yX7_boils, Cond.selects RX7 yX7_boils yX7_boils, Cond.code yX7_boils cX7_boils 2 (some .int), Cond.fieldLink RX7 148 "WarmBottles$Told" "kettle" "I", Cond.methodLink RL 59 yX8_boils, Cond.instanceMethod yX8_boils, Cond.selects RX8 yX8_boils yX8_boils, Cond.code yX8_boils cX8_boils 2 (some .int), Cond.methodLink RL 60 yX7_undo, Cond.instanceMethod yX7_undo, Cond.selects RX7 yX7_undo yX7_undo]
def wsL_law_r19 : List Cond := [Cond.code yX7_undo cX7_undo 1 (some .int), Cond.methodLink RX7 149 yX4_takeLatest, Cond.instanceMethod yX4_takeLatest, Cond.selects RX4 yX4_takeLatest yX4_takeLatest, Cond.code yX4_takeLatest cX4_takeLatest 2 none, Cond.methodLink RX4 37 yX0_take, Cond.instanceMethod yX0_take, Cond.selects RX0 yX0_take yX0_take, Cond.code yX0_take cX0_take 4 none, Cond.methodLink RL 63 yX8_undo, Cond.instanceMethod yX8_undo, Cond.selects RX8 yX8_undo yX8_undo, Cond.code yX8_undo cX8_undo 2 (some .int), Cond.methodLink RL 64 yX7_morning, Cond.instanceMethod yX7_morning, Cond.selects RX7 yX7_morning yX7_morning, Cond.code yX7_morning cX7_morning 3 (some .int), Cond.methodLink RX7 152 yX3_pintsOfAll, Cond.instanceMethod yX3_pintsOfAll, Cond.selects RX3 yX3_pintsOfAll yX3_pintsOfAll, Cond.code yX3_pintsOfAll cX3_pintsOfAll 5 (some .int), Cond.methodLink RX3 75 yX3_pintsOf, Cond.instanceMethod yX3_pintsOf, Cond.selects RX3 yX3_pintsOf yX3_pintsOf]
def wsL_law_r20 : List Cond := [Cond.code yX3_pintsOf cX3_pintsOf 5 (some .int), Cond.methodLink RX3 72 yX3_warmBy, Cond.methodLink RX7 156 yX3_pintsOf, Cond.methodLink RL 67 yX8_morning, Cond.instanceMethod yX8_morning, Cond.selects RX8 yX8_morning yX8_morning, Cond.code yX8_morning cX8_morning 6 (some .int), Cond.methodLink RX8 130 yX8_pints, Cond.instanceMethod yX8_pints, Cond.selects RX8 yX8_pints yX8_pints, Cond.code yX8_pints cX8_pints 5 (some .int), Cond.methodLink RL 68 yX7_kept, Cond.instanceMethod yX7_kept, Cond.selects RX7 yX7_kept yX7_kept, Cond.code yX7_kept cX7_kept 2 (some .int), Cond.methodLink RX7 159 yX2_mostHours, Cond.instanceMethod yX2_mostHours, Cond.selects RX2 yX2_mostHours yX2_mostHours, Cond.code yX2_mostHours cX2_mostHours 1 (some .int), Cond.fieldLink RX2 25 "WarmBottles$Night" "kettle" "I", Cond.methodLink RX2 22 yX2_lookAtNight, Cond.instanceMethod yX2_lookAtNight, Cond.selects RX2 yX2_lookAtNight yX2_lookAtNight, Cond.code yX2_lookAtNight cX2_lookAtNight 2 none]
def wsL_law_r21 : List Cond := [Cond.fieldLink RX2 39 "WarmBottles$Night" "told" "LWarmBottles$Told;", Cond.fieldLink RX2 43 "WarmBottles$Told" "bottles" "I", Cond.fieldLink RX2 52 "WarmBottles$Night" "bed" "[I", Cond.fieldLink RX2 55 "WarmBottles$Night" "frost" "I", Cond.fieldLink RX2 61 "WarmBottles$Night" "warm" "[I", Cond.methodLink RX2 58 yX3_loss, Cond.methodLink RX2 31 yX2_mostFrom, Cond.instanceMethod yX2_mostFrom, Cond.selects RX2 yX2_mostFrom yX2_mostFrom, Cond.code yX2_mostFrom cX2_mostFrom 5 (some .int), Cond.methodLink RX2 62 Lib.Math.max.name, Cond.methodLink RX2 48 yX2_mostByFilling, Cond.instanceMethod yX2_mostByFilling, Cond.selects RX2 yX2_mostByFilling yX2_mostByFilling, Cond.code yX2_mostByFilling cX2_mostByFilling 5 (some .int), Cond.methodLink RX2 67 yX2_staysWarmByFilling, Cond.instanceMethod yX2_staysWarmByFilling, Cond.selects RX2 yX2_staysWarmByFilling yX2_staysWarmByFilling, Cond.code yX2_staysWarmByFilling cX2_staysWarmByFilling 6 (some .boolean), Cond.methodLink RX2 71 yX3_warmBy, Cond.methodLink RX7 162 yX2_first, Cond.instanceMethod yX2_first, Cond.selects RX2 yX2_first yX2_first, Cond.code yX2_first cX2_first 3 (some .int)]
def wsL_law_r22 : List Cond := [Cond.methodLink RX2 35 yX2_mostHours, Cond.methodLink RL 71 yX8_kept, Cond.instanceMethod yX8_kept, Cond.selects RX8 yX8_kept yX8_kept, Cond.code yX8_kept cX8_kept 6 (some .int), Cond.methodLink RX8 133 yX8_holds, Cond.instanceMethod yX8_holds, Cond.selects RX8 yX8_holds yX8_holds, Cond.code yX8_holds cX8_holds 2 none, Cond.methodLink RX8 136 yX8_keptBy, Cond.instanceMethod yX8_keptBy, Cond.selects RX8 yX8_keptBy yX8_keptBy, Cond.code yX8_keptBy cX8_keptBy 5 (some .int), Cond.methodLink RX8 139 yX8_lets, Cond.instanceMethod yX8_lets, Cond.selects RX8 yX8_lets yX8_lets, Cond.code yX8_lets cX8_lets 2 none, Cond.methodLink RL 72 yX7_beds, Cond.instanceMethod yX7_beds, Cond.selects RX7 yX7_beds yX7_beds, Cond.code yX7_beds cX7_beds 2 (some .int), Cond.fieldLink RX7 165 "WarmBottles" "ONE_BED" "[I", Cond.methodLink RL 75 yX8_beds, Cond.instanceMethod yX8_beds]
def wsL_law_r23 : List Cond := [Cond.selects RX8 yX8_beds yX8_beds, Cond.code yX8_beds cX8_beds 7 (some .int), Cond.methodLink RX8 142 yX8_isWay, Cond.instanceMethod yX8_isWay, Cond.selects RX8 yX8_isWay yX8_isWay, Cond.code yX8_isWay cX8_isWay 6 (some .boolean), Cond.methodLink RL 76 yX7_odds, Cond.instanceMethod yX7_odds, Cond.selects RX7 yX7_odds yX7_odds, Cond.code yX7_odds cX7_odds 9 (some .int), Cond.methodLink RX7 168 yX3_waysStillWarm, Cond.instanceMethod yX3_waysStillWarm, Cond.selects RX3 yX3_waysStillWarm yX3_waysStillWarm, Cond.code yX3_waysStillWarm cX3_waysStillWarm 6 (some .int), Cond.methodLink RX3 78 yX3_waysFrom, Cond.static yX3_waysFrom, Cond.code yX3_waysFrom cX3_waysFrom 5 (some .int), Cond.methodLink RX7 172 yX7_commonDivisor, Cond.static yX7_commonDivisor, Cond.code yX7_commonDivisor cX7_commonDivisor 6 (some .int), Cond.methodLink RL 80 yX8_odds, Cond.instanceMethod yX8_odds, Cond.selects RX8 yX8_odds yX8_odds, Cond.code yX8_odds cX8_odds 12 (some .int)]
def wsL_law_r24 : List Cond := [Cond.methodLink RL 81 yX7_hears, Cond.instanceMethod yX7_hears, Cond.selects RX7 yX7_hears yX7_hears, Cond.code yX7_hears cX7_hears 3 (some .int), Cond.methodLink RX7 175 yX1_add, Cond.instanceMethod yX1_add, Cond.selects RX1 yX1_add yX1_add, Cond.code yX1_add cX1_add 3 none, Cond.fieldLink RX1 18 "WarmBottles$Heard" "number" "I", Cond.methodLink RL 84 yX8_hears, Cond.instanceMethod yX8_hears, Cond.selects RX8 yX8_hears yX8_hears, Cond.code yX8_hears cX8_hears 3 (some .int), Cond.methodLink RL 85 yX7_forget, Cond.instanceMethod yX7_forget, Cond.selects RX7 yX7_forget yX7_forget, Cond.code yX7_forget cX7_forget 2 (some .int), Cond.methodLink RL 88 yX8_forget, Cond.instanceMethod yX8_forget, Cond.selects RX8 yX8_forget yX8_forget, Cond.code yX8_forget cX8_forget 2 (some .int), Cond.methodLink RL 89 yX7_who, Cond.instanceMethod yX7_who, Cond.selects RX7 yX7_who yX7_who]
def wsL_law_r25 : List Cond := [Cond.code yX7_who cX7_who 1 (some .int), Cond.methodLink RX7 179 yX1_whoFits, Cond.instanceMethod yX1_whoFits, Cond.selects RX1 yX1_whoFits yX1_whoFits, Cond.code yX1_whoFits cX1_whoFits 4 (some .int), Cond.fieldLink RX1 22 "WarmBottles$Night" "told" "LWarmBottles$Told;", Cond.fieldLink RX1 28 "WarmBottles$Told" "bottles" "I", Cond.methodLink RX1 33 yX1_fits, Cond.instanceMethod yX1_fits, Cond.selects RX1 yX1_fits yX1_fits, Cond.code yX1_fits cX1_fits 4 (some .boolean), Cond.methodLink RX1 37 yX3_soundIn, Cond.methodLink RL 92 yX8_who, Cond.instanceMethod yX8_who, Cond.selects RX8 yX8_who yX8_who, Cond.code yX8_who cX8_who 1 (some .int), Cond.methodLink RX8 148 yX8_whoNow, Cond.instanceMethod yX8_whoNow, Cond.selects RX8 yX8_whoNow yX8_whoNow, Cond.code yX8_whoNow cX8_whoNow 5 (some .int), Cond.methodLink RX8 145 yX8_soundIn, Cond.instanceMethod yX8_soundIn, Cond.selects RX8 yX8_soundIn yX8_soundIn, Cond.code yX8_soundIn cX8_soundIn 3 (some .int)]
def wsL_law_r26 : List Cond := [Cond.methodLink RL 93 yX7_listen, Cond.instanceMethod yX7_listen, Cond.selects RX7 yX7_listen yX7_listen, Cond.code yX7_listen cX7_listen 6 (some .int), Cond.methodLink RX7 183 yJ6_bitCount_0f7a4, Cond.static yJ6_bitCount_0f7a4, Cond.initialized RJ6, Cond.code yJ6_bitCount_0f7a4 cJ6_bitCount_0f7a4 1 (some .int), Cond.constant RJ6 265 (1431655765), Cond.constant RJ6 266 (858993459), Cond.constant RJ6 267 (252645135), Cond.methodLink RX7 188 yX3_mostOfOneSound, Cond.instanceMethod yX3_mostOfOneSound, Cond.selects RX3 yX3_mostOfOneSound yX3_mostOfOneSound, Cond.code yX3_mostOfOneSound cX3_mostOfOneSound 7 (some .int), Cond.methodLink RX3 69 yX3_soundIn, Cond.methodLink RL 96 yX8_listen, Cond.instanceMethod yX8_listen, Cond.selects RX8 yX8_listen yX8_listen, Cond.code yX8_listen cX8_listen 9 (some .int), Cond.methodLink RL 97 yX7_rate, Cond.instanceMethod yX7_rate, Cond.selects RX7 yX7_rate yX7_rate, Cond.code yX7_rate cX7_rate 3 (some .int)]
def wsL_law_r27 : List Cond := [Cond.constant RX7 191 (-1000000), Cond.methodLink RX7 192 yX7_asBottle, Cond.instanceMethod yX7_asBottle, Cond.selects RX7 yX7_asBottle yX7_asBottle, Cond.code yX7_asBottle cX7_asBottle 2 (some .int), Cond.fieldLink RX7 210 "WarmBottles" "trace" "J", Cond.methodLink RX7 195 yX7_asBosun, Cond.instanceMethod yX7_asBosun, Cond.selects RX7 yX7_asBosun yX7_asBosun, Cond.code yX7_asBosun cX7_asBosun 2 (some .int), Cond.constantLong RX7 214 (10), Cond.methodLink RX7 198 yX7_asCook, Cond.instanceMethod yX7_asCook, Cond.selects RX7 yX7_asCook yX7_asCook, Cond.code yX7_asCook cX7_asCook 2 (some .int), Cond.constantLong RX7 216 (100), Cond.methodLink RX7 201 yX7_asMate, Cond.instanceMethod yX7_asMate, Cond.selects RX7 yX7_asMate yX7_asMate, Cond.code yX7_asMate cX7_asMate 2 (some .int), Cond.constantLong RX7 218 (1000), Cond.methodLink RX7 204 yX7_asStoker, Cond.instanceMethod yX7_asStoker, Cond.selects RX7 yX7_asStoker yX7_asStoker]
def wsL_law_r28 : List Cond := [Cond.code yX7_asStoker cX7_asStoker 2 (some .int), Cond.constantLong RX7 220 (10000), Cond.methodLink RX7 207 yX7_asMatron, Cond.instanceMethod yX7_asMatron, Cond.selects RX7 yX7_asMatron yX7_asMatron, Cond.code yX7_asMatron cX7_asMatron 2 (some .int), Cond.constantLong RX7 222 (100000), Cond.methodLink RL 100 yX8_rate, Cond.instanceMethod yX8_rate, Cond.selects RX8 yX8_rate yX8_rate, Cond.code yX8_rate cX8_rate 6 (some .int), Cond.constant RX8 151 (-1000000), Cond.fieldLink RX8 152 "WarmBottlesModel" "trace" "J", Cond.constantLong RX8 156 (11), Cond.constantLong RX8 158 (101), Cond.constantLong RX8 160 (1011), Cond.constantLong RX8 162 (10101), Cond.constantLong RX8 164 (100001), Cond.methodLink RL 101 yX7_keep, Cond.instanceMethod yX7_keep, Cond.selects RX7 yX7_keep yX7_keep, Cond.code yX7_keep cX7_keep 2 (some .int), Cond.methodLink RX7 224 yX0_put, Cond.methodLink RL 104 yX8_keep]
def wsL_law_r29 : List Cond := [Cond.instanceMethod yX8_keep, Cond.selects RX8 yX8_keep yX8_keep, Cond.code yX8_keep cX8_keep 3 (some .int), Cond.methodLink RL 105 yX7_back, Cond.instanceMethod yX7_back, Cond.selects RX7 yX7_back yX7_back, Cond.code yX7_back cX7_back 2 (some .int), Cond.methodLink RX7 228 yX0_take, Cond.methodLink RL 108 yX8_back, Cond.instanceMethod yX8_back, Cond.selects RX8 yX8_back yX8_back, Cond.code yX8_back cX8_back 3 (some .int), Cond.methodLink RL 109 yX7_count, Cond.instanceMethod yX7_count, Cond.selects RX7 yX7_count yX7_count, Cond.code yX7_count cX7_count 2 (some .int), Cond.fieldLink RX7 231 "WarmBottles$Told" "pint" "I", Cond.methodLink RL 112 yX8_count, Cond.instanceMethod yX8_count, Cond.selects RX8 yX8_count yX8_count, Cond.code yX8_count cX8_count 2 (some .int), Cond.methodLink RL 113 yX7_trace, Cond.instanceMethod yX7_trace, Cond.selects RX7 yX7_trace yX7_trace]
def wsL_law_r30 : List Cond := [Cond.code yX7_trace cX7_trace 1 (some .long), Cond.methodLink RL 117 yX8_trace, Cond.instanceMethod yX8_trace, Cond.selects RX8 yX8_trace yX8_trace, Cond.code yX8_trace cX8_trace 1 (some .long)]
def wsL_law : List Cond := (wsL_law_r1 ++ (wsL_law_r2 ++ (wsL_law_r3 ++ (wsL_law_r4 ++ (wsL_law_r5 ++ (wsL_law_r6 ++ (wsL_law_r7 ++ (wsL_law_r8 ++ (wsL_law_r9 ++ (wsL_law_r10 ++ (wsL_law_r11 ++ (wsL_law_r12 ++ (wsL_law_r13 ++ (wsL_law_r14 ++ (wsL_law_r15 ++ (wsL_law_r16 ++ (wsL_law_r17 ++ (wsL_law_r18 ++ (wsL_law_r19 ++ (wsL_law_r20 ++ (wsL_law_r21 ++ (wsL_law_r22 ++ (wsL_law_r23 ++ (wsL_law_r24 ++ (wsL_law_r25 ++ (wsL_law_r26 ++ (wsL_law_r27 ++ (wsL_law_r28 ++ (wsL_law_r29 ++ wsL_law_r30))))))))))))))))))))))))))))) ++ wsX70 ++ wsX80 ++ wsX50 ++ wsX60 ++ wsX30 ++ wsX40 ++ wsX00 ++ wsX10 ++ wsX20 ++ ([] : List Cond)
abbrev vwCl : List vw_C := [(RX0, TX0, 2), (RX1, TX1, 3), (RX2, TX2, 3), (RX3, TX3, 6), (RX4, TX4, 3), (RX5, TX5, 8), (RX6, TX6, 6), (RX7, TX7, 9), (RX8, TX8, 19)]
end
section
/-! contracts over worlds: a method's pure function gives its answer and the world behind it -/
theorem ite_t {α : Type} {c : Prop} [Decidable c] {A B r : α} (h : (if c then A else B) = r) (hc : c) : A = r := by rwa [if_pos hc] at h
theorem ite_f {α : Type} {c : Prop} [Decidable c] {A B r : α} (h : (if c then A else B) = r) (hc : ¬ c) : B = r := by rwa [if_neg hc] at h
theorem inb_some {α : Type} {i : Int32} {n : Nat} {B : Option α} {r : α} (h : (if i < 0 ∨ n ≤ i.toNatClampNeg then none else B) = some r) : vp_in i n ∧ B = some r := by
  by_cases c : i < 0 ∨ n ≤ i.toNatClampNeg
  · rw [if_pos c] at h; cases h
  · rw [if_neg c] at h; exact ⟨c, h⟩
theorem lit_in {i : Int32} {n : Nat} (h : ¬ (i < 0 ∨ n ≤ i.toNatClampNeg)) : vp_in i n := h
theorem nz_some {α : Type} {y : Int32} {B : Option α} {r : α} (h : (if y = 0 then none else B) = some r) : ¬ y = 0 ∧ B = some r := by
  by_cases c : y = 0
  · rw [if_pos c] at h; cases h
  · rw [if_neg c] at h; exact ⟨c, h⟩
theorem bnd_some {α β : Type} {o : Option α} {g : α → Option β} {r : β} (h : o.bind g = some r) : ∃ v, o = some v ∧ g v = some r := Option.bind_eq_some_iff.mp h
theorem bool_nar {y : Int32} (h : y = 0 ∨ y = 1) : narrow .boolean (.int y) = .int y := by
  rcases h with h | h <;> subst h <;> decide
theorem bool_some {α : Type} {y : Int32} {B : Option α} {r : α} (h : (if y = 0 ∨ y = 1 then B else none) = some r) : narrow .boolean (.int y) = .int y ∧ B = some r := by
  by_cases c : y = 0 ∨ y = 1
  · rw [if_pos c] at h; exact ⟨bool_nar c, h⟩
  · rw [if_neg c] at h; cases h
def cp_ok (sp dp n : Int32) (n0 n1 : Nat) : Prop := ¬ (sp < 0 ∨ dp < 0 ∨ n < 0 ∨ n0 < sp.toNatClampNeg + n.toNatClampNeg ∨ n1 < dp.toNatClampNeg + n.toNatClampNeg)
theorem cp_some {α : Type} {sp dp n : Int32} {js jd jn n0 n1 : Nat} {B : Option α} {r : α} (h : (if sp < 0 ∨ dp < 0 ∨ n < 0 ∨ n0 < js + jn ∨ n1 < jd + jn then none else B) = some r) : ¬ (sp < 0 ∨ dp < 0 ∨ n < 0 ∨ n0 < js + jn ∨ n1 < jd + jn) ∧ B = some r := by
  by_cases c : sp < 0 ∨ dp < 0 ∨ n < 0 ∨ n0 < js + jn ∨ n1 < jd + jn
  · rw [if_pos c] at h; cases h
  · rw [if_neg c] at h; exact ⟨c, h⟩
def iMax (x y : Int32) : Int32 := if x < y then y else x
def iMin (x y : Int32) : Int32 := if y < x then y else x
abbrev g_tys (cy : Nat → ClassId) : List (ClassId × FieldType) := [(cy 0, .int), (cy 1, .char), (cy 2, .boolean)]
abbrev g_B (D : va_G) (cy : Nat → ClassId) (w w' : va_W) (sz : Nat) (t : State) : Prop := va_P D vwCl w' t.heap ∧ va_K D vwCl (g_tys cy) t ∧ va_D (va_A w sz) w'
abbrev g_Pre (D : va_G) (cy : Nat → ClassId) (vs : List Value) (w : va_W) (sz : Nat) : Array Value → State → Prop := va_Pc vs (fun U => U.heap.size = sz ∧ va_P D vwCl w U.heap ∧ va_K D vwCl (g_tys cy) U ∧ va_D (fun _ => True) w)
abbrev g_tZ (tb : Nat) (A : Nat → Prop) (U : State) (H : Heap) : Prop := va_T .int tb 6 (fun _ => .int 0) A U H ∧ va_Z "WarmBottles" "ONE_BED" "[I" (.ref tb) A U H
abbrev g_PreT (D : va_G) (cy : Nat → ClassId) (tb : Nat) (vs : List Value) (w : va_W) (sz : Nat) : Array Value → State → Prop := va_Pc vs (fun U => U.heap.size = sz ∧ va_P D vwCl w U.heap ∧ va_K D vwCl (g_tys cy) U ∧ va_D (fun _ => True) w ∧ g_tZ tb (va_A w sz) U U.heap)
abbrev g_Qi (D : va_G) (cy : Nat → ClassId) (r : Int32) (w w' : va_W) (sz : Nat) : Array Value → State → Outcome → State → Prop := va_Qi (fun (r' : Int32) (_ : Unit) => r' = r) (fun _ t => g_B D cy w w' sz t) (va_A w sz)
abbrev g_Ql (D : va_G) (cy : Nat → ClassId) (r : Int64) (w w' : va_W) (sz : Nat) : Array Value → State → Outcome → State → Prop := va_Ql (fun (r' : Int64) (_ : Unit) => r' = r) (fun _ t => g_B D cy w w' sz t) (va_A w sz)
abbrev g_Qv (D : va_G) (cy : Nat → ClassId) (w w' : va_W) (sz : Nat) : Array Value → State → Outcome → State → Prop := va_Qv (fun (_ : Unit) => True) (fun _ t => g_B D cy w w' sz t) (va_A w sz)
abbrev g_At (D : va_G) (p : Program) (l : Launch) (e : Env) (R : Room) (s : State) (m : MethodId) (args : Array Value) (below : List Frame) (meth : Method) (c : Code) (Q : State → Prop) (w0 : va_W) (sz nL : Nat) (w : va_W) (lv : List (Nat × Value)) (pc : Nat) (st : List Value) : Prop :=
  ∀ (H : Heap) (locs : List Loc), va_P D vwCl w H → va_D (va_A w0 sz) w → va_S (va_A w0 sz) s.heap H locs → ∀ ls : Array Slot, lv_has ls nL lv → W p l e R s m args below meth c H locs 0 0 Q (F0 m pc ls st)
section GR
variable {p : Program} {l : Launch} {e : Env} {R : Room} {s : State} {m : MethodId} {args : Array Value} {below : List Frame} {meth : Method} {c : Code} {H H0 : Heap} {locs : List Loc} {cells slots : Nat} {Q : State → Prop}
variable {cc : ByteArray} {pc : Nat} {ls : Array Slot} {rest : List Value} {D : va_G} {cl : List vw_C} {A : Nat → Prop} {a : Nat} {tys : List (ClassId × FieldType)} {ws w' w1 : va_W} {cy : Nat → ClassId} {sz : Nat}
theorem g_put (hexec : p.tables.exec = Jvm.exec) (hb : c.code = cc) {own ref C : String} {T : u_T} {N ci index : Nat} {Ts : List Cond} (hts : ∀ w ∈ Ts, w.before args s = true) (hin : ∀ w ∈ u_ws C T N, w ∈ Ts) (ty0 : Nat → FieldType) (hty : ∀ k, k < N → parseFieldDescriptor (T k).2.2.1 = some (ty0 k)) (hnm : ∀ a, a < N → ∀ b, b < N → a ≠ b → (T a).2.1 ≠ (T b).2.1) (hown : s.vm.findClass own = some m.cls) (hK : va_K D cl tys s) (hP : va_P D cl ws H) (hD : va_D A ws) (hS0 : va_S A H0 H locs) (q0 : Nat) {fs : List Value} (he : ws[q0]? = some (a, .inr (ci, fs))) (hc : cl[ci]? = some (C, T, N)) (k : Nat) (hk : k < N) (hlink : (Cond.fieldLink own index ref (T k).2.1 (T k).2.2.1).before args s = true) (hsame : ∀ x, s.fieldFound? (T k).1 (T k).2.1 (T k).2.2.1 = some x → s.fieldFound? ref (T k).2.1 (T k).2.2.1 = some x) (hfin : (T k).2.2.2 = false) {ty : FieldType} {v : Value} (hd : parseFieldDescriptor (T k).2.2.1 = some ty) (hn : narrow ty v = v) (hfit : fits ty v = true) (hl : k < fs.length)
    (hdg : decode cc pc = .ok (.putfield index, 3)) (hw : ws.set q0 (a, .inr (ci, fs.set k v)) = w') (kk : ∀ (H1 : Heap) (locs1 : List Loc), va_P D cl w' H1 → va_D A w' → va_S A H0 H1 locs1 → W p l e R s m args below meth c H1 locs1 cells slots Q (F0 m (pc + 3) ls rest)) : W p l e R s m args below meth c H locs cells slots Q (F0 m pc ls (v :: .ref a :: rest)) :=
  va_put hexec hb hts hin ty0 hty hnm hown hK hP hD hS0 q0 he hc k hk hlink hsame hfin hd hn hfit hl hdg (fun H1 locs1 h1 h2 h3 => kk H1 locs1 (hw ▸ h1) (hw ▸ h2) h3)
theorem g_iald (hexec : p.tables.exec = Jvm.exec) (hb : c.code = cc) (hK : va_K D cl (g_tys cy) s) (hP : va_P D cl ws H) (q0 : Nat) {n : Nat} {f : Nat → Int32} (ha : ws[q0]? = some (a, .inl (cy 0, n, .inl f))) {i : Int32} {j : Nat} (hin : vp_in i n) (hj : i.toNatClampNeg = j) (hdg : decode cc pc = .ok (.iaload, 1))
    (kk : W p l e R s m args below meth c H locs cells slots Q (F0 m (pc + 1) ls (.int (f j) :: rest))) : W p l e R s m args below meth c H locs cells slots Q (F0 m pc ls (.int i :: .ref a :: rest)) := by
  subst hj
  exact va_iald hexec hb hK hP q0 0 ha rfl hin hdg kk
theorem g_cald (hexec : p.tables.exec = Jvm.exec) (hb : c.code = cc) (hK : va_K D cl (g_tys cy) s) (hP : va_P D cl ws H) (q0 : Nat) {n : Nat} {f : Nat → Int32} (ha : ws[q0]? = some (a, .inl (cy 1, n, .inl f))) {i : Int32} {j : Nat} (hin : vp_in i n) (hj : i.toNatClampNeg = j) (hdg : decode cc pc = .ok (.caload, 1))
    (kk : W p l e R s m args below meth c H locs cells slots Q (F0 m (pc + 1) ls (.int (f j) :: rest))) : W p l e R s m args below meth c H locs cells slots Q (F0 m pc ls (.int i :: .ref a :: rest)) := by
  subst hj
  exact va_cald hexec hb hK hP q0 1 ha rfl hin hdg kk
theorem g_zald (hexec : p.tables.exec = Jvm.exec) (hb : c.code = cc) (hK : va_K D cl (g_tys cy) s) (hP : va_P D cl ws H) (q0 : Nat) {n : Nat} {f : Nat → Int32} (ha : ws[q0]? = some (a, .inl (cy 2, n, .inl f))) {i : Int32} {j : Nat} (hin : vp_in i n) (hj : i.toNatClampNeg = j) (hdg : decode cc pc = .ok (.baload, 1))
    (kk : W p l e R s m args below meth c H locs cells slots Q (F0 m (pc + 1) ls (.int (f j) :: rest))) : W p l e R s m args below meth c H locs cells slots Q (F0 m pc ls (.int i :: .ref a :: rest)) := by
  subst hj
  exact va_zald hexec hb hK hP q0 2 ha rfl hin hdg kk
theorem g_iast (hexec : p.tables.exec = Jvm.exec) (hb : c.code = cc) (hK : va_K D cl (g_tys cy) s) (hP : va_P D cl ws H) (hD : va_D A ws) (hS : va_S A H0 H locs) (q0 : Nat) {n : Nat} {f : Nat → Int32} (ha : ws[q0]? = some (a, .inl (cy 0, n, .inl f))) {i x : Int32} {j : Nat} (hin : vp_in i n) (hj : i.toNatClampNeg = j) (hdg : decode cc pc = .ok (.iastore, 1)) (hw : ws.set q0 (a, .inl (cy 0, n, .inl (upd f j x))) = w')
    (kk : ∀ (H1 : Heap) (locs1 : List Loc), va_P D cl w' H1 → va_D A w' → va_S A H0 H1 locs1 → W p l e R s m args below meth c H1 locs1 cells slots Q (F0 m (pc + 1) ls rest)) : W p l e R s m args below meth c H locs cells slots Q (F0 m pc ls (.int x :: .int i :: .ref a :: rest)) := by
  subst hj; subst hw
  exact va_iast hexec hb hK hP hD hS q0 0 ha rfl hin hdg kk
theorem g_cast (hexec : p.tables.exec = Jvm.exec) (hb : c.code = cc) (hK : va_K D cl (g_tys cy) s) (hP : va_P D cl ws H) (hD : va_D A ws) (hS : va_S A H0 H locs) (q0 : Nat) {n : Nat} {f : Nat → Int32} (ha : ws[q0]? = some (a, .inl (cy 1, n, .inl f))) {i x : Int32} {j : Nat} (hin : vp_in i n) (hj : i.toNatClampNeg = j) (hdg : decode cc pc = .ok (.castore, 1)) (hw : ws.set q0 (a, .inl (cy 1, n, .inl (upd f j (vp_nar .char x)))) = w')
    (kk : ∀ (H1 : Heap) (locs1 : List Loc), va_P D cl w' H1 → va_D A w' → va_S A H0 H1 locs1 → W p l e R s m args below meth c H1 locs1 cells slots Q (F0 m (pc + 1) ls rest)) : W p l e R s m args below meth c H locs cells slots Q (F0 m pc ls (.int x :: .int i :: .ref a :: rest)) := by
  subst hj; subst hw
  exact va_cast hexec hb hK hP hD hS q0 1 ha rfl hin hdg kk
theorem g_zast (hexec : p.tables.exec = Jvm.exec) (hb : c.code = cc) (hK : va_K D cl (g_tys cy) s) (hP : va_P D cl ws H) (hD : va_D A ws) (hS : va_S A H0 H locs) (q0 : Nat) {n : Nat} {f : Nat → Int32} (ha : ws[q0]? = some (a, .inl (cy 2, n, .inl f))) {i x : Int32} {j : Nat} (hin : vp_in i n) (hj : i.toNatClampNeg = j) (hdg : decode cc pc = .ok (.bastore, 1)) (hw : ws.set q0 (a, .inl (cy 2, n, .inl (upd f j (vp_nar .boolean x)))) = w')
    (kk : ∀ (H1 : Heap) (locs1 : List Loc), va_P D cl w' H1 → va_D A w' → va_S A H0 H1 locs1 → W p l e R s m args below meth c H1 locs1 cells slots Q (F0 m (pc + 1) ls rest)) : W p l e R s m args below meth c H locs cells slots Q (F0 m pc ls (.int x :: .int i :: .ref a :: rest)) := by
  subst hj; subst hw
  exact va_zast hexec hb hK hP hD hS q0 2 ha rfl hin hdg kk
theorem g_mmax (hexec : p.tables.exec = Jvm.exec) (hb : c.code = cc) (hml : c.maxLocals = ls.size) {own : String} {index : Nat} (hown : s.vm.findClass own = some m.cls) (hlink : (Cond.methodLink own index Lib.Math.max.name).before args s = true) (hstat : (Cond.static Lib.Math.max.name).before args s = true) (hini : (Cond.initialized "java/lang/Math").before args s = true) (hcode : (Cond.code Lib.Math.max.name Lib.Math.max.code 2 (some .int)).before args s = true)
    (hframes : 1 ≤ R.frames) (hlocals : (rest.map fun v => v.category).sum + 13 ≤ R.locals) (hc : cells ≤ R.cells) (hs : slots ≤ R.slots) {x y : Int32} (hdg : decode cc pc = .ok (.invokestatic index, 3))
    (kk : W p l e R s m args below meth c H locs cells slots Q (F0 m (pc + 3) ls (.int (iMax x y) :: rest))) : W p l e R s m args below meth c H locs cells slots Q (F0 m pc ls (.int y :: .int x :: rest)) :=
  va_mmax hexec hb hml hown hlink hstat hini hcode hframes hlocals hc hs hdg kk
theorem g_mmin (hexec : p.tables.exec = Jvm.exec) (hb : c.code = cc) (hml : c.maxLocals = ls.size) {own : String} {index : Nat} (hown : s.vm.findClass own = some m.cls) (hlink : (Cond.methodLink own index Lib.Math.min.name).before args s = true) (hstat : (Cond.static Lib.Math.min.name).before args s = true) (hini : (Cond.initialized "java/lang/Math").before args s = true) (hcode : (Cond.code Lib.Math.min.name Lib.Math.min.code 2 (some .int)).before args s = true)
    (hframes : 1 ≤ R.frames) (hlocals : (rest.map fun v => v.category).sum + 13 ≤ R.locals) (hc : cells ≤ R.cells) (hs : slots ≤ R.slots) {x y : Int32} (hdg : decode cc pc = .ok (.invokestatic index, 3))
    (kk : W p l e R s m args below meth c H locs cells slots Q (F0 m (pc + 3) ls (.int (iMin x y) :: rest))) : W p l e R s m args below meth c H locs cells slots Q (F0 m pc ls (.int y :: .int x :: rest)) :=
  va_mmin hexec hb hml hown hlink hstat hini hcode hframes hlocals hc hs hdg kk
theorem g_copyi (hexec : p.tables.exec = Jvm.exec) (hb : c.code = cc) (hml : c.maxLocals = ls.size) {own : String} {index : Nat} (hown : s.vm.findClass own = some m.cls) (hlink : (Cond.methodLink own index arraycopyName).before args s = true) (hnat : (Cond.native arraycopyName).before args s = true) (hstat : (Cond.static arraycopyName).before args s = true) (hini : (Cond.initialized "java/lang/System").before args s = true)
    (hK : va_K D cl (g_tys cy) s) (hP : va_P D cl ws H) (hD : va_D A ws) (hS : va_S A H0 H locs) (q0 q1 : Nat) {a0 : Nat} {n0 n1 : Nat} {f g : Nat → Int32} (ha0 : ws[q0]? = some (a0, .inl (cy 0, n0, .inl f))) (ha1 : ws[q1]? = some (a, .inl (cy 0, n1, .inl g)))
    {sp dp n : Int32} {js jd jn : Nat} (hok : ¬ (sp < 0 ∨ dp < 0 ∨ n < 0 ∨ n0 < js + jn ∨ n1 < jd + jn)) (hjs : sp.toNatClampNeg = js) (hjd : dp.toNatClampNeg = jd) (hjn : n.toNatClampNeg = jn)
    (hframes : 1 ≤ R.frames) (hlocals : (rest.map fun v => v.category).sum + (nativeFrameWords "java/lang/System" "arraycopy" 5 + 11) ≤ R.locals) (hdg : decode cc pc = .ok (.invokestatic index, 3)) (hw : ws.set q1 (a, .inl (cy 0, n1, .inl (va_cpy f g js jd jn))) = w')
    (kk : ∀ (H1 : Heap) (locs1 : List Loc), va_P D cl w' H1 → va_D A w' → va_S A H0 H1 locs1 → W p l e R s m args below meth c H1 locs1 cells slots Q (F0 m (pc + 3) ls rest)) : W p l e R s m args below meth c H locs cells slots Q (F0 m pc ls (.int n :: .int dp :: .ref a :: .int sp :: .ref a0 :: rest)) := by
  subst hjs; subst hjd; subst hjn; subst hw
  exact va_copyi hexec hb hml hown hlink hnat hstat hini hK hP hD hS q0 q1 0 0 ha0 ha1 rfl rfl rfl (fun q => hok (Or.inl q)) (fun q => hok (Or.inr (Or.inl q))) (fun q => hok (Or.inr (Or.inr (Or.inl q)))) (Nat.not_lt.mp fun q => hok (Or.inr (Or.inr (Or.inr (Or.inl q))))) (Nat.not_lt.mp fun q => hok (Or.inr (Or.inr (Or.inr (Or.inr q))))) (fun _ _ => rfl) hframes hlocals hdg kk
theorem g_fr {Z : Nat → Prop} {H0 : Heap} (hD : va_D Z ws) (hS : va_S Z H0 H locs) (hA : ∀ q : Nat, H0.size ≤ q → Z q) : ∀ q, va_A ws H.size q → Z q := fun q h => by
  rcases h with ⟨k, e, h⟩ | h
  · exact hD.2 k (q, e) h
  · exact hA q (Nat.le_trans hS.1 h)
theorem g_blind {D : va_G} {cy : Nat → ClassId} {vs : List Value} {w : va_W} {sz : Nat} : FrameBlind (g_Pre D cy vs w sz) := fun a U g mk q => by
  obtain ⟨q0, q1, qP, qK, qD⟩ := q
  exact ⟨q0, q1, qP, va_K.moved (u := U) (U := U.calling g mk a) (Vm.Alike.refl U.vm) qK, qD⟩
theorem g_blindT {D : va_G} {cy : Nat → ClassId} {tb : Nat} {vs : List Value} {w : va_W} {sz : Nat} : FrameBlind (g_PreT D cy tb vs w sz) := fun a U g mk q => by
  obtain ⟨q0, q1, qP, qK, qD, qT, qZ⟩ := q
  exact ⟨q0, q1, qP, va_K.moved (u := U) (U := U.calling g mk a) (Vm.Alike.refl U.vm) qK, qD, va_T.moved (u := U) (U := U.calling g mk a) (Vm.Alike.refl U.vm) qT, va_Z.moved (u := U) (U := U.calling g mk a) (Vm.Alike.refl U.vm) qZ⟩
theorem g_entry (vs : List Value) (ws ws' : List Cond) (y : MethodName) (rm : Room) (w : va_W) {Qc : Array Value → State → Outcome → State → Prop} {maxL : Nat} {ret : Option FieldType} (hy : plainName y.cls = true) (hw : ws = Cond.code y cc maxL ret :: ws') (hlen : (lg_sl vs).length ≤ maxL)
    (body : ∀ (p : Program) (e : Env) (s : State) (m : MethodId) (args : Array Value) (below : List Frame) (meth : Method) (c : Code) (ls : Array Slot), p.tables.exec = Jvm.exec → c.code = cc → c.maxLocals = maxL → s.vm.findClass y.cls = some m.cls → (∀ q ∈ ws, q.before args s = true) → meth.sig.returnType = ret → meth.locks = false → (∀ q : Nat, s.heap.size ≤ q → va_A w sz q) → va_K D vwCl (g_tys cy) s → va_P D vwCl w s.heap → va_D (va_A w sz) w → va_S (va_A w sz) s.heap s.heap [] → lv_has ls maxL (lv_args 0 vs) →
      ∀ Q : State → Prop, Q = MQ below Qc args s 0 0 (va_A w sz) → W p l e (headSpec ws rm).room s m args below meth c s.heap [] 0 0 Q (F0 m 0 ls [])) : Met l y ws rm (g_Pre D cy vs w sz) Qc 0 0 (va_A w sz) := by
  refine Met.ofW (cc := cc) (maxL := maxL) (ret := ret) hy hw ?_
  intro p e s m args below meth c s₁ B hml hv
  obtain ⟨rfl, hsz, hP, hK, hD0⟩ := hv
  have hD := hD0.self (sz := sz)
  have hA : ∀ q : Nat, s.heap.size ≤ q → va_A w sz q := fun q h => Or.inr (by rw [← hsz]; exact h)
  have hl := lv_entry vs (n := maxL) hlen
  rw [lg_entry_eq]
  exact body p e s m vs.toArray below meth c _ B.exec B.bytes hml (findClass_of_methodNamed B.named) (atoms_spec (ws := ws) B.pre) B.returns B.notSynchronized hA hK hP hD va_S.rf hl _ rfl
theorem g_entryT (vs : List Value) (ws ws' : List Cond) (y : MethodName) (rm : Room) (w : va_W) (tb : Nat) {Qc : Array Value → State → Outcome → State → Prop} {maxL : Nat} {ret : Option FieldType} (hy : plainName y.cls = true) (hw : ws = Cond.code y cc maxL ret :: ws') (hlen : (lg_sl vs).length ≤ maxL)
    (body : ∀ (p : Program) (e : Env) (s : State) (m : MethodId) (args : Array Value) (below : List Frame) (meth : Method) (c : Code) (ls : Array Slot), p.tables.exec = Jvm.exec → c.code = cc → c.maxLocals = maxL → s.vm.findClass y.cls = some m.cls → (∀ q ∈ ws, q.before args s = true) → meth.sig.returnType = ret → meth.locks = false → (∀ q : Nat, s.heap.size ≤ q → va_A w sz q) → va_K D vwCl (g_tys cy) s → va_P D vwCl w s.heap → va_D (va_A w sz) w → va_S (va_A w sz) s.heap s.heap [] → lv_has ls maxL (lv_args 0 vs) → va_T .int tb 6 (fun _ => .int 0) (va_A w sz) s s.heap → va_Z "WarmBottles" "ONE_BED" "[I" (.ref tb) (va_A w sz) s s.heap →
      ∀ Q : State → Prop, Q = MQ below Qc args s 0 0 (va_A w sz) → W p l e (headSpec ws rm).room s m args below meth c s.heap [] 0 0 Q (F0 m 0 ls [])) : Met l y ws rm (g_PreT D cy tb vs w sz) Qc 0 0 (va_A w sz) := by
  refine Met.ofW (cc := cc) (maxL := maxL) (ret := ret) hy hw ?_
  intro p e s m args below meth c s₁ B hml hv
  obtain ⟨rfl, hsz, hP, hK, hD0, hT, hZ⟩ := hv
  have hD := hD0.self (sz := sz)
  have hA : ∀ q : Nat, s.heap.size ≤ q → va_A w sz q := fun q h => Or.inr (by rw [← hsz]; exact h)
  have hl := lv_entry vs (n := maxL) hlen
  rw [lg_entry_eq]
  exact body p e s m vs.toArray below meth c _ B.exec B.bytes hml (findClass_of_methodNamed B.named) (atoms_spec (ws := ws) B.pre) B.returns B.notSynchronized hA hK hP hD va_S.rf hl hT hZ _ rfl
theorem g_iret (hexec : p.tables.exec = Jvm.exec) (hb : c.code = cc) (hr : meth.sig.returnType = some .int) {r : Int32} (hK : va_K D vwCl (g_tys cy) s) (hP : va_P D vwCl w' H) (hD : va_D (va_A ws sz) w') (hS : va_S (va_A ws sz) s.heap H locs) (hQ : Q = MQ below (g_Qi D cy r ws w' sz) args s 0 0 (va_A ws sz)) (hdg : decode cc pc = .ok (.ireturn, 1)) (hlocks : meth.locks = false := by assumption) : W p l e R s m args below meth c H locs 0 0 Q (F0 m pc ls [.int r]) := by
  subst hQ
  exact W.iret (v := r) hexec hb hr (fun t ht hW => ⟨⟨r, (), rfl, rfl, by rw [ht]; exact hP, va_K.moved hW.alike hK, hD⟩, hS.F ht⟩) hS.2.2 hdg hlocks
theorem g_zret (hexec : p.tables.exec = Jvm.exec) (hb : c.code = cc) (hr : meth.sig.returnType = some .boolean) {r : Int32} (hn : narrow .boolean (.int r) = .int r) (hK : va_K D vwCl (g_tys cy) s) (hP : va_P D vwCl w' H) (hD : va_D (va_A ws sz) w') (hS : va_S (va_A ws sz) s.heap H locs) (hQ : Q = MQ below (g_Qi D cy r ws w' sz) args s 0 0 (va_A ws sz)) (hdg : decode cc pc = .ok (.ireturn, 1)) (hlocks : meth.locks = false := by assumption) : W p l e R s m args below meth c H locs 0 0 Q (F0 m pc ls [.int r]) := by
  subst hQ
  exact W.zret (v := r) hexec hb hr hn (fun t ht hW => ⟨⟨r, (), rfl, rfl, by rw [ht]; exact hP, va_K.moved hW.alike hK, hD⟩, hS.F ht⟩) hS.2.2 hdg hlocks
theorem g_lret (hexec : p.tables.exec = Jvm.exec) (hb : c.code = cc) (hr : meth.sig.returnType = some .long) {r : Int64} (hK : va_K D vwCl (g_tys cy) s) (hP : va_P D vwCl w' H) (hD : va_D (va_A ws sz) w') (hS : va_S (va_A ws sz) s.heap H locs) (hQ : Q = MQ below (g_Ql D cy r ws w' sz) args s 0 0 (va_A ws sz)) (hdg : decode cc pc = .ok (.lreturn, 1)) (hlocks : meth.locks = false := by assumption) : W p l e R s m args below meth c H locs 0 0 Q (F0 m pc ls [.long r]) := by
  subst hQ
  exact W.lret (v := r) hexec hb hr (fun t ht hW => ⟨⟨r, (), rfl, rfl, by rw [ht]; exact hP, va_K.moved hW.alike hK, hD⟩, hS.F ht⟩) hS.2.2 hdg hlocks
theorem g_vret (hexec : p.tables.exec = Jvm.exec) (hb : c.code = cc) (hr : meth.sig.returnType = none) (hK : va_K D vwCl (g_tys cy) s) (hP : va_P D vwCl w' H) (hD : va_D (va_A ws sz) w') (hS : va_S (va_A ws sz) s.heap H locs) (hQ : Q = MQ below (g_Qv D cy ws w' sz) args s 0 0 (va_A ws sz)) (hdg : decode cc pc = .ok (.return_, 1)) (hlocks : meth.locks = false := by assumption) : W p l e R s m args below meth c H locs 0 0 Q (F0 m pc ls []) := by
  subst hQ
  exact W.vret hexec hb hr (fun t ht hW => ⟨⟨(), rfl, trivial, by rw [ht]; exact hP, va_K.moved hW.alike hK, hD⟩, hS.F ht⟩) hS.2.2 hdg hlocks
end GR
end
section
section GC
variable {p : Program} {l : Launch} {e : Env} {R : Room} {s : State} {m : MethodId} {args : Array Value} {below : List Frame} {meth : Method} {c : Code} {H : Heap} {locs : List Loc} {Q : State → Prop}
variable {cc bytes : ByteArray} {pc maxL n index nL : Nat} {ls : Array Slot} {D : va_G} {ws w' : va_W} {cy : Nat → ClassId} {y : MethodName} {ret : Option FieldType} {wsY Ts : List Cond} {rm : Room} {own C : String} {b : Nat} {As rest st0 : List Value} {Z : Nat → Prop}
theorem g_callVi {r : Int32} (hx : p.tables.exec = Jvm.exec) (hb : c.code = cc) (hml : c.maxLocals = nL) (hown : s.vm.findClass own = some m.cls) (hts : ∀ w ∈ Ts, w.before args s = true)
    (hM : ∀ sz : Nat, Met l y wsY rm (g_Pre D cy (.ref b :: As) ws sz) (g_Qi D cy r ws w' sz) 0 0 (va_A ws sz)) (cw : CallW R s args own C index y bytes maxL ret wsY rm 0 0 n)
    (hK : va_K D vwCl (g_tys cy) s) (hP : va_P D vwCl ws H) (hD : va_D Z ws) (hS : va_S Z s.heap H locs) (hA : ∀ q : Nat, s.heap.size ≤ q → Z q)
    {ci q0 : Nat} {fs : List Value} {q : vw_C} (hc : vwCl[ci]? = some q) (he : ws[q0]? = some (b, .inr (ci, fs))) (hq : q.1 = C) (hn : As.length = n) (hl : ls.size = nL) (hst : st0 = As.reverse ++ .ref b :: rest) (hroom : (rest.map fun v => v.category).sum ≤ 8) (hdg : decode cc pc = .ok (.invokevirtual index, 3))
    (kk : ∀ (H1 : Heap) (locs1 : List Loc), va_P D vwCl w' H1 → va_D Z w' → va_S Z s.heap H1 locs1 → W p l e R s m args below meth c H1 locs1 0 0 Q (F0 m (pc + 3) ls (.int r :: rest))) : W p l e R s m args below meth c H locs 0 0 Q (F0 m pc ls st0) := by
  subst hst; subst hq
  have hFc := g_fr hD hS hA
  refine va_calli (va_runV (As := As) (rest := rest) ⟨hx, hb, hml, hown, hts⟩ (hM H.size) cw ⟨g_blind, va_recv hK hP hc he, fun U hU hW => ⟨rfl, by rw [hU], by rw [hU]; exact hP, va_K.moved hW.alike hK, hD.weaken (fun _ _ _ _ => trivial)⟩⟩ rfl hn hl rfl (lv_room hroom) hdg ⟨Nat.zero_le _, Nat.zero_le _⟩) hS (fun q _ h => hFc q h) hFc (fun r' u t H1 locs1 ht hvm hw hB hz1 hk1 hS1 => ?_)
  obtain ⟨hP1, hK1, hD1⟩ := hB
  rw [ht] at hP1
  subst hw
  exact kk H1 locs1 hP1 (hD1.weaken (fun k q _ h => hFc q.1 h)) hS1
theorem g_callVl {r : Int64} (hx : p.tables.exec = Jvm.exec) (hb : c.code = cc) (hml : c.maxLocals = nL) (hown : s.vm.findClass own = some m.cls) (hts : ∀ w ∈ Ts, w.before args s = true)
    (hM : ∀ sz : Nat, Met l y wsY rm (g_Pre D cy (.ref b :: As) ws sz) (g_Ql D cy r ws w' sz) 0 0 (va_A ws sz)) (cw : CallW R s args own C index y bytes maxL ret wsY rm 0 0 n)
    (hK : va_K D vwCl (g_tys cy) s) (hP : va_P D vwCl ws H) (hD : va_D Z ws) (hS : va_S Z s.heap H locs) (hA : ∀ q : Nat, s.heap.size ≤ q → Z q)
    {ci q0 : Nat} {fs : List Value} {q : vw_C} (hc : vwCl[ci]? = some q) (he : ws[q0]? = some (b, .inr (ci, fs))) (hq : q.1 = C) (hn : As.length = n) (hl : ls.size = nL) (hst : st0 = As.reverse ++ .ref b :: rest) (hroom : (rest.map fun v => v.category).sum ≤ 8) (hdg : decode cc pc = .ok (.invokevirtual index, 3))
    (kk : ∀ (H1 : Heap) (locs1 : List Loc), va_P D vwCl w' H1 → va_D Z w' → va_S Z s.heap H1 locs1 → W p l e R s m args below meth c H1 locs1 0 0 Q (F0 m (pc + 3) ls (.long r :: rest))) : W p l e R s m args below meth c H locs 0 0 Q (F0 m pc ls st0) := by
  subst hst; subst hq
  have hFc := g_fr hD hS hA
  refine va_calll (va_runV (As := As) (rest := rest) ⟨hx, hb, hml, hown, hts⟩ (hM H.size) cw ⟨g_blind, va_recv hK hP hc he, fun U hU hW => ⟨rfl, by rw [hU], by rw [hU]; exact hP, va_K.moved hW.alike hK, hD.weaken (fun _ _ _ _ => trivial)⟩⟩ rfl hn hl rfl (lv_room hroom) hdg ⟨Nat.zero_le _, Nat.zero_le _⟩) hS (fun q _ h => hFc q h) hFc (fun r' u t H1 locs1 ht hvm hw hB hz1 hk1 hS1 => ?_)
  obtain ⟨hP1, hK1, hD1⟩ := hB
  rw [ht] at hP1
  subst hw
  exact kk H1 locs1 hP1 (hD1.weaken (fun k q _ h => hFc q.1 h)) hS1
theorem g_callVv (hx : p.tables.exec = Jvm.exec) (hb : c.code = cc) (hml : c.maxLocals = nL) (hown : s.vm.findClass own = some m.cls) (hts : ∀ w ∈ Ts, w.before args s = true)
    (hM : ∀ sz : Nat, Met l y wsY rm (g_Pre D cy (.ref b :: As) ws sz) (g_Qv D cy ws w' sz) 0 0 (va_A ws sz)) (cw : CallW R s args own C index y bytes maxL ret wsY rm 0 0 n)
    (hK : va_K D vwCl (g_tys cy) s) (hP : va_P D vwCl ws H) (hD : va_D Z ws) (hS : va_S Z s.heap H locs) (hA : ∀ q : Nat, s.heap.size ≤ q → Z q)
    {ci q0 : Nat} {fs : List Value} {q : vw_C} (hc : vwCl[ci]? = some q) (he : ws[q0]? = some (b, .inr (ci, fs))) (hq : q.1 = C) (hn : As.length = n) (hl : ls.size = nL) (hst : st0 = As.reverse ++ .ref b :: rest) (hroom : (rest.map fun v => v.category).sum ≤ 8) (hdg : decode cc pc = .ok (.invokevirtual index, 3))
    (kk : ∀ (H1 : Heap) (locs1 : List Loc), va_P D vwCl w' H1 → va_D Z w' → va_S Z s.heap H1 locs1 → W p l e R s m args below meth c H1 locs1 0 0 Q (F0 m (pc + 3) ls rest)) : W p l e R s m args below meth c H locs 0 0 Q (F0 m pc ls st0) := by
  subst hst; subst hq
  have hFc := g_fr hD hS hA
  refine va_callv (va_runV (As := As) (rest := rest) ⟨hx, hb, hml, hown, hts⟩ (hM H.size) cw ⟨g_blind, va_recv hK hP hc he, fun U hU hW => ⟨rfl, by rw [hU], by rw [hU]; exact hP, va_K.moved hW.alike hK, hD.weaken (fun _ _ _ _ => trivial)⟩⟩ rfl hn hl rfl (lv_room hroom) hdg ⟨Nat.zero_le _, Nat.zero_le _⟩) hS (fun q _ h => hFc q h) hFc (fun u t H1 locs1 ht hvm hw hB hz1 hk1 hS1 => ?_)
  obtain ⟨hP1, hK1, hD1⟩ := hB
  rw [ht] at hP1
  exact kk H1 locs1 hP1 (hD1.weaken (fun k q _ h => hFc q.1 h)) hS1
theorem g_callSi {r : Int32} (hx : p.tables.exec = Jvm.exec) (hb : c.code = cc) (hml : c.maxLocals = nL) (hown : s.vm.findClass own = some m.cls) (hts : ∀ w ∈ Ts, w.before args s = true)
    (hM : ∀ sz : Nat, Met l y wsY rm (g_Pre D cy As ws sz) (g_Qi D cy r ws w' sz) 0 0 (va_A ws sz)) (cw : CallB R s args own index y bytes maxL ret wsY rm 0 0 n ∧ (Cond.static y).before args s = true)
    (hK : va_K D vwCl (g_tys cy) s) (hP : va_P D vwCl ws H) (hD : va_D Z ws) (hS : va_S Z s.heap H locs) (hA : ∀ q : Nat, s.heap.size ≤ q → Z q)
    (hn : As.length = n) (hl : ls.size = nL) (hst : st0 = As.reverse ++ rest) (hroom : (rest.map fun v => v.category).sum ≤ 8) (hdg : decode cc pc = .ok (.invokestatic index, 3))
    (kk : ∀ (H1 : Heap) (locs1 : List Loc), va_P D vwCl w' H1 → va_D Z w' → va_S Z s.heap H1 locs1 → W p l e R s m args below meth c H1 locs1 0 0 Q (F0 m (pc + 3) ls (.int r :: rest))) : W p l e R s m args below meth c H locs 0 0 Q (F0 m pc ls st0) := by
  subst hst
  have hFc := g_fr hD hS hA
  refine va_calli (va_runS (As := As) (rest := rest) ⟨hx, hb, hml, hown, hts⟩ (hM H.size) cw ⟨g_blind, fun U hU hW => ⟨rfl, by rw [hU], by rw [hU]; exact hP, va_K.moved hW.alike hK, hD.weaken (fun _ _ _ _ => trivial)⟩⟩ rfl hn hl rfl (lv_room hroom) hdg ⟨Nat.zero_le _, Nat.zero_le _⟩) hS (fun q _ h => hFc q h) hFc (fun r' u t H1 locs1 ht hvm hw hB hz1 hk1 hS1 => ?_)
  obtain ⟨hP1, hK1, hD1⟩ := hB
  rw [ht] at hP1
  subst hw
  exact kk H1 locs1 hP1 (hD1.weaken (fun k q _ h => hFc q.1 h)) hS1
theorem g_callViT {r : Int32} {tb : Nat} (hx : p.tables.exec = Jvm.exec) (hb : c.code = cc) (hml : c.maxLocals = nL) (hown : s.vm.findClass own = some m.cls) (hts : ∀ w ∈ Ts, w.before args s = true)
    (hM : ∀ sz : Nat, Met l y wsY rm (g_PreT D cy tb (.ref b :: As) ws sz) (g_Qi D cy r ws w' sz) 0 0 (va_A ws sz)) (cw : CallW R s args own C index y bytes maxL ret wsY rm 0 0 n)
    (hK : va_K D vwCl (g_tys cy) s) (hP : va_P D vwCl ws H) (hD : va_D Z ws) (hS : va_S Z s.heap H locs) (hA : ∀ q : Nat, s.heap.size ≤ q → Z q) (hT : va_T .int tb 6 (fun _ => .int 0) Z s s.heap) (hZ : va_Z "WarmBottles" "ONE_BED" "[I" (.ref tb) Z s s.heap)
    {ci q0 : Nat} {fs : List Value} {q : vw_C} (hc : vwCl[ci]? = some q) (he : ws[q0]? = some (b, .inr (ci, fs))) (hq : q.1 = C) (hn : As.length = n) (hl : ls.size = nL) (hst : st0 = As.reverse ++ .ref b :: rest) (hroom : (rest.map fun v => v.category).sum ≤ 8) (hdg : decode cc pc = .ok (.invokevirtual index, 3))
    (kk : ∀ (H1 : Heap) (locs1 : List Loc), va_P D vwCl w' H1 → va_D Z w' → va_S Z s.heap H1 locs1 → W p l e R s m args below meth c H1 locs1 0 0 Q (F0 m (pc + 3) ls (.int r :: rest))) : W p l e R s m args below meth c H locs 0 0 Q (F0 m pc ls st0) := by
  subst hst; subst hq
  have hFc := g_fr hD hS hA
  have hT1 := (hT.kept (fun q h1 h2 => hS.2.1 q h1 h2)).narrow hFc
  have hZ1 := (hZ.kept (fun q h1 h2 => hS.2.1 q h1 h2)).narrow hFc
  refine va_calli (va_runV (As := As) (rest := rest) ⟨hx, hb, hml, hown, hts⟩ (hM H.size) cw ⟨g_blindT, va_recv hK hP hc he, fun U hU hW => ⟨rfl, by rw [hU], by rw [hU]; exact hP, va_K.moved hW.alike hK, hD.weaken (fun _ _ _ _ => trivial), by rw [hU]; exact hT1.moved hW.alike, by rw [hU]; exact hZ1.moved hW.alike⟩⟩ rfl hn hl rfl (lv_room hroom) hdg ⟨Nat.zero_le _, Nat.zero_le _⟩) hS (fun q _ h => hFc q h) hFc (fun r' u t H1 locs1 ht hvm hw hB hz1 hk1 hS1 => ?_)
  obtain ⟨hP1, hK1, hD1⟩ := hB
  rw [ht] at hP1
  subst hw
  exact kk H1 locs1 hP1 (hD1.weaken (fun k q _ h => hFc q.1 h)) hS1
end GC
end
section
/-- world C -/
def wC (a : Nat → Nat) (cy : Nat → ClassId) (I : Nat → Int32) (A : Nat → Nat → Int32) (T : Int64) : va_W := [(a 0, .inr (7, [.ref (a 1), .ref (a 3), .ref (a 7), .ref (a 14), .ref (a 17), .ref (a 19), .ref (a 20), .ref (a 23), .long T])), (a 1, .inr (5, [.ref (a 2), .int (I 0), .int (I 1), .int (I 2), .int (I 3), .int (I 4), .int (I 5), .int (I 6)])), (a 2, .inl (cy 1, 120, .inl (A 0))), (a 3, .inr (6, [.ref (a 4), .ref (a 5), .ref (a 6), .int (I 7), .int (I 8), .int (I 9)])), (a 4, .inl (cy 0, 6, .inl (A 1))), (a 5, .inl (cy 0, 6, .inl (A 2))), (a 6, .inl (cy 0, 6, .inl (A 3))), (a 7, .inr (3, [.ref (a 8), .ref (a 12), .ref (a 13), .int (I 10), .int (I 11), .int (I 12)])), (a 8, .inr (6, [.ref (a 9), .ref (a 10), .ref (a 11), .int (I 13), .int (I 14), .int (I 15)])), (a 9, .inl (cy 0, 6, .inl (A 4))), (a 10, .inl (cy 0, 6, .inl (A 5))), (a 11, .inl (cy 0, 6, .inl (A 6))), (a 12, .inl (cy 0, 6, .inl (A 7))), (a 13, .inl (cy 0, 6, .inl (A 8))), (a 14, .inr (4, [.ref (a 15), .int (I 16), .int (I 17)])), (a 15, .inr (0, [.int 10, .ref (a 16)])), (a 16, .inl (cy 0, 150, .inl (A 9))), (a 17, .inr (0, [.int 2, .ref (a 18)])), (a 18, .inl (cy 0, 30, .inl (A 10))), (a 19, .inl (cy 2, 2, .inl (A 11))), (a 20, .inr (1, [.ref (a 21), .ref (a 22), .int (I 18)])), (a 21, .inl (cy 0, 6, .inl (A 12))), (a 22, .inl (cy 0, 6, .inl (A 13))), (a 23, .inr (2, [.ref (a 7), .ref (a 24), .ref (a 25)])), (a 24, .inl (cy 0, 6, .inl (A 14))), (a 25, .inl (cy 0, 30, .inl (A 15)))]
theorem eC_0 (a : Nat → Nat) (cy : Nat → ClassId) (I : Nat → Int32) (A : Nat → Nat → Int32) (T : Int64) : (wC a cy I A T)[0]? = some (a 0, .inr (7, [.ref (a 1), .ref (a 3), .ref (a 7), .ref (a 14), .ref (a 17), .ref (a 19), .ref (a 20), .ref (a 23), .long T])) := rfl
theorem pC_0_8 (a : Nat → Nat) (cy : Nat → ClassId) (I : Nat → Int32) (A : Nat → Nat → Int32) (T : Int64) (x : Int64) : (wC a cy I A T).set 0 (a 0, .inr (7, [.ref (a 1), .ref (a 3), .ref (a 7), .ref (a 14), .ref (a 17), .ref (a 19), .ref (a 20), .ref (a 23), .long T].set 8 (.long x))) = wC a cy I A x := rfl
theorem eC_1 (a : Nat → Nat) (cy : Nat → ClassId) (I : Nat → Int32) (A : Nat → Nat → Int32) (T : Int64) : (wC a cy I A T)[1]? = some (a 1, .inr (5, [.ref (a 2), .int (I 0), .int (I 1), .int (I 2), .int (I 3), .int (I 4), .int (I 5), .int (I 6)])) := rfl
theorem pC_1_1 (a : Nat → Nat) (cy : Nat → ClassId) (I : Nat → Int32) (A : Nat → Nat → Int32) (T : Int64) (x : Int32) : (wC a cy I A T).set 1 (a 1, .inr (5, [.ref (a 2), .int (I 0), .int (I 1), .int (I 2), .int (I 3), .int (I 4), .int (I 5), .int (I 6)].set 1 (.int x))) = wC a cy (upd I 0 x) A T := rfl
theorem pC_1_2 (a : Nat → Nat) (cy : Nat → ClassId) (I : Nat → Int32) (A : Nat → Nat → Int32) (T : Int64) (x : Int32) : (wC a cy I A T).set 1 (a 1, .inr (5, [.ref (a 2), .int (I 0), .int (I 1), .int (I 2), .int (I 3), .int (I 4), .int (I 5), .int (I 6)].set 2 (.int x))) = wC a cy (upd I 1 x) A T := rfl
theorem pC_1_3 (a : Nat → Nat) (cy : Nat → ClassId) (I : Nat → Int32) (A : Nat → Nat → Int32) (T : Int64) (x : Int32) : (wC a cy I A T).set 1 (a 1, .inr (5, [.ref (a 2), .int (I 0), .int (I 1), .int (I 2), .int (I 3), .int (I 4), .int (I 5), .int (I 6)].set 3 (.int x))) = wC a cy (upd I 2 x) A T := rfl
theorem pC_1_4 (a : Nat → Nat) (cy : Nat → ClassId) (I : Nat → Int32) (A : Nat → Nat → Int32) (T : Int64) (x : Int32) : (wC a cy I A T).set 1 (a 1, .inr (5, [.ref (a 2), .int (I 0), .int (I 1), .int (I 2), .int (I 3), .int (I 4), .int (I 5), .int (I 6)].set 4 (.int x))) = wC a cy (upd I 3 x) A T := rfl
theorem pC_1_5 (a : Nat → Nat) (cy : Nat → ClassId) (I : Nat → Int32) (A : Nat → Nat → Int32) (T : Int64) (x : Int32) : (wC a cy I A T).set 1 (a 1, .inr (5, [.ref (a 2), .int (I 0), .int (I 1), .int (I 2), .int (I 3), .int (I 4), .int (I 5), .int (I 6)].set 5 (.int x))) = wC a cy (upd I 4 x) A T := rfl
theorem pC_1_6 (a : Nat → Nat) (cy : Nat → ClassId) (I : Nat → Int32) (A : Nat → Nat → Int32) (T : Int64) (x : Int32) : (wC a cy I A T).set 1 (a 1, .inr (5, [.ref (a 2), .int (I 0), .int (I 1), .int (I 2), .int (I 3), .int (I 4), .int (I 5), .int (I 6)].set 6 (.int x))) = wC a cy (upd I 5 x) A T := rfl
theorem pC_1_7 (a : Nat → Nat) (cy : Nat → ClassId) (I : Nat → Int32) (A : Nat → Nat → Int32) (T : Int64) (x : Int32) : (wC a cy I A T).set 1 (a 1, .inr (5, [.ref (a 2), .int (I 0), .int (I 1), .int (I 2), .int (I 3), .int (I 4), .int (I 5), .int (I 6)].set 7 (.int x))) = wC a cy (upd I 6 x) A T := rfl
theorem eC_2 (a : Nat → Nat) (cy : Nat → ClassId) (I : Nat → Int32) (A : Nat → Nat → Int32) (T : Int64) : (wC a cy I A T)[2]? = some (a 2, .inl (cy 1, 120, .inl (A 0))) := rfl
theorem sC_2 (a : Nat → Nat) (cy : Nat → ClassId) (I : Nat → Int32) (A : Nat → Nat → Int32) (T : Int64) (f : Nat → Int32) : (wC a cy I A T).set 2 (a 2, .inl (cy 1, 120, .inl f)) = wC a cy I (va_up A 0 f) T := rfl
theorem eC_3 (a : Nat → Nat) (cy : Nat → ClassId) (I : Nat → Int32) (A : Nat → Nat → Int32) (T : Int64) : (wC a cy I A T)[3]? = some (a 3, .inr (6, [.ref (a 4), .ref (a 5), .ref (a 6), .int (I 7), .int (I 8), .int (I 9)])) := rfl
theorem pC_3_3 (a : Nat → Nat) (cy : Nat → ClassId) (I : Nat → Int32) (A : Nat → Nat → Int32) (T : Int64) (x : Int32) : (wC a cy I A T).set 3 (a 3, .inr (6, [.ref (a 4), .ref (a 5), .ref (a 6), .int (I 7), .int (I 8), .int (I 9)].set 3 (.int x))) = wC a cy (upd I 7 x) A T := rfl
theorem pC_3_4 (a : Nat → Nat) (cy : Nat → ClassId) (I : Nat → Int32) (A : Nat → Nat → Int32) (T : Int64) (x : Int32) : (wC a cy I A T).set 3 (a 3, .inr (6, [.ref (a 4), .ref (a 5), .ref (a 6), .int (I 7), .int (I 8), .int (I 9)].set 4 (.int x))) = wC a cy (upd I 8 x) A T := rfl
theorem pC_3_5 (a : Nat → Nat) (cy : Nat → ClassId) (I : Nat → Int32) (A : Nat → Nat → Int32) (T : Int64) (x : Int32) : (wC a cy I A T).set 3 (a 3, .inr (6, [.ref (a 4), .ref (a 5), .ref (a 6), .int (I 7), .int (I 8), .int (I 9)].set 5 (.int x))) = wC a cy (upd I 9 x) A T := rfl
theorem eC_4 (a : Nat → Nat) (cy : Nat → ClassId) (I : Nat → Int32) (A : Nat → Nat → Int32) (T : Int64) : (wC a cy I A T)[4]? = some (a 4, .inl (cy 0, 6, .inl (A 1))) := rfl
theorem sC_4 (a : Nat → Nat) (cy : Nat → ClassId) (I : Nat → Int32) (A : Nat → Nat → Int32) (T : Int64) (f : Nat → Int32) : (wC a cy I A T).set 4 (a 4, .inl (cy 0, 6, .inl f)) = wC a cy I (va_up A 1 f) T := rfl
theorem eC_5 (a : Nat → Nat) (cy : Nat → ClassId) (I : Nat → Int32) (A : Nat → Nat → Int32) (T : Int64) : (wC a cy I A T)[5]? = some (a 5, .inl (cy 0, 6, .inl (A 2))) := rfl
theorem sC_5 (a : Nat → Nat) (cy : Nat → ClassId) (I : Nat → Int32) (A : Nat → Nat → Int32) (T : Int64) (f : Nat → Int32) : (wC a cy I A T).set 5 (a 5, .inl (cy 0, 6, .inl f)) = wC a cy I (va_up A 2 f) T := rfl
theorem eC_6 (a : Nat → Nat) (cy : Nat → ClassId) (I : Nat → Int32) (A : Nat → Nat → Int32) (T : Int64) : (wC a cy I A T)[6]? = some (a 6, .inl (cy 0, 6, .inl (A 3))) := rfl
theorem sC_6 (a : Nat → Nat) (cy : Nat → ClassId) (I : Nat → Int32) (A : Nat → Nat → Int32) (T : Int64) (f : Nat → Int32) : (wC a cy I A T).set 6 (a 6, .inl (cy 0, 6, .inl f)) = wC a cy I (va_up A 3 f) T := rfl
theorem eC_7 (a : Nat → Nat) (cy : Nat → ClassId) (I : Nat → Int32) (A : Nat → Nat → Int32) (T : Int64) : (wC a cy I A T)[7]? = some (a 7, .inr (3, [.ref (a 8), .ref (a 12), .ref (a 13), .int (I 10), .int (I 11), .int (I 12)])) := rfl
theorem pC_7_3 (a : Nat → Nat) (cy : Nat → ClassId) (I : Nat → Int32) (A : Nat → Nat → Int32) (T : Int64) (x : Int32) : (wC a cy I A T).set 7 (a 7, .inr (3, [.ref (a 8), .ref (a 12), .ref (a 13), .int (I 10), .int (I 11), .int (I 12)].set 3 (.int x))) = wC a cy (upd I 10 x) A T := rfl
theorem pC_7_4 (a : Nat → Nat) (cy : Nat → ClassId) (I : Nat → Int32) (A : Nat → Nat → Int32) (T : Int64) (x : Int32) : (wC a cy I A T).set 7 (a 7, .inr (3, [.ref (a 8), .ref (a 12), .ref (a 13), .int (I 10), .int (I 11), .int (I 12)].set 4 (.int x))) = wC a cy (upd I 11 x) A T := rfl
theorem pC_7_5 (a : Nat → Nat) (cy : Nat → ClassId) (I : Nat → Int32) (A : Nat → Nat → Int32) (T : Int64) (x : Int32) : (wC a cy I A T).set 7 (a 7, .inr (3, [.ref (a 8), .ref (a 12), .ref (a 13), .int (I 10), .int (I 11), .int (I 12)].set 5 (.int x))) = wC a cy (upd I 12 x) A T := rfl
theorem eC_8 (a : Nat → Nat) (cy : Nat → ClassId) (I : Nat → Int32) (A : Nat → Nat → Int32) (T : Int64) : (wC a cy I A T)[8]? = some (a 8, .inr (6, [.ref (a 9), .ref (a 10), .ref (a 11), .int (I 13), .int (I 14), .int (I 15)])) := rfl
theorem pC_8_3 (a : Nat → Nat) (cy : Nat → ClassId) (I : Nat → Int32) (A : Nat → Nat → Int32) (T : Int64) (x : Int32) : (wC a cy I A T).set 8 (a 8, .inr (6, [.ref (a 9), .ref (a 10), .ref (a 11), .int (I 13), .int (I 14), .int (I 15)].set 3 (.int x))) = wC a cy (upd I 13 x) A T := rfl
theorem pC_8_4 (a : Nat → Nat) (cy : Nat → ClassId) (I : Nat → Int32) (A : Nat → Nat → Int32) (T : Int64) (x : Int32) : (wC a cy I A T).set 8 (a 8, .inr (6, [.ref (a 9), .ref (a 10), .ref (a 11), .int (I 13), .int (I 14), .int (I 15)].set 4 (.int x))) = wC a cy (upd I 14 x) A T := rfl
theorem pC_8_5 (a : Nat → Nat) (cy : Nat → ClassId) (I : Nat → Int32) (A : Nat → Nat → Int32) (T : Int64) (x : Int32) : (wC a cy I A T).set 8 (a 8, .inr (6, [.ref (a 9), .ref (a 10), .ref (a 11), .int (I 13), .int (I 14), .int (I 15)].set 5 (.int x))) = wC a cy (upd I 15 x) A T := rfl
theorem eC_9 (a : Nat → Nat) (cy : Nat → ClassId) (I : Nat → Int32) (A : Nat → Nat → Int32) (T : Int64) : (wC a cy I A T)[9]? = some (a 9, .inl (cy 0, 6, .inl (A 4))) := rfl
theorem sC_9 (a : Nat → Nat) (cy : Nat → ClassId) (I : Nat → Int32) (A : Nat → Nat → Int32) (T : Int64) (f : Nat → Int32) : (wC a cy I A T).set 9 (a 9, .inl (cy 0, 6, .inl f)) = wC a cy I (va_up A 4 f) T := rfl
theorem eC_10 (a : Nat → Nat) (cy : Nat → ClassId) (I : Nat → Int32) (A : Nat → Nat → Int32) (T : Int64) : (wC a cy I A T)[10]? = some (a 10, .inl (cy 0, 6, .inl (A 5))) := rfl
theorem sC_10 (a : Nat → Nat) (cy : Nat → ClassId) (I : Nat → Int32) (A : Nat → Nat → Int32) (T : Int64) (f : Nat → Int32) : (wC a cy I A T).set 10 (a 10, .inl (cy 0, 6, .inl f)) = wC a cy I (va_up A 5 f) T := rfl
theorem eC_11 (a : Nat → Nat) (cy : Nat → ClassId) (I : Nat → Int32) (A : Nat → Nat → Int32) (T : Int64) : (wC a cy I A T)[11]? = some (a 11, .inl (cy 0, 6, .inl (A 6))) := rfl
theorem sC_11 (a : Nat → Nat) (cy : Nat → ClassId) (I : Nat → Int32) (A : Nat → Nat → Int32) (T : Int64) (f : Nat → Int32) : (wC a cy I A T).set 11 (a 11, .inl (cy 0, 6, .inl f)) = wC a cy I (va_up A 6 f) T := rfl
theorem eC_12 (a : Nat → Nat) (cy : Nat → ClassId) (I : Nat → Int32) (A : Nat → Nat → Int32) (T : Int64) : (wC a cy I A T)[12]? = some (a 12, .inl (cy 0, 6, .inl (A 7))) := rfl
theorem sC_12 (a : Nat → Nat) (cy : Nat → ClassId) (I : Nat → Int32) (A : Nat → Nat → Int32) (T : Int64) (f : Nat → Int32) : (wC a cy I A T).set 12 (a 12, .inl (cy 0, 6, .inl f)) = wC a cy I (va_up A 7 f) T := rfl
theorem eC_13 (a : Nat → Nat) (cy : Nat → ClassId) (I : Nat → Int32) (A : Nat → Nat → Int32) (T : Int64) : (wC a cy I A T)[13]? = some (a 13, .inl (cy 0, 6, .inl (A 8))) := rfl
theorem sC_13 (a : Nat → Nat) (cy : Nat → ClassId) (I : Nat → Int32) (A : Nat → Nat → Int32) (T : Int64) (f : Nat → Int32) : (wC a cy I A T).set 13 (a 13, .inl (cy 0, 6, .inl f)) = wC a cy I (va_up A 8 f) T := rfl
theorem eC_14 (a : Nat → Nat) (cy : Nat → ClassId) (I : Nat → Int32) (A : Nat → Nat → Int32) (T : Int64) : (wC a cy I A T)[14]? = some (a 14, .inr (4, [.ref (a 15), .int (I 16), .int (I 17)])) := rfl
theorem pC_14_1 (a : Nat → Nat) (cy : Nat → ClassId) (I : Nat → Int32) (A : Nat → Nat → Int32) (T : Int64) (x : Int32) : (wC a cy I A T).set 14 (a 14, .inr (4, [.ref (a 15), .int (I 16), .int (I 17)].set 1 (.int x))) = wC a cy (upd I 16 x) A T := rfl
theorem pC_14_2 (a : Nat → Nat) (cy : Nat → ClassId) (I : Nat → Int32) (A : Nat → Nat → Int32) (T : Int64) (x : Int32) : (wC a cy I A T).set 14 (a 14, .inr (4, [.ref (a 15), .int (I 16), .int (I 17)].set 2 (.int x))) = wC a cy (upd I 17 x) A T := rfl
theorem eC_15 (a : Nat → Nat) (cy : Nat → ClassId) (I : Nat → Int32) (A : Nat → Nat → Int32) (T : Int64) : (wC a cy I A T)[15]? = some (a 15, .inr (0, [.int 10, .ref (a 16)])) := rfl
theorem eC_16 (a : Nat → Nat) (cy : Nat → ClassId) (I : Nat → Int32) (A : Nat → Nat → Int32) (T : Int64) : (wC a cy I A T)[16]? = some (a 16, .inl (cy 0, 150, .inl (A 9))) := rfl
theorem sC_16 (a : Nat → Nat) (cy : Nat → ClassId) (I : Nat → Int32) (A : Nat → Nat → Int32) (T : Int64) (f : Nat → Int32) : (wC a cy I A T).set 16 (a 16, .inl (cy 0, 150, .inl f)) = wC a cy I (va_up A 9 f) T := rfl
theorem eC_17 (a : Nat → Nat) (cy : Nat → ClassId) (I : Nat → Int32) (A : Nat → Nat → Int32) (T : Int64) : (wC a cy I A T)[17]? = some (a 17, .inr (0, [.int 2, .ref (a 18)])) := rfl
theorem eC_18 (a : Nat → Nat) (cy : Nat → ClassId) (I : Nat → Int32) (A : Nat → Nat → Int32) (T : Int64) : (wC a cy I A T)[18]? = some (a 18, .inl (cy 0, 30, .inl (A 10))) := rfl
theorem sC_18 (a : Nat → Nat) (cy : Nat → ClassId) (I : Nat → Int32) (A : Nat → Nat → Int32) (T : Int64) (f : Nat → Int32) : (wC a cy I A T).set 18 (a 18, .inl (cy 0, 30, .inl f)) = wC a cy I (va_up A 10 f) T := rfl
theorem eC_19 (a : Nat → Nat) (cy : Nat → ClassId) (I : Nat → Int32) (A : Nat → Nat → Int32) (T : Int64) : (wC a cy I A T)[19]? = some (a 19, .inl (cy 2, 2, .inl (A 11))) := rfl
theorem sC_19 (a : Nat → Nat) (cy : Nat → ClassId) (I : Nat → Int32) (A : Nat → Nat → Int32) (T : Int64) (f : Nat → Int32) : (wC a cy I A T).set 19 (a 19, .inl (cy 2, 2, .inl f)) = wC a cy I (va_up A 11 f) T := rfl
theorem eC_20 (a : Nat → Nat) (cy : Nat → ClassId) (I : Nat → Int32) (A : Nat → Nat → Int32) (T : Int64) : (wC a cy I A T)[20]? = some (a 20, .inr (1, [.ref (a 21), .ref (a 22), .int (I 18)])) := rfl
theorem pC_20_2 (a : Nat → Nat) (cy : Nat → ClassId) (I : Nat → Int32) (A : Nat → Nat → Int32) (T : Int64) (x : Int32) : (wC a cy I A T).set 20 (a 20, .inr (1, [.ref (a 21), .ref (a 22), .int (I 18)].set 2 (.int x))) = wC a cy (upd I 18 x) A T := rfl
theorem eC_21 (a : Nat → Nat) (cy : Nat → ClassId) (I : Nat → Int32) (A : Nat → Nat → Int32) (T : Int64) : (wC a cy I A T)[21]? = some (a 21, .inl (cy 0, 6, .inl (A 12))) := rfl
theorem sC_21 (a : Nat → Nat) (cy : Nat → ClassId) (I : Nat → Int32) (A : Nat → Nat → Int32) (T : Int64) (f : Nat → Int32) : (wC a cy I A T).set 21 (a 21, .inl (cy 0, 6, .inl f)) = wC a cy I (va_up A 12 f) T := rfl
theorem eC_22 (a : Nat → Nat) (cy : Nat → ClassId) (I : Nat → Int32) (A : Nat → Nat → Int32) (T : Int64) : (wC a cy I A T)[22]? = some (a 22, .inl (cy 0, 6, .inl (A 13))) := rfl
theorem sC_22 (a : Nat → Nat) (cy : Nat → ClassId) (I : Nat → Int32) (A : Nat → Nat → Int32) (T : Int64) (f : Nat → Int32) : (wC a cy I A T).set 22 (a 22, .inl (cy 0, 6, .inl f)) = wC a cy I (va_up A 13 f) T := rfl
theorem eC_23 (a : Nat → Nat) (cy : Nat → ClassId) (I : Nat → Int32) (A : Nat → Nat → Int32) (T : Int64) : (wC a cy I A T)[23]? = some (a 23, .inr (2, [.ref (a 7), .ref (a 24), .ref (a 25)])) := rfl
theorem eC_24 (a : Nat → Nat) (cy : Nat → ClassId) (I : Nat → Int32) (A : Nat → Nat → Int32) (T : Int64) : (wC a cy I A T)[24]? = some (a 24, .inl (cy 0, 6, .inl (A 14))) := rfl
theorem sC_24 (a : Nat → Nat) (cy : Nat → ClassId) (I : Nat → Int32) (A : Nat → Nat → Int32) (T : Int64) (f : Nat → Int32) : (wC a cy I A T).set 24 (a 24, .inl (cy 0, 6, .inl f)) = wC a cy I (va_up A 14 f) T := rfl
theorem eC_25 (a : Nat → Nat) (cy : Nat → ClassId) (I : Nat → Int32) (A : Nat → Nat → Int32) (T : Int64) : (wC a cy I A T)[25]? = some (a 25, .inl (cy 0, 30, .inl (A 15))) := rfl
theorem sC_25 (a : Nat → Nat) (cy : Nat → ClassId) (I : Nat → Int32) (A : Nat → Nat → Int32) (T : Int64) (f : Nat → Int32) : (wC a cy I A T).set 25 (a 25, .inl (cy 0, 30, .inl f)) = wC a cy I (va_up A 15 f) T := rfl
/-- world M -/
def wM (a : Nat → Nat) (cy : Nat → ClassId) (I : Nat → Int32) (A : Nat → Nat → Int32) (T : Int64) : va_W := [(a 0, .inr (8, [.long T, .ref (a 1), .int (I 0), .ref (a 2), .ref (a 3), .ref (a 4), .ref (a 5), .int (I 1), .ref (a 6), .ref (a 7), .ref (a 8), .int (I 2), .int (I 3), .int (I 4), .int (I 5), .int (I 6), .ref (a 9), .ref (a 10), .ref (a 11)])), (a 1, .inl (cy 0, 120, .inl (A 0))), (a 2, .inl (cy 0, 23, .inl (A 1))), (a 3, .inl (cy 0, 23, .inl (A 2))), (a 4, .inl (cy 0, 15, .inl (A 3))), (a 5, .inl (cy 0, 150, .inl (A 4))), (a 6, .inl (cy 0, 30, .inl (A 5))), (a 7, .inl (cy 2, 2, .inl (A 6))), (a 8, .inl (cy 0, 12, .inl (A 7))), (a 9, .inl (cy 0, 15, .inl (A 8))), (a 10, .inl (cy 0, 6, .inl (A 9))), (a 11, .inl (cy 0, 6, .inl (A 10)))]
theorem eM_0 (a : Nat → Nat) (cy : Nat → ClassId) (I : Nat → Int32) (A : Nat → Nat → Int32) (T : Int64) : (wM a cy I A T)[0]? = some (a 0, .inr (8, [.long T, .ref (a 1), .int (I 0), .ref (a 2), .ref (a 3), .ref (a 4), .ref (a 5), .int (I 1), .ref (a 6), .ref (a 7), .ref (a 8), .int (I 2), .int (I 3), .int (I 4), .int (I 5), .int (I 6), .ref (a 9), .ref (a 10), .ref (a 11)])) := rfl
theorem pM_0_0 (a : Nat → Nat) (cy : Nat → ClassId) (I : Nat → Int32) (A : Nat → Nat → Int32) (T : Int64) (x : Int64) : (wM a cy I A T).set 0 (a 0, .inr (8, [.long T, .ref (a 1), .int (I 0), .ref (a 2), .ref (a 3), .ref (a 4), .ref (a 5), .int (I 1), .ref (a 6), .ref (a 7), .ref (a 8), .int (I 2), .int (I 3), .int (I 4), .int (I 5), .int (I 6), .ref (a 9), .ref (a 10), .ref (a 11)].set 0 (.long x))) = wM a cy I A x := rfl
theorem pM_0_2 (a : Nat → Nat) (cy : Nat → ClassId) (I : Nat → Int32) (A : Nat → Nat → Int32) (T : Int64) (x : Int32) : (wM a cy I A T).set 0 (a 0, .inr (8, [.long T, .ref (a 1), .int (I 0), .ref (a 2), .ref (a 3), .ref (a 4), .ref (a 5), .int (I 1), .ref (a 6), .ref (a 7), .ref (a 8), .int (I 2), .int (I 3), .int (I 4), .int (I 5), .int (I 6), .ref (a 9), .ref (a 10), .ref (a 11)].set 2 (.int x))) = wM a cy (upd I 0 x) A T := rfl
theorem pM_0_7 (a : Nat → Nat) (cy : Nat → ClassId) (I : Nat → Int32) (A : Nat → Nat → Int32) (T : Int64) (x : Int32) : (wM a cy I A T).set 0 (a 0, .inr (8, [.long T, .ref (a 1), .int (I 0), .ref (a 2), .ref (a 3), .ref (a 4), .ref (a 5), .int (I 1), .ref (a 6), .ref (a 7), .ref (a 8), .int (I 2), .int (I 3), .int (I 4), .int (I 5), .int (I 6), .ref (a 9), .ref (a 10), .ref (a 11)].set 7 (.int x))) = wM a cy (upd I 1 x) A T := rfl
theorem pM_0_11 (a : Nat → Nat) (cy : Nat → ClassId) (I : Nat → Int32) (A : Nat → Nat → Int32) (T : Int64) (x : Int32) : (wM a cy I A T).set 0 (a 0, .inr (8, [.long T, .ref (a 1), .int (I 0), .ref (a 2), .ref (a 3), .ref (a 4), .ref (a 5), .int (I 1), .ref (a 6), .ref (a 7), .ref (a 8), .int (I 2), .int (I 3), .int (I 4), .int (I 5), .int (I 6), .ref (a 9), .ref (a 10), .ref (a 11)].set 11 (.int x))) = wM a cy (upd I 2 x) A T := rfl
theorem pM_0_12 (a : Nat → Nat) (cy : Nat → ClassId) (I : Nat → Int32) (A : Nat → Nat → Int32) (T : Int64) (x : Int32) : (wM a cy I A T).set 0 (a 0, .inr (8, [.long T, .ref (a 1), .int (I 0), .ref (a 2), .ref (a 3), .ref (a 4), .ref (a 5), .int (I 1), .ref (a 6), .ref (a 7), .ref (a 8), .int (I 2), .int (I 3), .int (I 4), .int (I 5), .int (I 6), .ref (a 9), .ref (a 10), .ref (a 11)].set 12 (.int x))) = wM a cy (upd I 3 x) A T := rfl
theorem pM_0_13 (a : Nat → Nat) (cy : Nat → ClassId) (I : Nat → Int32) (A : Nat → Nat → Int32) (T : Int64) (x : Int32) : (wM a cy I A T).set 0 (a 0, .inr (8, [.long T, .ref (a 1), .int (I 0), .ref (a 2), .ref (a 3), .ref (a 4), .ref (a 5), .int (I 1), .ref (a 6), .ref (a 7), .ref (a 8), .int (I 2), .int (I 3), .int (I 4), .int (I 5), .int (I 6), .ref (a 9), .ref (a 10), .ref (a 11)].set 13 (.int x))) = wM a cy (upd I 4 x) A T := rfl
theorem pM_0_14 (a : Nat → Nat) (cy : Nat → ClassId) (I : Nat → Int32) (A : Nat → Nat → Int32) (T : Int64) (x : Int32) : (wM a cy I A T).set 0 (a 0, .inr (8, [.long T, .ref (a 1), .int (I 0), .ref (a 2), .ref (a 3), .ref (a 4), .ref (a 5), .int (I 1), .ref (a 6), .ref (a 7), .ref (a 8), .int (I 2), .int (I 3), .int (I 4), .int (I 5), .int (I 6), .ref (a 9), .ref (a 10), .ref (a 11)].set 14 (.int x))) = wM a cy (upd I 5 x) A T := rfl
theorem pM_0_15 (a : Nat → Nat) (cy : Nat → ClassId) (I : Nat → Int32) (A : Nat → Nat → Int32) (T : Int64) (x : Int32) : (wM a cy I A T).set 0 (a 0, .inr (8, [.long T, .ref (a 1), .int (I 0), .ref (a 2), .ref (a 3), .ref (a 4), .ref (a 5), .int (I 1), .ref (a 6), .ref (a 7), .ref (a 8), .int (I 2), .int (I 3), .int (I 4), .int (I 5), .int (I 6), .ref (a 9), .ref (a 10), .ref (a 11)].set 15 (.int x))) = wM a cy (upd I 6 x) A T := rfl
theorem eM_1 (a : Nat → Nat) (cy : Nat → ClassId) (I : Nat → Int32) (A : Nat → Nat → Int32) (T : Int64) : (wM a cy I A T)[1]? = some (a 1, .inl (cy 0, 120, .inl (A 0))) := rfl
theorem sM_1 (a : Nat → Nat) (cy : Nat → ClassId) (I : Nat → Int32) (A : Nat → Nat → Int32) (T : Int64) (f : Nat → Int32) : (wM a cy I A T).set 1 (a 1, .inl (cy 0, 120, .inl f)) = wM a cy I (va_up A 0 f) T := rfl
theorem eM_2 (a : Nat → Nat) (cy : Nat → ClassId) (I : Nat → Int32) (A : Nat → Nat → Int32) (T : Int64) : (wM a cy I A T)[2]? = some (a 2, .inl (cy 0, 23, .inl (A 1))) := rfl
theorem sM_2 (a : Nat → Nat) (cy : Nat → ClassId) (I : Nat → Int32) (A : Nat → Nat → Int32) (T : Int64) (f : Nat → Int32) : (wM a cy I A T).set 2 (a 2, .inl (cy 0, 23, .inl f)) = wM a cy I (va_up A 1 f) T := rfl
theorem eM_3 (a : Nat → Nat) (cy : Nat → ClassId) (I : Nat → Int32) (A : Nat → Nat → Int32) (T : Int64) : (wM a cy I A T)[3]? = some (a 3, .inl (cy 0, 23, .inl (A 2))) := rfl
theorem sM_3 (a : Nat → Nat) (cy : Nat → ClassId) (I : Nat → Int32) (A : Nat → Nat → Int32) (T : Int64) (f : Nat → Int32) : (wM a cy I A T).set 3 (a 3, .inl (cy 0, 23, .inl f)) = wM a cy I (va_up A 2 f) T := rfl
theorem eM_4 (a : Nat → Nat) (cy : Nat → ClassId) (I : Nat → Int32) (A : Nat → Nat → Int32) (T : Int64) : (wM a cy I A T)[4]? = some (a 4, .inl (cy 0, 15, .inl (A 3))) := rfl
theorem sM_4 (a : Nat → Nat) (cy : Nat → ClassId) (I : Nat → Int32) (A : Nat → Nat → Int32) (T : Int64) (f : Nat → Int32) : (wM a cy I A T).set 4 (a 4, .inl (cy 0, 15, .inl f)) = wM a cy I (va_up A 3 f) T := rfl
theorem eM_5 (a : Nat → Nat) (cy : Nat → ClassId) (I : Nat → Int32) (A : Nat → Nat → Int32) (T : Int64) : (wM a cy I A T)[5]? = some (a 5, .inl (cy 0, 150, .inl (A 4))) := rfl
theorem sM_5 (a : Nat → Nat) (cy : Nat → ClassId) (I : Nat → Int32) (A : Nat → Nat → Int32) (T : Int64) (f : Nat → Int32) : (wM a cy I A T).set 5 (a 5, .inl (cy 0, 150, .inl f)) = wM a cy I (va_up A 4 f) T := rfl
theorem eM_6 (a : Nat → Nat) (cy : Nat → ClassId) (I : Nat → Int32) (A : Nat → Nat → Int32) (T : Int64) : (wM a cy I A T)[6]? = some (a 6, .inl (cy 0, 30, .inl (A 5))) := rfl
theorem sM_6 (a : Nat → Nat) (cy : Nat → ClassId) (I : Nat → Int32) (A : Nat → Nat → Int32) (T : Int64) (f : Nat → Int32) : (wM a cy I A T).set 6 (a 6, .inl (cy 0, 30, .inl f)) = wM a cy I (va_up A 5 f) T := rfl
theorem eM_7 (a : Nat → Nat) (cy : Nat → ClassId) (I : Nat → Int32) (A : Nat → Nat → Int32) (T : Int64) : (wM a cy I A T)[7]? = some (a 7, .inl (cy 2, 2, .inl (A 6))) := rfl
theorem sM_7 (a : Nat → Nat) (cy : Nat → ClassId) (I : Nat → Int32) (A : Nat → Nat → Int32) (T : Int64) (f : Nat → Int32) : (wM a cy I A T).set 7 (a 7, .inl (cy 2, 2, .inl f)) = wM a cy I (va_up A 6 f) T := rfl
theorem eM_8 (a : Nat → Nat) (cy : Nat → ClassId) (I : Nat → Int32) (A : Nat → Nat → Int32) (T : Int64) : (wM a cy I A T)[8]? = some (a 8, .inl (cy 0, 12, .inl (A 7))) := rfl
theorem sM_8 (a : Nat → Nat) (cy : Nat → ClassId) (I : Nat → Int32) (A : Nat → Nat → Int32) (T : Int64) (f : Nat → Int32) : (wM a cy I A T).set 8 (a 8, .inl (cy 0, 12, .inl f)) = wM a cy I (va_up A 7 f) T := rfl
theorem eM_9 (a : Nat → Nat) (cy : Nat → ClassId) (I : Nat → Int32) (A : Nat → Nat → Int32) (T : Int64) : (wM a cy I A T)[9]? = some (a 9, .inl (cy 0, 15, .inl (A 8))) := rfl
theorem sM_9 (a : Nat → Nat) (cy : Nat → ClassId) (I : Nat → Int32) (A : Nat → Nat → Int32) (T : Int64) (f : Nat → Int32) : (wM a cy I A T).set 9 (a 9, .inl (cy 0, 15, .inl f)) = wM a cy I (va_up A 8 f) T := rfl
theorem eM_10 (a : Nat → Nat) (cy : Nat → ClassId) (I : Nat → Int32) (A : Nat → Nat → Int32) (T : Int64) : (wM a cy I A T)[10]? = some (a 10, .inl (cy 0, 6, .inl (A 9))) := rfl
theorem sM_10 (a : Nat → Nat) (cy : Nat → ClassId) (I : Nat → Int32) (A : Nat → Nat → Int32) (T : Int64) (f : Nat → Int32) : (wM a cy I A T).set 10 (a 10, .inl (cy 0, 6, .inl f)) = wM a cy I (va_up A 9 f) T := rfl
theorem eM_11 (a : Nat → Nat) (cy : Nat → ClassId) (I : Nat → Int32) (A : Nat → Nat → Int32) (T : Int64) : (wM a cy I A T)[11]? = some (a 11, .inl (cy 0, 6, .inl (A 10))) := rfl
theorem sM_11 (a : Nat → Nat) (cy : Nat → ClassId) (I : Nat → Int32) (A : Nat → Nat → Int32) (T : Int64) (f : Nat → Int32) : (wM a cy I A T).set 11 (a 11, .inl (cy 0, 6, .inl f)) = wM a cy I (va_up A 10 f) T := rfl
/-- world D -/
def wD (a : Nat → Nat) (cy : Nat → ClassId) (I : Nat → Int32) (A : Nat → Nat → Int32) (T : Int64) : va_W := [(a 0, .inr (6, [.ref (a 1), .ref (a 2), .ref (a 3), .int (I 0), .int (I 1), .int (I 2)])), (a 1, .inl (cy 0, 6, .inl (A 0))), (a 2, .inl (cy 0, 6, .inl (A 1))), (a 3, .inl (cy 0, 6, .inl (A 2)))]
theorem eD_0 (a : Nat → Nat) (cy : Nat → ClassId) (I : Nat → Int32) (A : Nat → Nat → Int32) (T : Int64) : (wD a cy I A T)[0]? = some (a 0, .inr (6, [.ref (a 1), .ref (a 2), .ref (a 3), .int (I 0), .int (I 1), .int (I 2)])) := rfl
theorem pD_0_3 (a : Nat → Nat) (cy : Nat → ClassId) (I : Nat → Int32) (A : Nat → Nat → Int32) (T : Int64) (x : Int32) : (wD a cy I A T).set 0 (a 0, .inr (6, [.ref (a 1), .ref (a 2), .ref (a 3), .int (I 0), .int (I 1), .int (I 2)].set 3 (.int x))) = wD a cy (upd I 0 x) A T := rfl
theorem pD_0_4 (a : Nat → Nat) (cy : Nat → ClassId) (I : Nat → Int32) (A : Nat → Nat → Int32) (T : Int64) (x : Int32) : (wD a cy I A T).set 0 (a 0, .inr (6, [.ref (a 1), .ref (a 2), .ref (a 3), .int (I 0), .int (I 1), .int (I 2)].set 4 (.int x))) = wD a cy (upd I 1 x) A T := rfl
theorem pD_0_5 (a : Nat → Nat) (cy : Nat → ClassId) (I : Nat → Int32) (A : Nat → Nat → Int32) (T : Int64) (x : Int32) : (wD a cy I A T).set 0 (a 0, .inr (6, [.ref (a 1), .ref (a 2), .ref (a 3), .int (I 0), .int (I 1), .int (I 2)].set 5 (.int x))) = wD a cy (upd I 2 x) A T := rfl
theorem eD_1 (a : Nat → Nat) (cy : Nat → ClassId) (I : Nat → Int32) (A : Nat → Nat → Int32) (T : Int64) : (wD a cy I A T)[1]? = some (a 1, .inl (cy 0, 6, .inl (A 0))) := rfl
theorem sD_1 (a : Nat → Nat) (cy : Nat → ClassId) (I : Nat → Int32) (A : Nat → Nat → Int32) (T : Int64) (f : Nat → Int32) : (wD a cy I A T).set 1 (a 1, .inl (cy 0, 6, .inl f)) = wD a cy I (va_up A 0 f) T := rfl
theorem eD_2 (a : Nat → Nat) (cy : Nat → ClassId) (I : Nat → Int32) (A : Nat → Nat → Int32) (T : Int64) : (wD a cy I A T)[2]? = some (a 2, .inl (cy 0, 6, .inl (A 1))) := rfl
theorem sD_2 (a : Nat → Nat) (cy : Nat → ClassId) (I : Nat → Int32) (A : Nat → Nat → Int32) (T : Int64) (f : Nat → Int32) : (wD a cy I A T).set 2 (a 2, .inl (cy 0, 6, .inl f)) = wD a cy I (va_up A 1 f) T := rfl
theorem eD_3 (a : Nat → Nat) (cy : Nat → ClassId) (I : Nat → Int32) (A : Nat → Nat → Int32) (T : Int64) : (wD a cy I A T)[3]? = some (a 3, .inl (cy 0, 6, .inl (A 2))) := rfl
theorem sD_3 (a : Nat → Nat) (cy : Nat → ClassId) (I : Nat → Int32) (A : Nat → Nat → Int32) (T : Int64) (f : Nat → Int32) : (wD a cy I A T).set 3 (a 3, .inl (cy 0, 6, .inl f)) = wD a cy I (va_up A 2 f) T := rfl
/-- world N -/
def wN (a : Nat → Nat) (cy : Nat → ClassId) (I : Nat → Int32) (A : Nat → Nat → Int32) (T : Int64) : va_W := [(a 0, .inr (3, [.ref (a 1), .ref (a 5), .ref (a 6), .int (I 0), .int (I 1), .int (I 2)])), (a 1, .inr (6, [.ref (a 2), .ref (a 3), .ref (a 4), .int (I 3), .int (I 4), .int (I 5)])), (a 2, .inl (cy 0, 6, .inl (A 0))), (a 3, .inl (cy 0, 6, .inl (A 1))), (a 4, .inl (cy 0, 6, .inl (A 2))), (a 5, .inl (cy 0, 6, .inl (A 3))), (a 6, .inl (cy 0, 6, .inl (A 4)))]
theorem eN_0 (a : Nat → Nat) (cy : Nat → ClassId) (I : Nat → Int32) (A : Nat → Nat → Int32) (T : Int64) : (wN a cy I A T)[0]? = some (a 0, .inr (3, [.ref (a 1), .ref (a 5), .ref (a 6), .int (I 0), .int (I 1), .int (I 2)])) := rfl
theorem pN_0_3 (a : Nat → Nat) (cy : Nat → ClassId) (I : Nat → Int32) (A : Nat → Nat → Int32) (T : Int64) (x : Int32) : (wN a cy I A T).set 0 (a 0, .inr (3, [.ref (a 1), .ref (a 5), .ref (a 6), .int (I 0), .int (I 1), .int (I 2)].set 3 (.int x))) = wN a cy (upd I 0 x) A T := rfl
theorem pN_0_4 (a : Nat → Nat) (cy : Nat → ClassId) (I : Nat → Int32) (A : Nat → Nat → Int32) (T : Int64) (x : Int32) : (wN a cy I A T).set 0 (a 0, .inr (3, [.ref (a 1), .ref (a 5), .ref (a 6), .int (I 0), .int (I 1), .int (I 2)].set 4 (.int x))) = wN a cy (upd I 1 x) A T := rfl
theorem pN_0_5 (a : Nat → Nat) (cy : Nat → ClassId) (I : Nat → Int32) (A : Nat → Nat → Int32) (T : Int64) (x : Int32) : (wN a cy I A T).set 0 (a 0, .inr (3, [.ref (a 1), .ref (a 5), .ref (a 6), .int (I 0), .int (I 1), .int (I 2)].set 5 (.int x))) = wN a cy (upd I 2 x) A T := rfl
theorem eN_1 (a : Nat → Nat) (cy : Nat → ClassId) (I : Nat → Int32) (A : Nat → Nat → Int32) (T : Int64) : (wN a cy I A T)[1]? = some (a 1, .inr (6, [.ref (a 2), .ref (a 3), .ref (a 4), .int (I 3), .int (I 4), .int (I 5)])) := rfl
theorem pN_1_3 (a : Nat → Nat) (cy : Nat → ClassId) (I : Nat → Int32) (A : Nat → Nat → Int32) (T : Int64) (x : Int32) : (wN a cy I A T).set 1 (a 1, .inr (6, [.ref (a 2), .ref (a 3), .ref (a 4), .int (I 3), .int (I 4), .int (I 5)].set 3 (.int x))) = wN a cy (upd I 3 x) A T := rfl
theorem pN_1_4 (a : Nat → Nat) (cy : Nat → ClassId) (I : Nat → Int32) (A : Nat → Nat → Int32) (T : Int64) (x : Int32) : (wN a cy I A T).set 1 (a 1, .inr (6, [.ref (a 2), .ref (a 3), .ref (a 4), .int (I 3), .int (I 4), .int (I 5)].set 4 (.int x))) = wN a cy (upd I 4 x) A T := rfl
theorem pN_1_5 (a : Nat → Nat) (cy : Nat → ClassId) (I : Nat → Int32) (A : Nat → Nat → Int32) (T : Int64) (x : Int32) : (wN a cy I A T).set 1 (a 1, .inr (6, [.ref (a 2), .ref (a 3), .ref (a 4), .int (I 3), .int (I 4), .int (I 5)].set 5 (.int x))) = wN a cy (upd I 5 x) A T := rfl
theorem eN_2 (a : Nat → Nat) (cy : Nat → ClassId) (I : Nat → Int32) (A : Nat → Nat → Int32) (T : Int64) : (wN a cy I A T)[2]? = some (a 2, .inl (cy 0, 6, .inl (A 0))) := rfl
theorem sN_2 (a : Nat → Nat) (cy : Nat → ClassId) (I : Nat → Int32) (A : Nat → Nat → Int32) (T : Int64) (f : Nat → Int32) : (wN a cy I A T).set 2 (a 2, .inl (cy 0, 6, .inl f)) = wN a cy I (va_up A 0 f) T := rfl
theorem eN_3 (a : Nat → Nat) (cy : Nat → ClassId) (I : Nat → Int32) (A : Nat → Nat → Int32) (T : Int64) : (wN a cy I A T)[3]? = some (a 3, .inl (cy 0, 6, .inl (A 1))) := rfl
theorem sN_3 (a : Nat → Nat) (cy : Nat → ClassId) (I : Nat → Int32) (A : Nat → Nat → Int32) (T : Int64) (f : Nat → Int32) : (wN a cy I A T).set 3 (a 3, .inl (cy 0, 6, .inl f)) = wN a cy I (va_up A 1 f) T := rfl
theorem eN_4 (a : Nat → Nat) (cy : Nat → ClassId) (I : Nat → Int32) (A : Nat → Nat → Int32) (T : Int64) : (wN a cy I A T)[4]? = some (a 4, .inl (cy 0, 6, .inl (A 2))) := rfl
theorem sN_4 (a : Nat → Nat) (cy : Nat → ClassId) (I : Nat → Int32) (A : Nat → Nat → Int32) (T : Int64) (f : Nat → Int32) : (wN a cy I A T).set 4 (a 4, .inl (cy 0, 6, .inl f)) = wN a cy I (va_up A 2 f) T := rfl
theorem eN_5 (a : Nat → Nat) (cy : Nat → ClassId) (I : Nat → Int32) (A : Nat → Nat → Int32) (T : Int64) : (wN a cy I A T)[5]? = some (a 5, .inl (cy 0, 6, .inl (A 3))) := rfl
theorem sN_5 (a : Nat → Nat) (cy : Nat → ClassId) (I : Nat → Int32) (A : Nat → Nat → Int32) (T : Int64) (f : Nat → Int32) : (wN a cy I A T).set 5 (a 5, .inl (cy 0, 6, .inl f)) = wN a cy I (va_up A 3 f) T := rfl
theorem eN_6 (a : Nat → Nat) (cy : Nat → ClassId) (I : Nat → Int32) (A : Nat → Nat → Int32) (T : Int64) : (wN a cy I A T)[6]? = some (a 6, .inl (cy 0, 6, .inl (A 4))) := rfl
theorem sN_6 (a : Nat → Nat) (cy : Nat → ClassId) (I : Nat → Int32) (A : Nat → Nat → Int32) (T : Int64) (f : Nat → Int32) : (wN a cy I A T).set 6 (a 6, .inl (cy 0, 6, .inl f)) = wN a cy I (va_up A 4 f) T := rfl
end
section
theorem dX0_init_0 : decode cX0_init 0 = .ok (.aload_n 0, 1) := by decide +kernel
theorem dX0_init_1 : decode cX0_init 1 = .ok (.invokespecial 5, 3) := by decide +kernel
theorem dX0_init_4 : decode cX0_init 4 = .ok (.aload_n 0, 1) := by decide +kernel
theorem dX0_init_5 : decode cX0_init 5 = .ok (.iconst 0, 1) := by decide +kernel
theorem dX0_init_6 : decode cX0_init 6 = .ok (.iload_n 1, 1) := by decide +kernel
theorem dX0_init_7 : decode cX0_init 7 = .ok (.invokestatic 11, 3) := by decide +kernel
theorem dX0_init_10 : decode cX0_init 10 = .ok (.putfield 17, 3) := by decide +kernel
theorem dX0_init_13 : decode cX0_init 13 = .ok (.aload_n 0, 1) := by decide +kernel
theorem dX0_init_14 : decode cX0_init 14 = .ok (.aload_n 0, 1) := by decide +kernel
theorem dX0_init_15 : decode cX0_init 15 = .ok (.getfield 17, 3) := by decide +kernel
theorem dX0_init_18 : decode cX0_init 18 = .ok (.bipush 15, 2) := by decide +kernel
theorem dX0_init_20 : decode cX0_init 20 = .ok (.imul, 1) := by decide +kernel
theorem dX0_init_21 : decode cX0_init 21 = .ok (.newarray .int, 2) := by decide +kernel
theorem dX0_init_23 : decode cX0_init 23 = .ok (.putfield 21, 3) := by decide +kernel
theorem dX0_init_26 : decode cX0_init 26 = .ok (.return_, 1) := by decide +kernel
theorem dX0_put_0 : decode cX0_put 0 = .ok (.iload_n 1, 1) := by decide +kernel
theorem dX0_put_1 : decode cX0_put 1 = .ok (.ifCond .lt 11, 3) := by decide +kernel
theorem dX0_put_4 : decode cX0_put 4 = .ok (.iload_n 1, 1) := by decide +kernel
theorem dX0_put_5 : decode cX0_put 5 = .ok (.aload_n 0, 1) := by decide +kernel
theorem dX0_put_6 : decode cX0_put 6 = .ok (.getfield 17, 3) := by decide +kernel
theorem dX0_put_9 : decode cX0_put 9 = .ok (.if_icmp .lt 4, 3) := by decide +kernel
theorem dX0_put_12 : decode cX0_put 12 = .ok (.return_, 1) := by decide +kernel
theorem dX0_put_13 : decode cX0_put 13 = .ok (.iload_n 1, 1) := by decide +kernel
theorem dX0_put_14 : decode cX0_put 14 = .ok (.bipush 15, 2) := by decide +kernel
theorem dX0_put_16 : decode cX0_put 16 = .ok (.imul, 1) := by decide +kernel
theorem dX0_put_17 : decode cX0_put 17 = .ok (.istore_n 3, 1) := by decide +kernel
theorem dX0_put_18 : decode cX0_put 18 = .ok (.aload_n 0, 1) := by decide +kernel
theorem dX0_put_19 : decode cX0_put 19 = .ok (.getfield 21, 3) := by decide +kernel
theorem dX0_put_22 : decode cX0_put 22 = .ok (.iload_n 3, 1) := by decide +kernel
theorem dX0_put_23 : decode cX0_put 23 = .ok (.aload_n 2, 1) := by decide +kernel
theorem dX0_put_24 : decode cX0_put 24 = .ok (.getfield 25, 3) := by decide +kernel
theorem dX0_put_27 : decode cX0_put 27 = .ok (.iastore, 1) := by decide +kernel
theorem dX0_put_28 : decode cX0_put 28 = .ok (.aload_n 0, 1) := by decide +kernel
theorem dX0_put_29 : decode cX0_put 29 = .ok (.getfield 21, 3) := by decide +kernel
theorem dX0_put_32 : decode cX0_put 32 = .ok (.iload_n 3, 1) := by decide +kernel
theorem dX0_put_33 : decode cX0_put 33 = .ok (.iconst 1, 1) := by decide +kernel
theorem dX0_put_34 : decode cX0_put 34 = .ok (.iadd, 1) := by decide +kernel
theorem dX0_put_35 : decode cX0_put 35 = .ok (.aload_n 2, 1) := by decide +kernel
theorem dX0_put_36 : decode cX0_put 36 = .ok (.getfield 30, 3) := by decide +kernel
theorem dX0_put_39 : decode cX0_put 39 = .ok (.iastore, 1) := by decide +kernel
theorem dX0_put_40 : decode cX0_put 40 = .ok (.aload_n 0, 1) := by decide +kernel
theorem dX0_put_41 : decode cX0_put 41 = .ok (.getfield 21, 3) := by decide +kernel
theorem dX0_put_44 : decode cX0_put 44 = .ok (.iload_n 3, 1) := by decide +kernel
theorem dX0_put_45 : decode cX0_put 45 = .ok (.iconst 2, 1) := by decide +kernel
theorem dX0_put_46 : decode cX0_put 46 = .ok (.iadd, 1) := by decide +kernel
theorem dX0_put_47 : decode cX0_put 47 = .ok (.aload_n 2, 1) := by decide +kernel
theorem dX0_put_48 : decode cX0_put 48 = .ok (.getfield 33, 3) := by decide +kernel
theorem dX0_put_51 : decode cX0_put 51 = .ok (.iastore, 1) := by decide +kernel
theorem dX0_put_52 : decode cX0_put 52 = .ok (.aload_n 2, 1) := by decide +kernel
theorem dX0_put_53 : decode cX0_put 53 = .ok (.getfield 36, 3) := by decide +kernel
theorem dX0_put_56 : decode cX0_put 56 = .ok (.iconst 0, 1) := by decide +kernel
theorem dX0_put_57 : decode cX0_put 57 = .ok (.aload_n 0, 1) := by decide +kernel
theorem dX0_put_58 : decode cX0_put 58 = .ok (.getfield 21, 3) := by decide +kernel
theorem dX0_put_61 : decode cX0_put 61 = .ok (.iload_n 3, 1) := by decide +kernel
theorem dX0_put_62 : decode cX0_put 62 = .ok (.iconst 3, 1) := by decide +kernel
theorem dX0_put_63 : decode cX0_put 63 = .ok (.iadd, 1) := by decide +kernel
theorem dX0_put_64 : decode cX0_put 64 = .ok (.bipush 6, 2) := by decide +kernel
theorem dX0_put_66 : decode cX0_put 66 = .ok (.invokestatic 39, 3) := by decide +kernel
theorem dX0_put_69 : decode cX0_put 69 = .ok (.aload_n 2, 1) := by decide +kernel
theorem dX0_put_70 : decode cX0_put 70 = .ok (.getfield 45, 3) := by decide +kernel
theorem dX0_put_73 : decode cX0_put 73 = .ok (.iconst 0, 1) := by decide +kernel
theorem dX0_put_74 : decode cX0_put 74 = .ok (.aload_n 0, 1) := by decide +kernel
theorem dX0_put_75 : decode cX0_put 75 = .ok (.getfield 21, 3) := by decide +kernel
theorem dX0_put_78 : decode cX0_put 78 = .ok (.iload_n 3, 1) := by decide +kernel
theorem dX0_put_79 : decode cX0_put 79 = .ok (.bipush 9, 2) := by decide +kernel
theorem dX0_put_81 : decode cX0_put 81 = .ok (.iadd, 1) := by decide +kernel
theorem dX0_put_82 : decode cX0_put 82 = .ok (.bipush 6, 2) := by decide +kernel
theorem dX0_put_84 : decode cX0_put 84 = .ok (.invokestatic 39, 3) := by decide +kernel
theorem dX0_put_87 : decode cX0_put 87 = .ok (.return_, 1) := by decide +kernel
theorem dX0_take_0 : decode cX0_take 0 = .ok (.iload_n 1, 1) := by decide +kernel
theorem dX0_take_1 : decode cX0_take 1 = .ok (.ifCond .lt 11, 3) := by decide +kernel
theorem dX0_take_4 : decode cX0_take 4 = .ok (.iload_n 1, 1) := by decide +kernel
theorem dX0_take_5 : decode cX0_take 5 = .ok (.aload_n 0, 1) := by decide +kernel
theorem dX0_take_6 : decode cX0_take 6 = .ok (.getfield 17, 3) := by decide +kernel
theorem dX0_take_9 : decode cX0_take 9 = .ok (.if_icmp .lt 4, 3) := by decide +kernel
theorem dX0_take_12 : decode cX0_take 12 = .ok (.return_, 1) := by decide +kernel
theorem dX0_take_13 : decode cX0_take 13 = .ok (.iload_n 1, 1) := by decide +kernel
theorem dX0_take_14 : decode cX0_take 14 = .ok (.bipush 15, 2) := by decide +kernel
theorem dX0_take_16 : decode cX0_take 16 = .ok (.imul, 1) := by decide +kernel
theorem dX0_take_17 : decode cX0_take 17 = .ok (.istore_n 3, 1) := by decide +kernel
theorem dX0_take_18 : decode cX0_take 18 = .ok (.aload_n 2, 1) := by decide +kernel
theorem dX0_take_19 : decode cX0_take 19 = .ok (.aload_n 0, 1) := by decide +kernel
theorem dX0_take_20 : decode cX0_take 20 = .ok (.getfield 21, 3) := by decide +kernel
theorem dX0_take_23 : decode cX0_take 23 = .ok (.iload_n 3, 1) := by decide +kernel
theorem dX0_take_24 : decode cX0_take 24 = .ok (.iaload, 1) := by decide +kernel
theorem dX0_take_25 : decode cX0_take 25 = .ok (.putfield 25, 3) := by decide +kernel
theorem dX0_take_28 : decode cX0_take 28 = .ok (.aload_n 2, 1) := by decide +kernel
theorem dX0_take_29 : decode cX0_take 29 = .ok (.aload_n 0, 1) := by decide +kernel
theorem dX0_take_30 : decode cX0_take 30 = .ok (.getfield 21, 3) := by decide +kernel
theorem dX0_take_33 : decode cX0_take 33 = .ok (.iload_n 3, 1) := by decide +kernel
theorem dX0_take_34 : decode cX0_take 34 = .ok (.iconst 1, 1) := by decide +kernel
theorem dX0_take_35 : decode cX0_take 35 = .ok (.iadd, 1) := by decide +kernel
theorem dX0_take_36 : decode cX0_take 36 = .ok (.iaload, 1) := by decide +kernel
theorem dX0_take_37 : decode cX0_take 37 = .ok (.putfield 30, 3) := by decide +kernel
theorem dX0_take_40 : decode cX0_take 40 = .ok (.aload_n 2, 1) := by decide +kernel
theorem dX0_take_41 : decode cX0_take 41 = .ok (.aload_n 0, 1) := by decide +kernel
theorem dX0_take_42 : decode cX0_take 42 = .ok (.getfield 21, 3) := by decide +kernel
theorem dX0_take_45 : decode cX0_take 45 = .ok (.iload_n 3, 1) := by decide +kernel
theorem dX0_take_46 : decode cX0_take 46 = .ok (.iconst 2, 1) := by decide +kernel
theorem dX0_take_47 : decode cX0_take 47 = .ok (.iadd, 1) := by decide +kernel
theorem dX0_take_48 : decode cX0_take 48 = .ok (.iaload, 1) := by decide +kernel
theorem dX0_take_49 : decode cX0_take 49 = .ok (.putfield 33, 3) := by decide +kernel
theorem dX0_take_52 : decode cX0_take 52 = .ok (.aload_n 0, 1) := by decide +kernel
theorem dX0_take_53 : decode cX0_take 53 = .ok (.getfield 21, 3) := by decide +kernel
theorem dX0_take_56 : decode cX0_take 56 = .ok (.iload_n 3, 1) := by decide +kernel
theorem dX0_take_57 : decode cX0_take 57 = .ok (.iconst 3, 1) := by decide +kernel
theorem dX0_take_58 : decode cX0_take 58 = .ok (.iadd, 1) := by decide +kernel
theorem dX0_take_59 : decode cX0_take 59 = .ok (.aload_n 2, 1) := by decide +kernel
theorem dX0_take_60 : decode cX0_take 60 = .ok (.getfield 36, 3) := by decide +kernel
theorem dX0_take_63 : decode cX0_take 63 = .ok (.iconst 0, 1) := by decide +kernel
theorem dX0_take_64 : decode cX0_take 64 = .ok (.bipush 6, 2) := by decide +kernel
theorem dX0_take_66 : decode cX0_take 66 = .ok (.invokestatic 39, 3) := by decide +kernel
theorem dX0_take_69 : decode cX0_take 69 = .ok (.aload_n 0, 1) := by decide +kernel
theorem dX0_take_70 : decode cX0_take 70 = .ok (.getfield 21, 3) := by decide +kernel
theorem dX0_take_73 : decode cX0_take 73 = .ok (.iload_n 3, 1) := by decide +kernel
theorem dX0_take_74 : decode cX0_take 74 = .ok (.bipush 9, 2) := by decide +kernel
theorem dX0_take_76 : decode cX0_take 76 = .ok (.iadd, 1) := by decide +kernel
theorem dX0_take_77 : decode cX0_take 77 = .ok (.aload_n 2, 1) := by decide +kernel
theorem dX0_take_78 : decode cX0_take 78 = .ok (.getfield 45, 3) := by decide +kernel
theorem dX0_take_81 : decode cX0_take 81 = .ok (.iconst 0, 1) := by decide +kernel
theorem dX0_take_82 : decode cX0_take 82 = .ok (.bipush 6, 2) := by decide +kernel
theorem dX0_take_84 : decode cX0_take 84 = .ok (.invokestatic 39, 3) := by decide +kernel
theorem dX0_take_87 : decode cX0_take 87 = .ok (.return_, 1) := by decide +kernel
theorem dX1_init_0 : decode cX1_init 0 = .ok (.aload_n 0, 1) := by decide +kernel
theorem dX1_init_1 : decode cX1_init 1 = .ok (.invokespecial 3, 3) := by decide +kernel
theorem dX1_init_4 : decode cX1_init 4 = .ok (.aload_n 0, 1) := by decide +kernel
theorem dX1_init_5 : decode cX1_init 5 = .ok (.bipush 6, 2) := by decide +kernel
theorem dX1_init_7 : decode cX1_init 7 = .ok (.newarray .int, 2) := by decide +kernel
theorem dX1_init_9 : decode cX1_init 9 = .ok (.putfield 9, 3) := by decide +kernel
theorem dX1_init_12 : decode cX1_init 12 = .ok (.aload_n 0, 1) := by decide +kernel
theorem dX1_init_13 : decode cX1_init 13 = .ok (.bipush 6, 2) := by decide +kernel
theorem dX1_init_15 : decode cX1_init 15 = .ok (.newarray .int, 2) := by decide +kernel
theorem dX1_init_17 : decode cX1_init 17 = .ok (.putfield 15, 3) := by decide +kernel
theorem dX1_init_20 : decode cX1_init 20 = .ok (.return_, 1) := by decide +kernel
theorem dX1_add_0 : decode cX1_add 0 = .ok (.aload_n 0, 1) := by decide +kernel
theorem dX1_add_1 : decode cX1_add 1 = .ok (.getfield 18, 3) := by decide +kernel
theorem dX1_add_4 : decode cX1_add 4 = .ok (.bipush 6, 2) := by decide +kernel
theorem dX1_add_6 : decode cX1_add 6 = .ok (.if_icmp .ge 33, 3) := by decide +kernel
theorem dX1_add_9 : decode cX1_add 9 = .ok (.aload_n 0, 1) := by decide +kernel
theorem dX1_add_10 : decode cX1_add 10 = .ok (.getfield 9, 3) := by decide +kernel
theorem dX1_add_13 : decode cX1_add 13 = .ok (.aload_n 0, 1) := by decide +kernel
theorem dX1_add_14 : decode cX1_add 14 = .ok (.getfield 18, 3) := by decide +kernel
theorem dX1_add_17 : decode cX1_add 17 = .ok (.iload_n 1, 1) := by decide +kernel
theorem dX1_add_18 : decode cX1_add 18 = .ok (.iastore, 1) := by decide +kernel
theorem dX1_add_19 : decode cX1_add 19 = .ok (.aload_n 0, 1) := by decide +kernel
theorem dX1_add_20 : decode cX1_add 20 = .ok (.getfield 15, 3) := by decide +kernel
theorem dX1_add_23 : decode cX1_add 23 = .ok (.aload_n 0, 1) := by decide +kernel
theorem dX1_add_24 : decode cX1_add 24 = .ok (.getfield 18, 3) := by decide +kernel
theorem dX1_add_27 : decode cX1_add 27 = .ok (.iload_n 2, 1) := by decide +kernel
theorem dX1_add_28 : decode cX1_add 28 = .ok (.iastore, 1) := by decide +kernel
theorem dX1_add_29 : decode cX1_add 29 = .ok (.aload_n 0, 1) := by decide +kernel
theorem dX1_add_30 : decode cX1_add 30 = .ok (.dup, 1) := by decide +kernel
theorem dX1_add_31 : decode cX1_add 31 = .ok (.getfield 18, 3) := by decide +kernel
theorem dX1_add_34 : decode cX1_add 34 = .ok (.iconst 1, 1) := by decide +kernel
theorem dX1_add_35 : decode cX1_add 35 = .ok (.iadd, 1) := by decide +kernel
theorem dX1_add_36 : decode cX1_add 36 = .ok (.putfield 18, 3) := by decide +kernel
theorem dX1_add_39 : decode cX1_add 39 = .ok (.return_, 1) := by decide +kernel
set_option maxRecDepth 20000 in
theorem ggX1_whoFits_X1_fits : GoodIn wsX1_whoFits wsX1_fits := goodIn_r _ [7, 8, 9, 10, 11, 12, 13, 14, 15, 16, 17, 18, 19, 20, 21, 22, 23, 24, 25, 26, 27, 28, 29, 30, 43, 44, 45, 31, 32, 33, 34, 35, 36, 37, 38, 39, 40, 41, 42] (by decide +kernel) (by decide +kernel)
set_option maxRecDepth 20000 in
theorem gX1_whoFits_X1_fits : GoodIn wsX1_whoFits (wsV RX1 33 RX1 yX1_fits wsX1_fits) := goodIn_app (goodIn_of _ (by decide +kernel)) ggX1_whoFits_X1_fits
theorem dX1_whoFits_0 : decode cX1_whoFits 0 = .ok (.iconst 0, 1) := by decide +kernel
theorem dX1_whoFits_1 : decode cX1_whoFits 1 = .ok (.istore_n 2, 1) := by decide +kernel
theorem dX1_whoFits_2 : decode cX1_whoFits 2 = .ok (.iconst 0, 1) := by decide +kernel
theorem dX1_whoFits_3 : decode cX1_whoFits 3 = .ok (.istore_n 3, 1) := by decide +kernel
theorem dX1_whoFits_4 : decode cX1_whoFits 4 = .ok (.iload_n 3, 1) := by decide +kernel
theorem dX1_whoFits_5 : decode cX1_whoFits 5 = .ok (.aload_n 1, 1) := by decide +kernel
theorem dX1_whoFits_6 : decode cX1_whoFits 6 = .ok (.getfield 22, 3) := by decide +kernel
theorem dX1_whoFits_9 : decode cX1_whoFits 9 = .ok (.getfield 28, 3) := by decide +kernel
theorem dX1_whoFits_12 : decode cX1_whoFits 12 = .ok (.if_icmp .ge 24, 3) := by decide +kernel
theorem dX1_whoFits_15 : decode cX1_whoFits 15 = .ok (.aload_n 0, 1) := by decide +kernel
theorem dX1_whoFits_16 : decode cX1_whoFits 16 = .ok (.aload_n 1, 1) := by decide +kernel
theorem dX1_whoFits_17 : decode cX1_whoFits 17 = .ok (.iload_n 3, 1) := by decide +kernel
theorem dX1_whoFits_18 : decode cX1_whoFits 18 = .ok (.invokevirtual 33, 3) := by decide +kernel
theorem dX1_whoFits_21 : decode cX1_whoFits 21 = .ok (.ifCond .eq 9, 3) := by decide +kernel
theorem dX1_whoFits_24 : decode cX1_whoFits 24 = .ok (.iload_n 2, 1) := by decide +kernel
theorem dX1_whoFits_25 : decode cX1_whoFits 25 = .ok (.iconst 1, 1) := by decide +kernel
theorem dX1_whoFits_26 : decode cX1_whoFits 26 = .ok (.iload_n 3, 1) := by decide +kernel
theorem dX1_whoFits_27 : decode cX1_whoFits 27 = .ok (.ishl, 1) := by decide +kernel
theorem dX1_whoFits_28 : decode cX1_whoFits 28 = .ok (.ior, 1) := by decide +kernel
theorem dX1_whoFits_29 : decode cX1_whoFits 29 = .ok (.istore_n 2, 1) := by decide +kernel
theorem dX1_whoFits_30 : decode cX1_whoFits 30 = .ok (.iinc 3 1, 3) := by decide +kernel
theorem dX1_whoFits_33 : decode cX1_whoFits 33 = .ok (.goto (-29), 3) := by decide +kernel
theorem dX1_whoFits_36 : decode cX1_whoFits 36 = .ok (.iload_n 2, 1) := by decide +kernel
theorem dX1_whoFits_37 : decode cX1_whoFits 37 = .ok (.ireturn, 1) := by decide +kernel
set_option maxRecDepth 20000 in
theorem ggX1_fits_X3_soundIn : GoodIn wsX1_fits wsX3_soundIn := goodIn_r _ [8, 9, 10, 11, 12, 13, 14, 15, 16, 7, 17, 18, 19, 20, 21, 22, 23, 27, 28, 29, 30, 31, 32, 33, 34, 35, 36, 37, 38] (by decide +kernel) (by decide +kernel)
set_option maxRecDepth 20000 in
theorem gX1_fits_X3_soundIn : GoodIn wsX1_fits (wsV RX1 37 RX3 yX3_soundIn wsX3_soundIn) := goodIn_app (goodIn_of _ (by decide +kernel)) ggX1_fits_X3_soundIn
theorem dX1_fits_0 : decode cX1_fits 0 = .ok (.iconst 0, 1) := by decide +kernel
theorem dX1_fits_1 : decode cX1_fits 1 = .ok (.istore_n 3, 1) := by decide +kernel
theorem dX1_fits_2 : decode cX1_fits 2 = .ok (.iload_n 3, 1) := by decide +kernel
theorem dX1_fits_3 : decode cX1_fits 3 = .ok (.aload_n 0, 1) := by decide +kernel
theorem dX1_fits_4 : decode cX1_fits 4 = .ok (.getfield 18, 3) := by decide +kernel
theorem dX1_fits_7 : decode cX1_fits 7 = .ok (.if_icmp .ge 37, 3) := by decide +kernel
theorem dX1_fits_10 : decode cX1_fits 10 = .ok (.iload_n 3, 1) := by decide +kernel
theorem dX1_fits_11 : decode cX1_fits 11 = .ok (.bipush 6, 2) := by decide +kernel
theorem dX1_fits_13 : decode cX1_fits 13 = .ok (.if_icmp .ge 31, 3) := by decide +kernel
theorem dX1_fits_16 : decode cX1_fits 16 = .ok (.aload_n 1, 1) := by decide +kernel
theorem dX1_fits_17 : decode cX1_fits 17 = .ok (.iload_n 2, 1) := by decide +kernel
theorem dX1_fits_18 : decode cX1_fits 18 = .ok (.aload_n 0, 1) := by decide +kernel
theorem dX1_fits_19 : decode cX1_fits 19 = .ok (.getfield 9, 3) := by decide +kernel
theorem dX1_fits_22 : decode cX1_fits 22 = .ok (.iload_n 3, 1) := by decide +kernel
theorem dX1_fits_23 : decode cX1_fits 23 = .ok (.iaload, 1) := by decide +kernel
theorem dX1_fits_24 : decode cX1_fits 24 = .ok (.invokevirtual 37, 3) := by decide +kernel
theorem dX1_fits_27 : decode cX1_fits 27 = .ok (.aload_n 0, 1) := by decide +kernel
theorem dX1_fits_28 : decode cX1_fits 28 = .ok (.getfield 15, 3) := by decide +kernel
theorem dX1_fits_31 : decode cX1_fits 31 = .ok (.iload_n 3, 1) := by decide +kernel
theorem dX1_fits_32 : decode cX1_fits 32 = .ok (.iaload, 1) := by decide +kernel
theorem dX1_fits_33 : decode cX1_fits 33 = .ok (.if_icmp .eq 5, 3) := by decide +kernel
theorem dX1_fits_36 : decode cX1_fits 36 = .ok (.iconst 0, 1) := by decide +kernel
theorem dX1_fits_37 : decode cX1_fits 37 = .ok (.ireturn, 1) := by decide +kernel
theorem dX1_fits_38 : decode cX1_fits 38 = .ok (.iinc 3 1, 3) := by decide +kernel
theorem dX1_fits_41 : decode cX1_fits 41 = .ok (.goto (-39), 3) := by decide +kernel
theorem dX1_fits_44 : decode cX1_fits 44 = .ok (.iconst 1, 1) := by decide +kernel
theorem dX1_fits_45 : decode cX1_fits 45 = .ok (.ireturn, 1) := by decide +kernel
theorem dX2_init_0 : decode cX2_init 0 = .ok (.aload_n 0, 1) := by decide +kernel
theorem dX2_init_1 : decode cX2_init 1 = .ok (.invokespecial 3, 3) := by decide +kernel
theorem dX2_init_4 : decode cX2_init 4 = .ok (.aload_n 0, 1) := by decide +kernel
theorem dX2_init_5 : decode cX2_init 5 = .ok (.bipush 6, 2) := by decide +kernel
theorem dX2_init_7 : decode cX2_init 7 = .ok (.newarray .int, 2) := by decide +kernel
theorem dX2_init_9 : decode cX2_init 9 = .ok (.putfield 9, 3) := by decide +kernel
theorem dX2_init_12 : decode cX2_init 12 = .ok (.aload_n 0, 1) := by decide +kernel
theorem dX2_init_13 : decode cX2_init 13 = .ok (.bipush 30, 2) := by decide +kernel
theorem dX2_init_15 : decode cX2_init 15 = .ok (.newarray .int, 2) := by decide +kernel
theorem dX2_init_17 : decode cX2_init 17 = .ok (.putfield 15, 3) := by decide +kernel
theorem dX2_init_20 : decode cX2_init 20 = .ok (.aload_n 0, 1) := by decide +kernel
theorem dX2_init_21 : decode cX2_init 21 = .ok (.aload_n 1, 1) := by decide +kernel
theorem dX2_init_22 : decode cX2_init 22 = .ok (.putfield 18, 3) := by decide +kernel
theorem dX2_init_25 : decode cX2_init 25 = .ok (.return_, 1) := by decide +kernel
set_option maxRecDepth 20000 in
theorem ggX2_mostHours_X2_lookAtNight : GoodIn wsX2_mostHours wsX2_lookAtNight := goodIn_r _ [7, 1, 8, 9, 10, 11, 12, 13, 14, 15, 16, 17, 18, 19, 20, 21, 22, 23, 24, 25, 26, 48, 49, 50, 51, 52, 53, 54, 55, 56, 57, 58, 59, 60, 61, 62] (by decide +kernel) (by decide +kernel)
set_option maxRecDepth 20000 in
theorem gX2_mostHours_X2_lookAtNight : GoodIn wsX2_mostHours (wsV RX2 22 RX2 yX2_lookAtNight wsX2_lookAtNight) := goodIn_app (goodIn_of _ (by decide +kernel)) ggX2_mostHours_X2_lookAtNight
set_option maxRecDepth 20000 in
theorem ggX2_mostHours_X2_mostFrom : GoodIn wsX2_mostHours wsX2_mostFrom := goodIn_r _ [30, 1, 8, 9, 31, 24, 25, 26, 32, 33, 34, 6, 35, 36, 37, 38, 39, 13, 10, 40, 41, 42, 18, 43, 20, 44, 45, 46, 47, 27, 28, 29, 48, 49, 50, 51, 52, 53, 54, 55, 56, 57, 58, 59, 60, 61, 62] (by decide +kernel) (by decide +kernel)
set_option maxRecDepth 20000 in
theorem gX2_mostHours_X2_mostFrom : GoodIn wsX2_mostHours (wsV RX2 31 RX2 yX2_mostFrom wsX2_mostFrom) := goodIn_app (goodIn_of _ (by decide +kernel)) ggX2_mostHours_X2_mostFrom
theorem dX2_mostHours_0 : decode cX2_mostHours 0 = .ok (.aload_n 0, 1) := by decide +kernel
theorem dX2_mostHours_1 : decode cX2_mostHours 1 = .ok (.invokevirtual 22, 3) := by decide +kernel
theorem dX2_mostHours_4 : decode cX2_mostHours 4 = .ok (.aload_n 0, 1) := by decide +kernel
theorem dX2_mostHours_5 : decode cX2_mostHours 5 = .ok (.iconst 0, 1) := by decide +kernel
theorem dX2_mostHours_6 : decode cX2_mostHours 6 = .ok (.aload_n 0, 1) := by decide +kernel
theorem dX2_mostHours_7 : decode cX2_mostHours 7 = .ok (.getfield 18, 3) := by decide +kernel
theorem dX2_mostHours_10 : decode cX2_mostHours 10 = .ok (.getfield 25, 3) := by decide +kernel
theorem dX2_mostHours_13 : decode cX2_mostHours 13 = .ok (.invokevirtual 31, 3) := by decide +kernel
theorem dX2_mostHours_16 : decode cX2_mostHours 16 = .ok (.ireturn, 1) := by decide +kernel
set_option maxRecDepth 20000 in
theorem ggX2_first_X2_mostHours : GoodIn wsX2_first wsX2_mostHours := goodIn_r _ [9, 1, 4, 10, 11, 12, 8, 13, 2, 3, 14, 15, 16, 17, 18, 19, 20, 21, 22, 23, 24, 25, 26, 27, 28, 29, 30, 31, 32, 33, 34, 35, 36, 37, 38, 39, 40, 41, 42, 43, 44, 45, 46, 47, 48, 49, 50, 51, 52, 53, 54, 55, 56, 57, 58, 59, 60, 61, 62, 63, 64, 65, 66] (by decide +kernel) (by decide +kernel)
set_option maxRecDepth 20000 in
theorem gX2_first_X2_mostHours : GoodIn wsX2_first (wsV RX2 35 RX2 yX2_mostHours wsX2_mostHours) := goodIn_app (goodIn_of _ (by decide +kernel)) ggX2_first_X2_mostHours
set_option maxRecDepth 20000 in
theorem ggX2_first_X2_mostByFilling : GoodIn wsX2_first wsX2_mostByFilling := goodIn_r _ [39, 40, 41, 42, 8, 43, 1, 2, 3, 17, 14, 44, 45, 46, 22, 47, 24, 48, 49, 50, 29, 51, 31, 32, 33, 34, 35, 28, 30, 36, 37, 38, 52, 53, 54, 55, 56, 57, 58, 59, 60, 61, 62, 63, 64, 65, 66] (by decide +kernel) (by decide +kernel)
set_option maxRecDepth 20000 in
theorem gX2_first_X2_mostByFilling : GoodIn wsX2_first (wsV RX2 48 RX2 yX2_mostByFilling wsX2_mostByFilling) := goodIn_app (goodIn_of _ (by decide +kernel)) ggX2_first_X2_mostByFilling
theorem dX2_first_0 : decode cX2_first 0 = .ok (.aload_n 0, 1) := by decide +kernel
theorem dX2_first_1 : decode cX2_first 1 = .ok (.invokevirtual 35, 3) := by decide +kernel
theorem dX2_first_4 : decode cX2_first 4 = .ok (.istore_n 1, 1) := by decide +kernel
theorem dX2_first_5 : decode cX2_first 5 = .ok (.iload_n 1, 1) := by decide +kernel
theorem dX2_first_6 : decode cX2_first 6 = .ok (.ifCond .ne 6, 3) := by decide +kernel
theorem dX2_first_9 : decode cX2_first 9 = .ok (.bipush (-9), 2) := by decide +kernel
theorem dX2_first_11 : decode cX2_first 11 = .ok (.ireturn, 1) := by decide +kernel
theorem dX2_first_12 : decode cX2_first 12 = .ok (.iconst 0, 1) := by decide +kernel
theorem dX2_first_13 : decode cX2_first 13 = .ok (.istore_n 2, 1) := by decide +kernel
theorem dX2_first_14 : decode cX2_first 14 = .ok (.iload_n 2, 1) := by decide +kernel
theorem dX2_first_15 : decode cX2_first 15 = .ok (.aload_n 0, 1) := by decide +kernel
theorem dX2_first_16 : decode cX2_first 16 = .ok (.getfield 18, 3) := by decide +kernel
theorem dX2_first_19 : decode cX2_first 19 = .ok (.getfield 39, 3) := by decide +kernel
theorem dX2_first_22 : decode cX2_first 22 = .ok (.getfield 43, 3) := by decide +kernel
theorem dX2_first_25 : decode cX2_first 25 = .ok (.if_icmp .ge 28, 3) := by decide +kernel
theorem dX2_first_28 : decode cX2_first 28 = .ok (.aload_n 0, 1) := by decide +kernel
theorem dX2_first_29 : decode cX2_first 29 = .ok (.iload_n 2, 1) := by decide +kernel
theorem dX2_first_30 : decode cX2_first 30 = .ok (.iconst 0, 1) := by decide +kernel
theorem dX2_first_31 : decode cX2_first 31 = .ok (.aload_n 0, 1) := by decide +kernel
theorem dX2_first_32 : decode cX2_first 32 = .ok (.getfield 18, 3) := by decide +kernel
theorem dX2_first_35 : decode cX2_first 35 = .ok (.getfield 25, 3) := by decide +kernel
theorem dX2_first_38 : decode cX2_first 38 = .ok (.invokevirtual 48, 3) := by decide +kernel
theorem dX2_first_41 : decode cX2_first 41 = .ok (.iload_n 1, 1) := by decide +kernel
theorem dX2_first_42 : decode cX2_first 42 = .ok (.if_icmp .ne 5, 3) := by decide +kernel
theorem dX2_first_45 : decode cX2_first 45 = .ok (.iload_n 2, 1) := by decide +kernel
theorem dX2_first_46 : decode cX2_first 46 = .ok (.ireturn, 1) := by decide +kernel
theorem dX2_first_47 : decode cX2_first 47 = .ok (.iinc 2 1, 3) := by decide +kernel
theorem dX2_first_50 : decode cX2_first 50 = .ok (.goto (-36), 3) := by decide +kernel
theorem dX2_first_53 : decode cX2_first 53 = .ok (.bipush 6, 2) := by decide +kernel
theorem dX2_first_55 : decode cX2_first 55 = .ok (.ireturn, 1) := by decide +kernel
set_option maxRecDepth 20000 in
theorem ggX2_lookAtNight_X3_loss : GoodIn wsX2_lookAtNight wsX3_loss := goodIn_r _ [13, 14, 15, 16, 17, 18, 19, 20, 24, 25, 26, 27, 28, 29, 30, 31, 32, 33, 34, 35] (by decide +kernel) (by decide +kernel)
set_option maxRecDepth 20000 in
theorem gX2_lookAtNight_X3_loss : GoodIn wsX2_lookAtNight (wsV RX2 58 RX3 yX3_loss wsX3_loss) := goodIn_app (goodIn_of _ (by decide +kernel)) ggX2_lookAtNight_X3_loss
theorem dX2_lookAtNight_0 : decode cX2_lookAtNight 0 = .ok (.iconst 0, 1) := by decide +kernel
theorem dX2_lookAtNight_1 : decode cX2_lookAtNight 1 = .ok (.istore_n 1, 1) := by decide +kernel
theorem dX2_lookAtNight_2 : decode cX2_lookAtNight 2 = .ok (.iload_n 1, 1) := by decide +kernel
theorem dX2_lookAtNight_3 : decode cX2_lookAtNight 3 = .ok (.aload_n 0, 1) := by decide +kernel
theorem dX2_lookAtNight_4 : decode cX2_lookAtNight 4 = .ok (.getfield 18, 3) := by decide +kernel
theorem dX2_lookAtNight_7 : decode cX2_lookAtNight 7 = .ok (.getfield 39, 3) := by decide +kernel
theorem dX2_lookAtNight_10 : decode cX2_lookAtNight 10 = .ok (.getfield 43, 3) := by decide +kernel
theorem dX2_lookAtNight_13 : decode cX2_lookAtNight 13 = .ok (.if_icmp .ge 52, 3) := by decide +kernel
theorem dX2_lookAtNight_16 : decode cX2_lookAtNight 16 = .ok (.aload_n 0, 1) := by decide +kernel
theorem dX2_lookAtNight_17 : decode cX2_lookAtNight 17 = .ok (.getfield 9, 3) := by decide +kernel
theorem dX2_lookAtNight_20 : decode cX2_lookAtNight 20 = .ok (.iload_n 1, 1) := by decide +kernel
theorem dX2_lookAtNight_21 : decode cX2_lookAtNight 21 = .ok (.aload_n 0, 1) := by decide +kernel
theorem dX2_lookAtNight_22 : decode cX2_lookAtNight 22 = .ok (.getfield 18, 3) := by decide +kernel
theorem dX2_lookAtNight_25 : decode cX2_lookAtNight 25 = .ok (.iload_n 1, 1) := by decide +kernel
theorem dX2_lookAtNight_26 : decode cX2_lookAtNight 26 = .ok (.aload_n 0, 1) := by decide +kernel
theorem dX2_lookAtNight_27 : decode cX2_lookAtNight 27 = .ok (.getfield 18, 3) := by decide +kernel
theorem dX2_lookAtNight_30 : decode cX2_lookAtNight 30 = .ok (.getfield 52, 3) := by decide +kernel
theorem dX2_lookAtNight_33 : decode cX2_lookAtNight 33 = .ok (.aload_n 0, 1) := by decide +kernel
theorem dX2_lookAtNight_34 : decode cX2_lookAtNight 34 = .ok (.getfield 18, 3) := by decide +kernel
theorem dX2_lookAtNight_37 : decode cX2_lookAtNight 37 = .ok (.getfield 55, 3) := by decide +kernel
theorem dX2_lookAtNight_40 : decode cX2_lookAtNight 40 = .ok (.invokevirtual 58, 3) := by decide +kernel
theorem dX2_lookAtNight_43 : decode cX2_lookAtNight 43 = .ok (.iastore, 1) := by decide +kernel
theorem dX2_lookAtNight_44 : decode cX2_lookAtNight 44 = .ok (.aload_n 0, 1) := by decide +kernel
theorem dX2_lookAtNight_45 : decode cX2_lookAtNight 45 = .ok (.getfield 15, 3) := by decide +kernel
theorem dX2_lookAtNight_48 : decode cX2_lookAtNight 48 = .ok (.iload_n 1, 1) := by decide +kernel
theorem dX2_lookAtNight_49 : decode cX2_lookAtNight 49 = .ok (.aload_n 0, 1) := by decide +kernel
theorem dX2_lookAtNight_50 : decode cX2_lookAtNight 50 = .ok (.getfield 18, 3) := by decide +kernel
theorem dX2_lookAtNight_53 : decode cX2_lookAtNight 53 = .ok (.getfield 61, 3) := by decide +kernel
theorem dX2_lookAtNight_56 : decode cX2_lookAtNight 56 = .ok (.iload_n 1, 1) := by decide +kernel
theorem dX2_lookAtNight_57 : decode cX2_lookAtNight 57 = .ok (.iaload, 1) := by decide +kernel
theorem dX2_lookAtNight_58 : decode cX2_lookAtNight 58 = .ok (.iastore, 1) := by decide +kernel
theorem dX2_lookAtNight_59 : decode cX2_lookAtNight 59 = .ok (.iinc 1 1, 3) := by decide +kernel
theorem dX2_lookAtNight_62 : decode cX2_lookAtNight 62 = .ok (.goto (-60), 3) := by decide +kernel
theorem dX2_lookAtNight_65 : decode cX2_lookAtNight 65 = .ok (.return_, 1) := by decide +kernel
set_option maxRecDepth 20000 in
theorem ggX2_mostFrom_X2_mostByFilling : GoodIn wsX2_mostFrom wsX2_mostByFilling := goodIn_r _ [12, 13, 14, 15, 11, 16, 1, 2, 3, 17, 18, 19, 20, 21, 22, 23, 24, 25, 26, 27, 6, 28, 29, 30, 31, 0, 4, 5, 7, 8, 9, 10, 32, 33, 34, 35, 36, 37, 38, 39, 40, 41, 42, 43, 44, 45, 46] (by decide +kernel) (by decide +kernel)
set_option maxRecDepth 20000 in
theorem gX2_mostFrom_X2_mostByFilling : GoodIn wsX2_mostFrom (wsV RX2 48 RX2 yX2_mostByFilling wsX2_mostByFilling) := goodIn_app (goodIn_of _ (by decide +kernel)) ggX2_mostFrom_X2_mostByFilling
theorem dX2_mostFrom_0 : decode cX2_mostFrom 0 = .ok (.iload_n 1, 1) := by decide +kernel
theorem dX2_mostFrom_1 : decode cX2_mostFrom 1 = .ok (.iconst 4, 1) := by decide +kernel
theorem dX2_mostFrom_2 : decode cX2_mostFrom 2 = .ok (.if_icmp .lt 5, 3) := by decide +kernel
theorem dX2_mostFrom_5 : decode cX2_mostFrom 5 = .ok (.iconst 4, 1) := by decide +kernel
theorem dX2_mostFrom_6 : decode cX2_mostFrom 6 = .ok (.ireturn, 1) := by decide +kernel
theorem dX2_mostFrom_7 : decode cX2_mostFrom 7 = .ok (.aload_n 0, 1) := by decide +kernel
theorem dX2_mostFrom_8 : decode cX2_mostFrom 8 = .ok (.bipush 6, 2) := by decide +kernel
theorem dX2_mostFrom_10 : decode cX2_mostFrom 10 = .ok (.iload_n 1, 1) := by decide +kernel
theorem dX2_mostFrom_11 : decode cX2_mostFrom 11 = .ok (.iload_n 2, 1) := by decide +kernel
theorem dX2_mostFrom_12 : decode cX2_mostFrom 12 = .ok (.invokevirtual 48, 3) := by decide +kernel
theorem dX2_mostFrom_15 : decode cX2_mostFrom 15 = .ok (.istore_n 3, 1) := by decide +kernel
theorem dX2_mostFrom_16 : decode cX2_mostFrom 16 = .ok (.iconst 0, 1) := by decide +kernel
theorem dX2_mostFrom_17 : decode cX2_mostFrom 17 = .ok (.istore 4, 2) := by decide +kernel
theorem dX2_mostFrom_19 : decode cX2_mostFrom 19 = .ok (.iload 4, 2) := by decide +kernel
theorem dX2_mostFrom_21 : decode cX2_mostFrom 21 = .ok (.aload_n 0, 1) := by decide +kernel
theorem dX2_mostFrom_22 : decode cX2_mostFrom 22 = .ok (.getfield 18, 3) := by decide +kernel
theorem dX2_mostFrom_25 : decode cX2_mostFrom 25 = .ok (.getfield 39, 3) := by decide +kernel
theorem dX2_mostFrom_28 : decode cX2_mostFrom 28 = .ok (.getfield 43, 3) := by decide +kernel
theorem dX2_mostFrom_31 : decode cX2_mostFrom 31 = .ok (.if_icmp .ge 27, 3) := by decide +kernel
theorem dX2_mostFrom_34 : decode cX2_mostFrom 34 = .ok (.iload_n 3, 1) := by decide +kernel
theorem dX2_mostFrom_35 : decode cX2_mostFrom 35 = .ok (.iconst 4, 1) := by decide +kernel
theorem dX2_mostFrom_36 : decode cX2_mostFrom 36 = .ok (.if_icmp .ge 22, 3) := by decide +kernel
theorem dX2_mostFrom_39 : decode cX2_mostFrom 39 = .ok (.iload_n 3, 1) := by decide +kernel
theorem dX2_mostFrom_40 : decode cX2_mostFrom 40 = .ok (.aload_n 0, 1) := by decide +kernel
theorem dX2_mostFrom_41 : decode cX2_mostFrom 41 = .ok (.iload 4, 2) := by decide +kernel
theorem dX2_mostFrom_43 : decode cX2_mostFrom 43 = .ok (.iload_n 1, 1) := by decide +kernel
theorem dX2_mostFrom_44 : decode cX2_mostFrom 44 = .ok (.iload_n 2, 1) := by decide +kernel
theorem dX2_mostFrom_45 : decode cX2_mostFrom 45 = .ok (.invokevirtual 48, 3) := by decide +kernel
theorem dX2_mostFrom_48 : decode cX2_mostFrom 48 = .ok (.invokestatic 62, 3) := by decide +kernel
theorem dX2_mostFrom_51 : decode cX2_mostFrom 51 = .ok (.istore_n 3, 1) := by decide +kernel
theorem dX2_mostFrom_52 : decode cX2_mostFrom 52 = .ok (.iinc 4 1, 3) := by decide +kernel
theorem dX2_mostFrom_55 : decode cX2_mostFrom 55 = .ok (.goto (-36), 3) := by decide +kernel
theorem dX2_mostFrom_58 : decode cX2_mostFrom 58 = .ok (.iload_n 3, 1) := by decide +kernel
theorem dX2_mostFrom_59 : decode cX2_mostFrom 59 = .ok (.ireturn, 1) := by decide +kernel
set_option maxRecDepth 20000 in
theorem ggX2_mostByFilling_X2_staysWarmByFilling : GoodIn wsX2_mostByFilling wsX2_staysWarmByFilling := goodIn_r _ [5, 6, 7, 8, 9, 10, 11, 12, 13, 14, 15, 16, 17, 18, 19, 20, 21, 32, 33, 34, 35, 36, 37, 38, 39, 40, 41, 42, 43, 44, 45, 46] (by decide +kernel) (by decide +kernel)
set_option maxRecDepth 20000 in
theorem gX2_mostByFilling_X2_staysWarmByFilling : GoodIn wsX2_mostByFilling (wsV RX2 67 RX2 yX2_staysWarmByFilling wsX2_staysWarmByFilling) := goodIn_app (goodIn_of _ (by decide +kernel)) ggX2_mostByFilling_X2_staysWarmByFilling
set_option maxRecDepth 20000 in
theorem ggX2_mostByFilling_X2_mostFrom : GoodIn wsX2_mostByFilling wsX2_mostFrom := goodIn_r _ [25, 6, 7, 8, 26, 27, 20, 28, 29, 30, 31, 4, 0, 1, 2, 3, 5, 9, 10, 11, 12, 13, 14, 15, 16, 17, 18, 19, 21, 22, 23, 24, 32, 33, 34, 35, 36, 37, 38, 39, 40, 41, 42, 43, 44, 45, 46] (by decide +kernel) (by decide +kernel)
set_option maxRecDepth 20000 in
theorem gX2_mostByFilling_X2_mostFrom : GoodIn wsX2_mostByFilling (wsV RX2 31 RX2 yX2_mostFrom wsX2_mostFrom) := goodIn_app (goodIn_of _ (by decide +kernel)) ggX2_mostByFilling_X2_mostFrom
theorem dX2_mostByFilling_0 : decode cX2_mostByFilling 0 = .ok (.iload_n 1, 1) := by decide +kernel
theorem dX2_mostByFilling_1 : decode cX2_mostByFilling 1 = .ok (.bipush 6, 2) := by decide +kernel
theorem dX2_mostByFilling_3 : decode cX2_mostByFilling 3 = .ok (.if_icmp .ne 7, 3) := by decide +kernel
theorem dX2_mostByFilling_6 : decode cX2_mostByFilling 6 = .ok (.iconst 0, 1) := by decide +kernel
theorem dX2_mostByFilling_7 : decode cX2_mostByFilling 7 = .ok (.goto 4, 3) := by decide +kernel
theorem dX2_mostByFilling_10 : decode cX2_mostByFilling 10 = .ok (.iconst 1, 1) := by decide +kernel
theorem dX2_mostByFilling_11 : decode cX2_mostByFilling 11 = .ok (.istore 4, 2) := by decide +kernel
theorem dX2_mostByFilling_13 : decode cX2_mostByFilling 13 = .ok (.iload_n 3, 1) := by decide +kernel
theorem dX2_mostByFilling_14 : decode cX2_mostByFilling 14 = .ok (.iload 4, 2) := by decide +kernel
theorem dX2_mostByFilling_16 : decode cX2_mostByFilling 16 = .ok (.if_icmp .lt 12, 3) := by decide +kernel
theorem dX2_mostByFilling_19 : decode cX2_mostByFilling 19 = .ok (.aload_n 0, 1) := by decide +kernel
theorem dX2_mostByFilling_20 : decode cX2_mostByFilling 20 = .ok (.iload_n 1, 1) := by decide +kernel
theorem dX2_mostByFilling_21 : decode cX2_mostByFilling 21 = .ok (.iload_n 2, 1) := by decide +kernel
theorem dX2_mostByFilling_22 : decode cX2_mostByFilling 22 = .ok (.invokevirtual 67, 3) := by decide +kernel
theorem dX2_mostByFilling_25 : decode cX2_mostByFilling 25 = .ok (.ifCond .ne 5, 3) := by decide +kernel
theorem dX2_mostByFilling_28 : decode cX2_mostByFilling 28 = .ok (.iload_n 2, 1) := by decide +kernel
theorem dX2_mostByFilling_29 : decode cX2_mostByFilling 29 = .ok (.ireturn, 1) := by decide +kernel
theorem dX2_mostByFilling_30 : decode cX2_mostByFilling 30 = .ok (.aload_n 0, 1) := by decide +kernel
theorem dX2_mostByFilling_31 : decode cX2_mostByFilling 31 = .ok (.iload_n 2, 1) := by decide +kernel
theorem dX2_mostByFilling_32 : decode cX2_mostByFilling 32 = .ok (.iconst 1, 1) := by decide +kernel
theorem dX2_mostByFilling_33 : decode cX2_mostByFilling 33 = .ok (.iadd, 1) := by decide +kernel
theorem dX2_mostByFilling_34 : decode cX2_mostByFilling 34 = .ok (.iload_n 3, 1) := by decide +kernel
theorem dX2_mostByFilling_35 : decode cX2_mostByFilling 35 = .ok (.iload 4, 2) := by decide +kernel
theorem dX2_mostByFilling_37 : decode cX2_mostByFilling 37 = .ok (.isub, 1) := by decide +kernel
theorem dX2_mostByFilling_38 : decode cX2_mostByFilling 38 = .ok (.invokevirtual 31, 3) := by decide +kernel
theorem dX2_mostByFilling_41 : decode cX2_mostByFilling 41 = .ok (.ireturn, 1) := by decide +kernel
set_option maxRecDepth 20000 in
theorem ggX2_staysWarmByFilling_X3_warmBy : GoodIn wsX2_staysWarmByFilling wsX3_warmBy := goodIn_r _ [10, 11, 12, 13, 14, 15, 16, 20, 21, 22, 23, 24, 25, 26, 27, 28, 29, 30, 31] (by decide +kernel) (by decide +kernel)
set_option maxRecDepth 20000 in
theorem gX2_staysWarmByFilling_X3_warmBy : GoodIn wsX2_staysWarmByFilling (wsV RX2 71 RX3 yX3_warmBy wsX3_warmBy) := goodIn_app (goodIn_of _ (by decide +kernel)) ggX2_staysWarmByFilling_X3_warmBy
theorem dX2_staysWarmByFilling_0 : decode cX2_staysWarmByFilling 0 = .ok (.iload_n 2, 1) := by decide +kernel
theorem dX2_staysWarmByFilling_1 : decode cX2_staysWarmByFilling 1 = .ok (.ifCond .lt 8, 3) := by decide +kernel
theorem dX2_staysWarmByFilling_4 : decode cX2_staysWarmByFilling 4 = .ok (.iload_n 2, 1) := by decide +kernel
theorem dX2_staysWarmByFilling_5 : decode cX2_staysWarmByFilling 5 = .ok (.iconst 4, 1) := by decide +kernel
theorem dX2_staysWarmByFilling_6 : decode cX2_staysWarmByFilling 6 = .ok (.if_icmp .lt 5, 3) := by decide +kernel
theorem dX2_staysWarmByFilling_9 : decode cX2_staysWarmByFilling 9 = .ok (.iconst 0, 1) := by decide +kernel
theorem dX2_staysWarmByFilling_10 : decode cX2_staysWarmByFilling 10 = .ok (.ireturn, 1) := by decide +kernel
theorem dX2_staysWarmByFilling_11 : decode cX2_staysWarmByFilling 11 = .ok (.iload_n 2, 1) := by decide +kernel
theorem dX2_staysWarmByFilling_12 : decode cX2_staysWarmByFilling 12 = .ok (.bipush 6, 2) := by decide +kernel
theorem dX2_staysWarmByFilling_14 : decode cX2_staysWarmByFilling 14 = .ok (.imul, 1) := by decide +kernel
theorem dX2_staysWarmByFilling_15 : decode cX2_staysWarmByFilling 15 = .ok (.istore_n 3, 1) := by decide +kernel
theorem dX2_staysWarmByFilling_16 : decode cX2_staysWarmByFilling 16 = .ok (.iconst 0, 1) := by decide +kernel
theorem dX2_staysWarmByFilling_17 : decode cX2_staysWarmByFilling 17 = .ok (.istore 4, 2) := by decide +kernel
theorem dX2_staysWarmByFilling_19 : decode cX2_staysWarmByFilling 19 = .ok (.iload 4, 2) := by decide +kernel
theorem dX2_staysWarmByFilling_21 : decode cX2_staysWarmByFilling 21 = .ok (.aload_n 0, 1) := by decide +kernel
theorem dX2_staysWarmByFilling_22 : decode cX2_staysWarmByFilling 22 = .ok (.getfield 18, 3) := by decide +kernel
theorem dX2_staysWarmByFilling_25 : decode cX2_staysWarmByFilling 25 = .ok (.getfield 39, 3) := by decide +kernel
theorem dX2_staysWarmByFilling_28 : decode cX2_staysWarmByFilling 28 = .ok (.getfield 43, 3) := by decide +kernel
theorem dX2_staysWarmByFilling_31 : decode cX2_staysWarmByFilling 31 = .ok (.if_icmp .ge 67, 3) := by decide +kernel
theorem dX2_staysWarmByFilling_34 : decode cX2_staysWarmByFilling 34 = .ok (.aload_n 0, 1) := by decide +kernel
theorem dX2_staysWarmByFilling_35 : decode cX2_staysWarmByFilling 35 = .ok (.getfield 18, 3) := by decide +kernel
theorem dX2_staysWarmByFilling_38 : decode cX2_staysWarmByFilling 38 = .ok (.aload_n 0, 1) := by decide +kernel
theorem dX2_staysWarmByFilling_39 : decode cX2_staysWarmByFilling 39 = .ok (.getfield 15, 3) := by decide +kernel
theorem dX2_staysWarmByFilling_42 : decode cX2_staysWarmByFilling 42 = .ok (.iload_n 3, 1) := by decide +kernel
theorem dX2_staysWarmByFilling_43 : decode cX2_staysWarmByFilling 43 = .ok (.iload 4, 2) := by decide +kernel
theorem dX2_staysWarmByFilling_45 : decode cX2_staysWarmByFilling 45 = .ok (.iadd, 1) := by decide +kernel
theorem dX2_staysWarmByFilling_46 : decode cX2_staysWarmByFilling 46 = .ok (.iaload, 1) := by decide +kernel
theorem dX2_staysWarmByFilling_47 : decode cX2_staysWarmByFilling 47 = .ok (.iload 4, 2) := by decide +kernel
theorem dX2_staysWarmByFilling_49 : decode cX2_staysWarmByFilling 49 = .ok (.iload_n 1, 1) := by decide +kernel
theorem dX2_staysWarmByFilling_50 : decode cX2_staysWarmByFilling 50 = .ok (.if_icmp .ne 7, 3) := by decide +kernel
theorem dX2_staysWarmByFilling_53 : decode cX2_staysWarmByFilling 53 = .ok (.iconst 1, 1) := by decide +kernel
theorem dX2_staysWarmByFilling_54 : decode cX2_staysWarmByFilling 54 = .ok (.goto 4, 3) := by decide +kernel
theorem dX2_staysWarmByFilling_57 : decode cX2_staysWarmByFilling 57 = .ok (.iconst 0, 1) := by decide +kernel
theorem dX2_staysWarmByFilling_58 : decode cX2_staysWarmByFilling 58 = .ok (.invokevirtual 71, 3) := by decide +kernel
theorem dX2_staysWarmByFilling_61 : decode cX2_staysWarmByFilling 61 = .ok (.aload_n 0, 1) := by decide +kernel
theorem dX2_staysWarmByFilling_62 : decode cX2_staysWarmByFilling 62 = .ok (.getfield 9, 3) := by decide +kernel
theorem dX2_staysWarmByFilling_65 : decode cX2_staysWarmByFilling 65 = .ok (.iload 4, 2) := by decide +kernel
theorem dX2_staysWarmByFilling_67 : decode cX2_staysWarmByFilling 67 = .ok (.iaload, 1) := by decide +kernel
theorem dX2_staysWarmByFilling_68 : decode cX2_staysWarmByFilling 68 = .ok (.isub, 1) := by decide +kernel
theorem dX2_staysWarmByFilling_69 : decode cX2_staysWarmByFilling 69 = .ok (.istore 5, 2) := by decide +kernel
theorem dX2_staysWarmByFilling_71 : decode cX2_staysWarmByFilling 71 = .ok (.iload 5, 2) := by decide +kernel
theorem dX2_staysWarmByFilling_73 : decode cX2_staysWarmByFilling 73 = .ok (.ifCond .gt 5, 3) := by decide +kernel
theorem dX2_staysWarmByFilling_76 : decode cX2_staysWarmByFilling 76 = .ok (.iconst 0, 1) := by decide +kernel
theorem dX2_staysWarmByFilling_77 : decode cX2_staysWarmByFilling 77 = .ok (.ireturn, 1) := by decide +kernel
theorem dX2_staysWarmByFilling_78 : decode cX2_staysWarmByFilling 78 = .ok (.aload_n 0, 1) := by decide +kernel
theorem dX2_staysWarmByFilling_79 : decode cX2_staysWarmByFilling 79 = .ok (.getfield 15, 3) := by decide +kernel
theorem dX2_staysWarmByFilling_82 : decode cX2_staysWarmByFilling 82 = .ok (.iload_n 3, 1) := by decide +kernel
theorem dX2_staysWarmByFilling_83 : decode cX2_staysWarmByFilling 83 = .ok (.bipush 6, 2) := by decide +kernel
theorem dX2_staysWarmByFilling_85 : decode cX2_staysWarmByFilling 85 = .ok (.iadd, 1) := by decide +kernel
theorem dX2_staysWarmByFilling_86 : decode cX2_staysWarmByFilling 86 = .ok (.iload 4, 2) := by decide +kernel
theorem dX2_staysWarmByFilling_88 : decode cX2_staysWarmByFilling 88 = .ok (.iadd, 1) := by decide +kernel
theorem dX2_staysWarmByFilling_89 : decode cX2_staysWarmByFilling 89 = .ok (.iload 5, 2) := by decide +kernel
theorem dX2_staysWarmByFilling_91 : decode cX2_staysWarmByFilling 91 = .ok (.iastore, 1) := by decide +kernel
theorem dX2_staysWarmByFilling_92 : decode cX2_staysWarmByFilling 92 = .ok (.iinc 4 1, 3) := by decide +kernel
theorem dX2_staysWarmByFilling_95 : decode cX2_staysWarmByFilling 95 = .ok (.goto (-76), 3) := by decide +kernel
theorem dX2_staysWarmByFilling_98 : decode cX2_staysWarmByFilling 98 = .ok (.iconst 1, 1) := by decide +kernel
theorem dX2_staysWarmByFilling_99 : decode cX2_staysWarmByFilling 99 = .ok (.ireturn, 1) := by decide +kernel
set_option maxRecDepth 20000 in
theorem ggX3_init_X6_init : GoodIn wsX3_init wsX6_init := goodIn_r _ [13, 14, 2, 3, 8, 15, 16, 17, 18, 19, 20, 6, 21, 22, 23, 24, 35, 36, 37, 38, 39, 40] (by decide +kernel) (by decide +kernel)
set_option maxRecDepth 20000 in
theorem gX3_init_X6_init : GoodIn wsX3_init (wsX6_init) := ggX3_init_X6_init
set_option maxRecDepth 20000 in
theorem ggX3_init_X3_begin : GoodIn wsX3_init wsX3_begin := goodIn_r _ [29, 30, 31, 7, 32, 33, 9, 34, 10, 41, 42, 43, 44, 45, 46, 35, 36, 37, 38, 39, 40] (by decide +kernel) (by decide +kernel)
set_option maxRecDepth 20000 in
theorem gX3_init_X3_begin : GoodIn wsX3_init (wsV RX3 25 RX3 yX3_begin wsX3_begin) := goodIn_app (goodIn_of _ (by decide +kernel)) ggX3_init_X3_begin
theorem dX3_init_0 : decode cX3_init 0 = .ok (.aload_n 0, 1) := by decide +kernel
theorem dX3_init_1 : decode cX3_init 1 = .ok (.invokespecial 3, 3) := by decide +kernel
theorem dX3_init_4 : decode cX3_init 4 = .ok (.aload_n 0, 1) := by decide +kernel
theorem dX3_init_5 : decode cX3_init 5 = .ok (.new 9, 3) := by decide +kernel
theorem dX3_init_8 : decode cX3_init 8 = .ok (.dup, 1) := by decide +kernel
theorem dX3_init_9 : decode cX3_init 9 = .ok (.invokespecial 11, 3) := by decide +kernel
theorem dX3_init_12 : decode cX3_init 12 = .ok (.putfield 12, 3) := by decide +kernel
theorem dX3_init_15 : decode cX3_init 15 = .ok (.aload_n 0, 1) := by decide +kernel
theorem dX3_init_16 : decode cX3_init 16 = .ok (.bipush 6, 2) := by decide +kernel
theorem dX3_init_18 : decode cX3_init 18 = .ok (.newarray .int, 2) := by decide +kernel
theorem dX3_init_20 : decode cX3_init 20 = .ok (.putfield 18, 3) := by decide +kernel
theorem dX3_init_23 : decode cX3_init 23 = .ok (.aload_n 0, 1) := by decide +kernel
theorem dX3_init_24 : decode cX3_init 24 = .ok (.bipush 6, 2) := by decide +kernel
theorem dX3_init_26 : decode cX3_init 26 = .ok (.newarray .int, 2) := by decide +kernel
theorem dX3_init_28 : decode cX3_init 28 = .ok (.putfield 22, 3) := by decide +kernel
theorem dX3_init_31 : decode cX3_init 31 = .ok (.aload_n 0, 1) := by decide +kernel
theorem dX3_init_32 : decode cX3_init 32 = .ok (.invokevirtual 25, 3) := by decide +kernel
theorem dX3_init_35 : decode cX3_init 35 = .ok (.return_, 1) := by decide +kernel
theorem dX3_begin_0 : decode cX3_begin 0 = .ok (.aload_n 0, 1) := by decide +kernel
theorem dX3_begin_1 : decode cX3_begin 1 = .ok (.iconst 0, 1) := by decide +kernel
theorem dX3_begin_2 : decode cX3_begin 2 = .ok (.putfield 28, 3) := by decide +kernel
theorem dX3_begin_5 : decode cX3_begin 5 = .ok (.aload_n 0, 1) := by decide +kernel
theorem dX3_begin_6 : decode cX3_begin 6 = .ok (.iconst 0, 1) := by decide +kernel
theorem dX3_begin_7 : decode cX3_begin 7 = .ok (.putfield 32, 3) := by decide +kernel
theorem dX3_begin_10 : decode cX3_begin 10 = .ok (.aload_n 0, 1) := by decide +kernel
theorem dX3_begin_11 : decode cX3_begin 11 = .ok (.aload_n 0, 1) := by decide +kernel
theorem dX3_begin_12 : decode cX3_begin 12 = .ok (.getfield 12, 3) := by decide +kernel
theorem dX3_begin_15 : decode cX3_begin 15 = .ok (.getfield 35, 3) := by decide +kernel
theorem dX3_begin_18 : decode cX3_begin 18 = .ok (.putfield 38, 3) := by decide +kernel
theorem dX3_begin_21 : decode cX3_begin 21 = .ok (.iconst 0, 1) := by decide +kernel
theorem dX3_begin_22 : decode cX3_begin 22 = .ok (.istore_n 1, 1) := by decide +kernel
theorem dX3_begin_23 : decode cX3_begin 23 = .ok (.iload_n 1, 1) := by decide +kernel
theorem dX3_begin_24 : decode cX3_begin 24 = .ok (.bipush 6, 2) := by decide +kernel
theorem dX3_begin_26 : decode cX3_begin 26 = .ok (.if_icmp .ge 31, 3) := by decide +kernel
theorem dX3_begin_29 : decode cX3_begin 29 = .ok (.aload_n 0, 1) := by decide +kernel
theorem dX3_begin_30 : decode cX3_begin 30 = .ok (.getfield 18, 3) := by decide +kernel
theorem dX3_begin_33 : decode cX3_begin 33 = .ok (.iload_n 1, 1) := by decide +kernel
theorem dX3_begin_34 : decode cX3_begin 34 = .ok (.aload_n 0, 1) := by decide +kernel
theorem dX3_begin_35 : decode cX3_begin 35 = .ok (.getfield 12, 3) := by decide +kernel
theorem dX3_begin_38 : decode cX3_begin 38 = .ok (.getfield 39, 3) := by decide +kernel
theorem dX3_begin_41 : decode cX3_begin 41 = .ok (.iload_n 1, 1) := by decide +kernel
theorem dX3_begin_42 : decode cX3_begin 42 = .ok (.iaload, 1) := by decide +kernel
theorem dX3_begin_43 : decode cX3_begin 43 = .ok (.iastore, 1) := by decide +kernel
theorem dX3_begin_44 : decode cX3_begin 44 = .ok (.aload_n 0, 1) := by decide +kernel
theorem dX3_begin_45 : decode cX3_begin 45 = .ok (.getfield 22, 3) := by decide +kernel
theorem dX3_begin_48 : decode cX3_begin 48 = .ok (.iload_n 1, 1) := by decide +kernel
theorem dX3_begin_49 : decode cX3_begin 49 = .ok (.iload_n 1, 1) := by decide +kernel
theorem dX3_begin_50 : decode cX3_begin 50 = .ok (.iastore, 1) := by decide +kernel
theorem dX3_begin_51 : decode cX3_begin 51 = .ok (.iinc 1 1, 3) := by decide +kernel
theorem dX3_begin_54 : decode cX3_begin 54 = .ok (.goto (-31), 3) := by decide +kernel
theorem dX3_begin_57 : decode cX3_begin 57 = .ok (.return_, 1) := by decide +kernel
theorem dX3_has_0 : decode cX3_has 0 = .ok (.iload_n 1, 1) := by decide +kernel
theorem dX3_has_1 : decode cX3_has 1 = .ok (.ifCond .lt 18, 3) := by decide +kernel
theorem dX3_has_4 : decode cX3_has 4 = .ok (.iload_n 1, 1) := by decide +kernel
theorem dX3_has_5 : decode cX3_has 5 = .ok (.aload_n 0, 1) := by decide +kernel
theorem dX3_has_6 : decode cX3_has 6 = .ok (.getfield 12, 3) := by decide +kernel
theorem dX3_has_9 : decode cX3_has 9 = .ok (.getfield 40, 3) := by decide +kernel
theorem dX3_has_12 : decode cX3_has 12 = .ok (.if_icmp .ge 7, 3) := by decide +kernel
theorem dX3_has_15 : decode cX3_has 15 = .ok (.iconst 1, 1) := by decide +kernel
theorem dX3_has_16 : decode cX3_has 16 = .ok (.goto 4, 3) := by decide +kernel
theorem dX3_has_19 : decode cX3_has 19 = .ok (.iconst 0, 1) := by decide +kernel
theorem dX3_has_20 : decode cX3_has 20 = .ok (.ireturn, 1) := by decide +kernel
theorem dX3_numberWarm_0 : decode cX3_numberWarm 0 = .ok (.iconst 0, 1) := by decide +kernel
theorem dX3_numberWarm_1 : decode cX3_numberWarm 1 = .ok (.istore_n 1, 1) := by decide +kernel
theorem dX3_numberWarm_2 : decode cX3_numberWarm 2 = .ok (.iconst 0, 1) := by decide +kernel
theorem dX3_numberWarm_3 : decode cX3_numberWarm 3 = .ok (.istore_n 2, 1) := by decide +kernel
theorem dX3_numberWarm_4 : decode cX3_numberWarm 4 = .ok (.iload_n 2, 1) := by decide +kernel
theorem dX3_numberWarm_5 : decode cX3_numberWarm 5 = .ok (.aload_n 0, 1) := by decide +kernel
theorem dX3_numberWarm_6 : decode cX3_numberWarm 6 = .ok (.getfield 12, 3) := by decide +kernel
theorem dX3_numberWarm_9 : decode cX3_numberWarm 9 = .ok (.getfield 40, 3) := by decide +kernel
theorem dX3_numberWarm_12 : decode cX3_numberWarm 12 = .ok (.if_icmp .ge 21, 3) := by decide +kernel
theorem dX3_numberWarm_15 : decode cX3_numberWarm 15 = .ok (.aload_n 0, 1) := by decide +kernel
theorem dX3_numberWarm_16 : decode cX3_numberWarm 16 = .ok (.getfield 18, 3) := by decide +kernel
theorem dX3_numberWarm_19 : decode cX3_numberWarm 19 = .ok (.iload_n 2, 1) := by decide +kernel
theorem dX3_numberWarm_20 : decode cX3_numberWarm 20 = .ok (.iaload, 1) := by decide +kernel
theorem dX3_numberWarm_21 : decode cX3_numberWarm 21 = .ok (.ifCond .le 6, 3) := by decide +kernel
theorem dX3_numberWarm_24 : decode cX3_numberWarm 24 = .ok (.iinc 1 1, 3) := by decide +kernel
theorem dX3_numberWarm_27 : decode cX3_numberWarm 27 = .ok (.iinc 2 1, 3) := by decide +kernel
theorem dX3_numberWarm_30 : decode cX3_numberWarm 30 = .ok (.goto (-26), 3) := by decide +kernel
theorem dX3_numberWarm_33 : decode cX3_numberWarm 33 = .ok (.iload_n 1, 1) := by decide +kernel
theorem dX3_numberWarm_34 : decode cX3_numberWarm 34 = .ok (.ireturn, 1) := by decide +kernel
set_option maxRecDepth 20000 in
theorem ggX3_letHourPass_X3_loss : GoodIn wsX3_letHourPass wsX3_loss := goodIn_r _ [15, 2, 16, 3, 7, 8, 9, 10, 17, 18, 19, 20, 21, 22, 23, 24, 25, 26, 27, 28] (by decide +kernel) (by decide +kernel)
set_option maxRecDepth 20000 in
theorem gX3_letHourPass_X3_loss : GoodIn wsX3_letHourPass (wsV RX3 43 RX3 yX3_loss wsX3_loss) := goodIn_app (goodIn_of _ (by decide +kernel)) ggX3_letHourPass_X3_loss
theorem dX3_letHourPass_0 : decode cX3_letHourPass 0 = .ok (.aload_n 0, 1) := by decide +kernel
theorem dX3_letHourPass_1 : decode cX3_letHourPass 1 = .ok (.dup, 1) := by decide +kernel
theorem dX3_letHourPass_2 : decode cX3_letHourPass 2 = .ok (.getfield 28, 3) := by decide +kernel
theorem dX3_letHourPass_5 : decode cX3_letHourPass 5 = .ok (.iconst 1, 1) := by decide +kernel
theorem dX3_letHourPass_6 : decode cX3_letHourPass 6 = .ok (.iadd, 1) := by decide +kernel
theorem dX3_letHourPass_7 : decode cX3_letHourPass 7 = .ok (.putfield 28, 3) := by decide +kernel
theorem dX3_letHourPass_10 : decode cX3_letHourPass 10 = .ok (.iconst 0, 1) := by decide +kernel
theorem dX3_letHourPass_11 : decode cX3_letHourPass 11 = .ok (.istore_n 1, 1) := by decide +kernel
theorem dX3_letHourPass_12 : decode cX3_letHourPass 12 = .ok (.iload_n 1, 1) := by decide +kernel
theorem dX3_letHourPass_13 : decode cX3_letHourPass 13 = .ok (.aload_n 0, 1) := by decide +kernel
theorem dX3_letHourPass_14 : decode cX3_letHourPass 14 = .ok (.getfield 12, 3) := by decide +kernel
theorem dX3_letHourPass_17 : decode cX3_letHourPass 17 = .ok (.getfield 40, 3) := by decide +kernel
theorem dX3_letHourPass_20 : decode cX3_letHourPass 20 = .ok (.if_icmp .ge 39, 3) := by decide +kernel
theorem dX3_letHourPass_23 : decode cX3_letHourPass 23 = .ok (.aload_n 0, 1) := by decide +kernel
theorem dX3_letHourPass_24 : decode cX3_letHourPass 24 = .ok (.getfield 18, 3) := by decide +kernel
theorem dX3_letHourPass_27 : decode cX3_letHourPass 27 = .ok (.iload_n 1, 1) := by decide +kernel
theorem dX3_letHourPass_28 : decode cX3_letHourPass 28 = .ok (.iconst 0, 1) := by decide +kernel
theorem dX3_letHourPass_29 : decode cX3_letHourPass 29 = .ok (.aload_n 0, 1) := by decide +kernel
theorem dX3_letHourPass_30 : decode cX3_letHourPass 30 = .ok (.getfield 18, 3) := by decide +kernel
theorem dX3_letHourPass_33 : decode cX3_letHourPass 33 = .ok (.iload_n 1, 1) := by decide +kernel
theorem dX3_letHourPass_34 : decode cX3_letHourPass 34 = .ok (.iaload, 1) := by decide +kernel
theorem dX3_letHourPass_35 : decode cX3_letHourPass 35 = .ok (.aload_n 0, 1) := by decide +kernel
theorem dX3_letHourPass_36 : decode cX3_letHourPass 36 = .ok (.iload_n 1, 1) := by decide +kernel
theorem dX3_letHourPass_37 : decode cX3_letHourPass 37 = .ok (.aload_n 0, 1) := by decide +kernel
theorem dX3_letHourPass_38 : decode cX3_letHourPass 38 = .ok (.getfield 22, 3) := by decide +kernel
theorem dX3_letHourPass_41 : decode cX3_letHourPass 41 = .ok (.aload_n 0, 1) := by decide +kernel
theorem dX3_letHourPass_42 : decode cX3_letHourPass 42 = .ok (.getfield 32, 3) := by decide +kernel
theorem dX3_letHourPass_45 : decode cX3_letHourPass 45 = .ok (.invokevirtual 43, 3) := by decide +kernel
theorem dX3_letHourPass_48 : decode cX3_letHourPass 48 = .ok (.isub, 1) := by decide +kernel
theorem dX3_letHourPass_49 : decode cX3_letHourPass 49 = .ok (.invokestatic 47, 3) := by decide +kernel
theorem dX3_letHourPass_52 : decode cX3_letHourPass 52 = .ok (.iastore, 1) := by decide +kernel
theorem dX3_letHourPass_53 : decode cX3_letHourPass 53 = .ok (.iinc 1 1, 3) := by decide +kernel
theorem dX3_letHourPass_56 : decode cX3_letHourPass 56 = .ok (.goto (-44), 3) := by decide +kernel
theorem dX3_letHourPass_59 : decode cX3_letHourPass 59 = .ok (.return_, 1) := by decide +kernel
theorem dX3_warmBy_0 : decode cX3_warmBy 0 = .ok (.bipush 99, 2) := by decide +kernel
theorem dX3_warmBy_2 : decode cX3_warmBy 2 = .ok (.iload_n 1, 1) := by decide +kernel
theorem dX3_warmBy_3 : decode cX3_warmBy 3 = .ok (.iload_n 2, 1) := by decide +kernel
theorem dX3_warmBy_4 : decode cX3_warmBy 4 = .ok (.aload_n 0, 1) := by decide +kernel
theorem dX3_warmBy_5 : decode cX3_warmBy 5 = .ok (.getfield 12, 3) := by decide +kernel
theorem dX3_warmBy_8 : decode cX3_warmBy 8 = .ok (.getfield 53, 3) := by decide +kernel
theorem dX3_warmBy_11 : decode cX3_warmBy 11 = .ok (.imul, 1) := by decide +kernel
theorem dX3_warmBy_12 : decode cX3_warmBy 12 = .ok (.iadd, 1) := by decide +kernel
theorem dX3_warmBy_13 : decode cX3_warmBy 13 = .ok (.invokestatic 56, 3) := by decide +kernel
theorem dX3_warmBy_16 : decode cX3_warmBy 16 = .ok (.ireturn, 1) := by decide +kernel
theorem dX3_loss_0 : decode cX3_loss 0 = .ok (.aload_n 0, 1) := by decide +kernel
theorem dX3_loss_1 : decode cX3_loss 1 = .ok (.getfield 12, 3) := by decide +kernel
theorem dX3_loss_4 : decode cX3_loss 4 = .ok (.getfield 59, 3) := by decide +kernel
theorem dX3_loss_7 : decode cX3_loss 7 = .ok (.iload_n 1, 1) := by decide +kernel
theorem dX3_loss_8 : decode cX3_loss 8 = .ok (.iaload, 1) := by decide +kernel
theorem dX3_loss_9 : decode cX3_loss 9 = .ok (.iload_n 3, 1) := by decide +kernel
theorem dX3_loss_10 : decode cX3_loss 10 = .ok (.iadd, 1) := by decide +kernel
theorem dX3_loss_11 : decode cX3_loss 11 = .ok (.istore 4, 2) := by decide +kernel
theorem dX3_loss_13 : decode cX3_loss 13 = .ok (.iconst 0, 1) := by decide +kernel
theorem dX3_loss_14 : decode cX3_loss 14 = .ok (.istore 5, 2) := by decide +kernel
theorem dX3_loss_16 : decode cX3_loss 16 = .ok (.iload 5, 2) := by decide +kernel
theorem dX3_loss_18 : decode cX3_loss 18 = .ok (.aload_n 0, 1) := by decide +kernel
theorem dX3_loss_19 : decode cX3_loss 19 = .ok (.getfield 12, 3) := by decide +kernel
theorem dX3_loss_22 : decode cX3_loss 22 = .ok (.getfield 40, 3) := by decide +kernel
theorem dX3_loss_25 : decode cX3_loss 25 = .ok (.if_icmp .ge 28, 3) := by decide +kernel
theorem dX3_loss_28 : decode cX3_loss 28 = .ok (.iload 5, 2) := by decide +kernel
theorem dX3_loss_30 : decode cX3_loss 30 = .ok (.iload_n 1, 1) := by decide +kernel
theorem dX3_loss_31 : decode cX3_loss 31 = .ok (.if_icmp .eq 16, 3) := by decide +kernel
theorem dX3_loss_34 : decode cX3_loss 34 = .ok (.aload_n 2, 1) := by decide +kernel
theorem dX3_loss_35 : decode cX3_loss 35 = .ok (.iload 5, 2) := by decide +kernel
theorem dX3_loss_37 : decode cX3_loss 37 = .ok (.iaload, 1) := by decide +kernel
theorem dX3_loss_38 : decode cX3_loss 38 = .ok (.aload_n 2, 1) := by decide +kernel
theorem dX3_loss_39 : decode cX3_loss 39 = .ok (.iload_n 1, 1) := by decide +kernel
theorem dX3_loss_40 : decode cX3_loss 40 = .ok (.iaload, 1) := by decide +kernel
theorem dX3_loss_41 : decode cX3_loss 41 = .ok (.if_icmp .ne 6, 3) := by decide +kernel
theorem dX3_loss_44 : decode cX3_loss 44 = .ok (.iinc 4 (-2), 3) := by decide +kernel
theorem dX3_loss_47 : decode cX3_loss 47 = .ok (.iinc 5 1, 3) := by decide +kernel
theorem dX3_loss_50 : decode cX3_loss 50 = .ok (.goto (-34), 3) := by decide +kernel
theorem dX3_loss_53 : decode cX3_loss 53 = .ok (.iconst 1, 1) := by decide +kernel
theorem dX3_loss_54 : decode cX3_loss 54 = .ok (.iload 4, 2) := by decide +kernel
theorem dX3_loss_56 : decode cX3_loss 56 = .ok (.invokestatic 47, 3) := by decide +kernel
theorem dX3_loss_59 : decode cX3_loss 59 = .ok (.ireturn, 1) := by decide +kernel
set_option maxRecDepth 20000 in
theorem ggX3_lasts_X3_loss : GoodIn wsX3_lasts wsX3_loss := goodIn_r _ [7, 8, 9, 10, 11, 12, 13, 14, 15, 16, 17, 18, 19, 20, 21, 22, 23, 24, 25, 26] (by decide +kernel) (by decide +kernel)
set_option maxRecDepth 20000 in
theorem gX3_lasts_X3_loss : GoodIn wsX3_lasts (wsV RX3 43 RX3 yX3_loss wsX3_loss) := goodIn_app (goodIn_of _ (by decide +kernel)) ggX3_lasts_X3_loss
theorem dX3_lasts_0 : decode cX3_lasts 0 = .ok (.aload_n 0, 1) := by decide +kernel
theorem dX3_lasts_1 : decode cX3_lasts 1 = .ok (.iload_n 1, 1) := by decide +kernel
theorem dX3_lasts_2 : decode cX3_lasts 2 = .ok (.aload_n 2, 1) := by decide +kernel
theorem dX3_lasts_3 : decode cX3_lasts 3 = .ok (.aload_n 0, 1) := by decide +kernel
theorem dX3_lasts_4 : decode cX3_lasts 4 = .ok (.getfield 32, 3) := by decide +kernel
theorem dX3_lasts_7 : decode cX3_lasts 7 = .ok (.invokevirtual 43, 3) := by decide +kernel
theorem dX3_lasts_10 : decode cX3_lasts 10 = .ok (.istore_n 3, 1) := by decide +kernel
theorem dX3_lasts_11 : decode cX3_lasts 11 = .ok (.iload_n 3, 1) := by decide +kernel
theorem dX3_lasts_12 : decode cX3_lasts 12 = .ok (.ifCond .le 18, 3) := by decide +kernel
theorem dX3_lasts_15 : decode cX3_lasts 15 = .ok (.aload_n 0, 1) := by decide +kernel
theorem dX3_lasts_16 : decode cX3_lasts 16 = .ok (.getfield 18, 3) := by decide +kernel
theorem dX3_lasts_19 : decode cX3_lasts 19 = .ok (.iload_n 1, 1) := by decide +kernel
theorem dX3_lasts_20 : decode cX3_lasts 20 = .ok (.iaload, 1) := by decide +kernel
theorem dX3_lasts_21 : decode cX3_lasts 21 = .ok (.iload_n 3, 1) := by decide +kernel
theorem dX3_lasts_22 : decode cX3_lasts 22 = .ok (.iadd, 1) := by decide +kernel
theorem dX3_lasts_23 : decode cX3_lasts 23 = .ok (.iconst 1, 1) := by decide +kernel
theorem dX3_lasts_24 : decode cX3_lasts 24 = .ok (.isub, 1) := by decide +kernel
theorem dX3_lasts_25 : decode cX3_lasts 25 = .ok (.iload_n 3, 1) := by decide +kernel
theorem dX3_lasts_26 : decode cX3_lasts 26 = .ok (.idiv, 1) := by decide +kernel
theorem dX3_lasts_27 : decode cX3_lasts 27 = .ok (.goto 5, 3) := by decide +kernel
theorem dX3_lasts_30 : decode cX3_lasts 30 = .ok (.bipush 99, 2) := by decide +kernel
theorem dX3_lasts_32 : decode cX3_lasts 32 = .ok (.ireturn, 1) := by decide +kernel
set_option maxRecDepth 20000 in
theorem ggX3_allLast_X3_lasts : GoodIn wsX3_allLast wsX3_lasts := goodIn_r _ [11, 12, 13, 14, 15, 16, 10, 17, 1, 18, 2, 19, 20, 5, 21, 22, 23, 24, 25, 26, 27, 28, 29, 30, 31, 32, 33] (by decide +kernel) (by decide +kernel)
set_option maxRecDepth 20000 in
theorem gX3_allLast_X3_lasts : GoodIn wsX3_allLast (wsV RX3 62 RX3 yX3_lasts wsX3_lasts) := goodIn_app (goodIn_of _ (by decide +kernel)) ggX3_allLast_X3_lasts
theorem dX3_allLast_0 : decode cX3_allLast 0 = .ok (.bipush 99, 2) := by decide +kernel
theorem dX3_allLast_2 : decode cX3_allLast 2 = .ok (.istore_n 2, 1) := by decide +kernel
theorem dX3_allLast_3 : decode cX3_allLast 3 = .ok (.iconst 0, 1) := by decide +kernel
theorem dX3_allLast_4 : decode cX3_allLast 4 = .ok (.istore_n 3, 1) := by decide +kernel
theorem dX3_allLast_5 : decode cX3_allLast 5 = .ok (.iload_n 3, 1) := by decide +kernel
theorem dX3_allLast_6 : decode cX3_allLast 6 = .ok (.aload_n 0, 1) := by decide +kernel
theorem dX3_allLast_7 : decode cX3_allLast 7 = .ok (.getfield 12, 3) := by decide +kernel
theorem dX3_allLast_10 : decode cX3_allLast 10 = .ok (.getfield 40, 3) := by decide +kernel
theorem dX3_allLast_13 : decode cX3_allLast 13 = .ok (.if_icmp .ge 20, 3) := by decide +kernel
theorem dX3_allLast_16 : decode cX3_allLast 16 = .ok (.iload_n 2, 1) := by decide +kernel
theorem dX3_allLast_17 : decode cX3_allLast 17 = .ok (.aload_n 0, 1) := by decide +kernel
theorem dX3_allLast_18 : decode cX3_allLast 18 = .ok (.iload_n 3, 1) := by decide +kernel
theorem dX3_allLast_19 : decode cX3_allLast 19 = .ok (.aload_n 1, 1) := by decide +kernel
theorem dX3_allLast_20 : decode cX3_allLast 20 = .ok (.invokevirtual 62, 3) := by decide +kernel
theorem dX3_allLast_23 : decode cX3_allLast 23 = .ok (.invokestatic 56, 3) := by decide +kernel
theorem dX3_allLast_26 : decode cX3_allLast 26 = .ok (.istore_n 2, 1) := by decide +kernel
theorem dX3_allLast_27 : decode cX3_allLast 27 = .ok (.iinc 3 1, 3) := by decide +kernel
theorem dX3_allLast_30 : decode cX3_allLast 30 = .ok (.goto (-25), 3) := by decide +kernel
theorem dX3_allLast_33 : decode cX3_allLast 33 = .ok (.iload_n 2, 1) := by decide +kernel
theorem dX3_allLast_34 : decode cX3_allLast 34 = .ok (.ireturn, 1) := by decide +kernel
set_option maxRecDepth 20000 in
theorem ggX3_soundIn_X3_loss : GoodIn wsX3_soundIn wsX3_loss := goodIn_r _ [10, 4, 11, 12, 13, 14, 15, 16, 17, 18, 19, 20, 21, 22, 23, 24, 25, 26, 27, 28] (by decide +kernel) (by decide +kernel)
set_option maxRecDepth 20000 in
theorem gX3_soundIn_X3_loss : GoodIn wsX3_soundIn (wsV RX3 43 RX3 yX3_loss wsX3_loss) := goodIn_app (goodIn_of _ (by decide +kernel)) ggX3_soundIn_X3_loss
theorem dX3_soundIn_0 : decode cX3_soundIn 0 = .ok (.aload_n 0, 1) := by decide +kernel
theorem dX3_soundIn_1 : decode cX3_soundIn 1 = .ok (.getfield 18, 3) := by decide +kernel
theorem dX3_soundIn_4 : decode cX3_soundIn 4 = .ok (.iload_n 1, 1) := by decide +kernel
theorem dX3_soundIn_5 : decode cX3_soundIn 5 = .ok (.iaload, 1) := by decide +kernel
theorem dX3_soundIn_6 : decode cX3_soundIn 6 = .ok (.iload_n 2, 1) := by decide +kernel
theorem dX3_soundIn_7 : decode cX3_soundIn 7 = .ok (.aload_n 0, 1) := by decide +kernel
theorem dX3_soundIn_8 : decode cX3_soundIn 8 = .ok (.iload_n 1, 1) := by decide +kernel
theorem dX3_soundIn_9 : decode cX3_soundIn 9 = .ok (.aload_n 0, 1) := by decide +kernel
theorem dX3_soundIn_10 : decode cX3_soundIn 10 = .ok (.getfield 22, 3) := by decide +kernel
theorem dX3_soundIn_13 : decode cX3_soundIn 13 = .ok (.aload_n 0, 1) := by decide +kernel
theorem dX3_soundIn_14 : decode cX3_soundIn 14 = .ok (.getfield 32, 3) := by decide +kernel
theorem dX3_soundIn_17 : decode cX3_soundIn 17 = .ok (.invokevirtual 43, 3) := by decide +kernel
theorem dX3_soundIn_20 : decode cX3_soundIn 20 = .ok (.imul, 1) := by decide +kernel
theorem dX3_soundIn_21 : decode cX3_soundIn 21 = .ok (.isub, 1) := by decide +kernel
theorem dX3_soundIn_22 : decode cX3_soundIn 22 = .ok (.istore_n 3, 1) := by decide +kernel
theorem dX3_soundIn_23 : decode cX3_soundIn 23 = .ok (.iload_n 3, 1) := by decide +kernel
theorem dX3_soundIn_24 : decode cX3_soundIn 24 = .ok (.ifCond .gt 5, 3) := by decide +kernel
theorem dX3_soundIn_27 : decode cX3_soundIn 27 = .ok (.iconst 0, 1) := by decide +kernel
theorem dX3_soundIn_28 : decode cX3_soundIn 28 = .ok (.ireturn, 1) := by decide +kernel
theorem dX3_soundIn_29 : decode cX3_soundIn 29 = .ok (.iload_n 3, 1) := by decide +kernel
theorem dX3_soundIn_30 : decode cX3_soundIn 30 = .ok (.aload_n 0, 1) := by decide +kernel
theorem dX3_soundIn_31 : decode cX3_soundIn 31 = .ok (.getfield 12, 3) := by decide +kernel
theorem dX3_soundIn_34 : decode cX3_soundIn 34 = .ok (.getfield 66, 3) := by decide +kernel
theorem dX3_soundIn_37 : decode cX3_soundIn 37 = .ok (.iload_n 1, 1) := by decide +kernel
theorem dX3_soundIn_38 : decode cX3_soundIn 38 = .ok (.iaload, 1) := by decide +kernel
theorem dX3_soundIn_39 : decode cX3_soundIn 39 = .ok (.if_icmp .lt 7, 3) := by decide +kernel
theorem dX3_soundIn_42 : decode cX3_soundIn 42 = .ok (.iconst 2, 1) := by decide +kernel
theorem dX3_soundIn_43 : decode cX3_soundIn 43 = .ok (.goto 4, 3) := by decide +kernel
theorem dX3_soundIn_46 : decode cX3_soundIn 46 = .ok (.iconst 1, 1) := by decide +kernel
theorem dX3_soundIn_47 : decode cX3_soundIn 47 = .ok (.ireturn, 1) := by decide +kernel
set_option maxRecDepth 20000 in
theorem ggX3_mostOfOneSound_X3_soundIn : GoodIn wsX3_mostOfOneSound wsX3_soundIn := goodIn_r _ [11, 12, 13, 14, 1, 15, 16, 17, 18, 10, 19, 20, 2, 3, 4, 5, 6, 21, 22, 23, 24, 25, 26, 27, 28, 29, 30, 31, 32] (by decide +kernel) (by decide +kernel)
set_option maxRecDepth 20000 in
theorem gX3_mostOfOneSound_X3_soundIn : GoodIn wsX3_mostOfOneSound (wsV RX3 69 RX3 yX3_soundIn wsX3_soundIn) := goodIn_app (goodIn_of _ (by decide +kernel)) ggX3_mostOfOneSound_X3_soundIn
theorem dX3_mostOfOneSound_0 : decode cX3_mostOfOneSound 0 = .ok (.iconst 0, 1) := by decide +kernel
theorem dX3_mostOfOneSound_1 : decode cX3_mostOfOneSound 1 = .ok (.istore_n 3, 1) := by decide +kernel
theorem dX3_mostOfOneSound_2 : decode cX3_mostOfOneSound 2 = .ok (.iconst 0, 1) := by decide +kernel
theorem dX3_mostOfOneSound_3 : decode cX3_mostOfOneSound 3 = .ok (.istore 4, 2) := by decide +kernel
theorem dX3_mostOfOneSound_5 : decode cX3_mostOfOneSound 5 = .ok (.iload 4, 2) := by decide +kernel
theorem dX3_mostOfOneSound_7 : decode cX3_mostOfOneSound 7 = .ok (.iconst 2, 1) := by decide +kernel
theorem dX3_mostOfOneSound_8 : decode cX3_mostOfOneSound 8 = .ok (.if_icmp .gt 65, 3) := by decide +kernel
theorem dX3_mostOfOneSound_11 : decode cX3_mostOfOneSound 11 = .ok (.iconst 0, 1) := by decide +kernel
theorem dX3_mostOfOneSound_12 : decode cX3_mostOfOneSound 12 = .ok (.istore 5, 2) := by decide +kernel
theorem dX3_mostOfOneSound_14 : decode cX3_mostOfOneSound 14 = .ok (.iconst 0, 1) := by decide +kernel
theorem dX3_mostOfOneSound_15 : decode cX3_mostOfOneSound 15 = .ok (.istore 6, 2) := by decide +kernel
theorem dX3_mostOfOneSound_17 : decode cX3_mostOfOneSound 17 = .ok (.iload 6, 2) := by decide +kernel
theorem dX3_mostOfOneSound_19 : decode cX3_mostOfOneSound 19 = .ok (.aload_n 0, 1) := by decide +kernel
theorem dX3_mostOfOneSound_20 : decode cX3_mostOfOneSound 20 = .ok (.getfield 12, 3) := by decide +kernel
theorem dX3_mostOfOneSound_23 : decode cX3_mostOfOneSound 23 = .ok (.getfield 40, 3) := by decide +kernel
theorem dX3_mostOfOneSound_26 : decode cX3_mostOfOneSound 26 = .ok (.if_icmp .ge 34, 3) := by decide +kernel
theorem dX3_mostOfOneSound_29 : decode cX3_mostOfOneSound 29 = .ok (.iload_n 1, 1) := by decide +kernel
theorem dX3_mostOfOneSound_30 : decode cX3_mostOfOneSound 30 = .ok (.iload 6, 2) := by decide +kernel
theorem dX3_mostOfOneSound_32 : decode cX3_mostOfOneSound 32 = .ok (.ishr, 1) := by decide +kernel
theorem dX3_mostOfOneSound_33 : decode cX3_mostOfOneSound 33 = .ok (.iconst 1, 1) := by decide +kernel
theorem dX3_mostOfOneSound_34 : decode cX3_mostOfOneSound 34 = .ok (.iand, 1) := by decide +kernel
theorem dX3_mostOfOneSound_35 : decode cX3_mostOfOneSound 35 = .ok (.iconst 1, 1) := by decide +kernel
theorem dX3_mostOfOneSound_36 : decode cX3_mostOfOneSound 36 = .ok (.if_icmp .ne 18, 3) := by decide +kernel
end
section
theorem dX3_mostOfOneSound_39 : decode cX3_mostOfOneSound 39 = .ok (.aload_n 0, 1) := by decide +kernel
theorem dX3_mostOfOneSound_40 : decode cX3_mostOfOneSound 40 = .ok (.iload 6, 2) := by decide +kernel
theorem dX3_mostOfOneSound_42 : decode cX3_mostOfOneSound 42 = .ok (.iload_n 2, 1) := by decide +kernel
theorem dX3_mostOfOneSound_43 : decode cX3_mostOfOneSound 43 = .ok (.invokevirtual 69, 3) := by decide +kernel
theorem dX3_mostOfOneSound_46 : decode cX3_mostOfOneSound 46 = .ok (.iload 4, 2) := by decide +kernel
theorem dX3_mostOfOneSound_48 : decode cX3_mostOfOneSound 48 = .ok (.if_icmp .ne 6, 3) := by decide +kernel
theorem dX3_mostOfOneSound_51 : decode cX3_mostOfOneSound 51 = .ok (.iinc 5 1, 3) := by decide +kernel
theorem dX3_mostOfOneSound_54 : decode cX3_mostOfOneSound 54 = .ok (.iinc 6 1, 3) := by decide +kernel
theorem dX3_mostOfOneSound_57 : decode cX3_mostOfOneSound 57 = .ok (.goto (-40), 3) := by decide +kernel
theorem dX3_mostOfOneSound_60 : decode cX3_mostOfOneSound 60 = .ok (.iload_n 3, 1) := by decide +kernel
theorem dX3_mostOfOneSound_61 : decode cX3_mostOfOneSound 61 = .ok (.iload 5, 2) := by decide +kernel
theorem dX3_mostOfOneSound_63 : decode cX3_mostOfOneSound 63 = .ok (.invokestatic 47, 3) := by decide +kernel
theorem dX3_mostOfOneSound_66 : decode cX3_mostOfOneSound 66 = .ok (.istore_n 3, 1) := by decide +kernel
theorem dX3_mostOfOneSound_67 : decode cX3_mostOfOneSound 67 = .ok (.iinc 4 1, 3) := by decide +kernel
theorem dX3_mostOfOneSound_70 : decode cX3_mostOfOneSound 70 = .ok (.goto (-65), 3) := by decide +kernel
theorem dX3_mostOfOneSound_73 : decode cX3_mostOfOneSound 73 = .ok (.iload_n 3, 1) := by decide +kernel
theorem dX3_mostOfOneSound_74 : decode cX3_mostOfOneSound 74 = .ok (.ireturn, 1) := by decide +kernel
set_option maxRecDepth 20000 in
theorem ggX3_pintsOf_X3_loss : GoodIn wsX3_pintsOf wsX3_loss := goodIn_r _ [8, 9, 10, 11, 12, 13, 14, 15, 24, 25, 26, 27, 28, 29, 30, 31, 32, 33, 34, 35] (by decide +kernel) (by decide +kernel)
set_option maxRecDepth 20000 in
theorem gX3_pintsOf_X3_loss : GoodIn wsX3_pintsOf (wsV RX3 43 RX3 yX3_loss wsX3_loss) := goodIn_app (goodIn_of _ (by decide +kernel)) ggX3_pintsOf_X3_loss
set_option maxRecDepth 20000 in
theorem ggX3_pintsOf_X3_warmBy : GoodIn wsX3_pintsOf wsX3_warmBy := goodIn_r _ [19, 9, 20, 21, 22, 14, 23, 24, 25, 26, 27, 28, 29, 30, 31, 32, 33, 34, 35] (by decide +kernel) (by decide +kernel)
set_option maxRecDepth 20000 in
theorem gX3_pintsOf_X3_warmBy : GoodIn wsX3_pintsOf (wsV RX3 72 RX3 yX3_warmBy wsX3_warmBy) := goodIn_app (goodIn_of _ (by decide +kernel)) ggX3_pintsOf_X3_warmBy
theorem dX3_pintsOf_0 : decode cX3_pintsOf 0 = .ok (.iload_n 2, 1) := by decide +kernel
theorem dX3_pintsOf_1 : decode cX3_pintsOf 1 = .ok (.aload_n 0, 1) := by decide +kernel
theorem dX3_pintsOf_2 : decode cX3_pintsOf 2 = .ok (.iload_n 1, 1) := by decide +kernel
theorem dX3_pintsOf_3 : decode cX3_pintsOf 3 = .ok (.aload_n 0, 1) := by decide +kernel
theorem dX3_pintsOf_4 : decode cX3_pintsOf 4 = .ok (.getfield 22, 3) := by decide +kernel
theorem dX3_pintsOf_7 : decode cX3_pintsOf 7 = .ok (.aload_n 0, 1) := by decide +kernel
theorem dX3_pintsOf_8 : decode cX3_pintsOf 8 = .ok (.getfield 32, 3) := by decide +kernel
theorem dX3_pintsOf_11 : decode cX3_pintsOf 11 = .ok (.invokevirtual 43, 3) := by decide +kernel
theorem dX3_pintsOf_14 : decode cX3_pintsOf 14 = .ok (.imul, 1) := by decide +kernel
theorem dX3_pintsOf_15 : decode cX3_pintsOf 15 = .ok (.istore_n 3, 1) := by decide +kernel
theorem dX3_pintsOf_16 : decode cX3_pintsOf 16 = .ok (.iconst 0, 1) := by decide +kernel
theorem dX3_pintsOf_17 : decode cX3_pintsOf 17 = .ok (.istore 4, 2) := by decide +kernel
theorem dX3_pintsOf_19 : decode cX3_pintsOf 19 = .ok (.iload 4, 2) := by decide +kernel
theorem dX3_pintsOf_21 : decode cX3_pintsOf 21 = .ok (.bipush 9, 2) := by decide +kernel
theorem dX3_pintsOf_23 : decode cX3_pintsOf 23 = .ok (.if_icmp .gt 28, 3) := by decide +kernel
theorem dX3_pintsOf_26 : decode cX3_pintsOf 26 = .ok (.aload_n 0, 1) := by decide +kernel
theorem dX3_pintsOf_27 : decode cX3_pintsOf 27 = .ok (.aload_n 0, 1) := by decide +kernel
theorem dX3_pintsOf_28 : decode cX3_pintsOf 28 = .ok (.getfield 18, 3) := by decide +kernel
theorem dX3_pintsOf_31 : decode cX3_pintsOf 31 = .ok (.iload_n 1, 1) := by decide +kernel
theorem dX3_pintsOf_32 : decode cX3_pintsOf 32 = .ok (.iaload, 1) := by decide +kernel
theorem dX3_pintsOf_33 : decode cX3_pintsOf 33 = .ok (.iload 4, 2) := by decide +kernel
theorem dX3_pintsOf_35 : decode cX3_pintsOf 35 = .ok (.invokevirtual 72, 3) := by decide +kernel
theorem dX3_pintsOf_38 : decode cX3_pintsOf 38 = .ok (.iload_n 3, 1) := by decide +kernel
theorem dX3_pintsOf_39 : decode cX3_pintsOf 39 = .ok (.if_icmp .le 6, 3) := by decide +kernel
theorem dX3_pintsOf_42 : decode cX3_pintsOf 42 = .ok (.iload 4, 2) := by decide +kernel
theorem dX3_pintsOf_44 : decode cX3_pintsOf 44 = .ok (.ireturn, 1) := by decide +kernel
theorem dX3_pintsOf_45 : decode cX3_pintsOf 45 = .ok (.iinc 4 1, 3) := by decide +kernel
theorem dX3_pintsOf_48 : decode cX3_pintsOf 48 = .ok (.goto (-29), 3) := by decide +kernel
theorem dX3_pintsOf_51 : decode cX3_pintsOf 51 = .ok (.bipush (-9), 2) := by decide +kernel
theorem dX3_pintsOf_53 : decode cX3_pintsOf 53 = .ok (.ireturn, 1) := by decide +kernel
set_option maxRecDepth 20000 in
theorem ggX3_pintsOfAll_X3_pintsOf : GoodIn wsX3_pintsOfAll wsX3_pintsOf := goodIn_r _ [7, 8, 9, 10, 11, 12, 13, 6, 14, 1, 15, 2, 16, 17, 18, 19, 20, 21, 22, 23, 24, 25, 26, 27, 28, 29, 30, 31, 32, 33, 34, 35, 36, 37, 38, 39] (by decide +kernel) (by decide +kernel)
set_option maxRecDepth 20000 in
theorem gX3_pintsOfAll_X3_pintsOf : GoodIn wsX3_pintsOfAll (wsV RX3 75 RX3 yX3_pintsOf wsX3_pintsOf) := goodIn_app (goodIn_of _ (by decide +kernel)) ggX3_pintsOfAll_X3_pintsOf
theorem dX3_pintsOfAll_0 : decode cX3_pintsOfAll 0 = .ok (.iconst 0, 1) := by decide +kernel
theorem dX3_pintsOfAll_1 : decode cX3_pintsOfAll 1 = .ok (.istore_n 2, 1) := by decide +kernel
theorem dX3_pintsOfAll_2 : decode cX3_pintsOfAll 2 = .ok (.iconst 0, 1) := by decide +kernel
theorem dX3_pintsOfAll_3 : decode cX3_pintsOfAll 3 = .ok (.istore_n 3, 1) := by decide +kernel
theorem dX3_pintsOfAll_4 : decode cX3_pintsOfAll 4 = .ok (.iload_n 3, 1) := by decide +kernel
theorem dX3_pintsOfAll_5 : decode cX3_pintsOfAll 5 = .ok (.aload_n 0, 1) := by decide +kernel
theorem dX3_pintsOfAll_6 : decode cX3_pintsOfAll 6 = .ok (.getfield 12, 3) := by decide +kernel
theorem dX3_pintsOfAll_9 : decode cX3_pintsOfAll 9 = .ok (.getfield 40, 3) := by decide +kernel
theorem dX3_pintsOfAll_12 : decode cX3_pintsOfAll 12 = .ok (.if_icmp .ge 32, 3) := by decide +kernel
theorem dX3_pintsOfAll_15 : decode cX3_pintsOfAll 15 = .ok (.aload_n 0, 1) := by decide +kernel
theorem dX3_pintsOfAll_16 : decode cX3_pintsOfAll 16 = .ok (.iload_n 3, 1) := by decide +kernel
theorem dX3_pintsOfAll_17 : decode cX3_pintsOfAll 17 = .ok (.iload_n 1, 1) := by decide +kernel
theorem dX3_pintsOfAll_18 : decode cX3_pintsOfAll 18 = .ok (.invokevirtual 75, 3) := by decide +kernel
theorem dX3_pintsOfAll_21 : decode cX3_pintsOfAll 21 = .ok (.istore 4, 2) := by decide +kernel
theorem dX3_pintsOfAll_23 : decode cX3_pintsOfAll 23 = .ok (.iload 4, 2) := by decide +kernel
theorem dX3_pintsOfAll_25 : decode cX3_pintsOfAll 25 = .ok (.bipush (-9), 2) := by decide +kernel
theorem dX3_pintsOfAll_27 : decode cX3_pintsOfAll 27 = .ok (.if_icmp .ne 6, 3) := by decide +kernel
theorem dX3_pintsOfAll_30 : decode cX3_pintsOfAll 30 = .ok (.bipush (-9), 2) := by decide +kernel
theorem dX3_pintsOfAll_32 : decode cX3_pintsOfAll 32 = .ok (.ireturn, 1) := by decide +kernel
theorem dX3_pintsOfAll_33 : decode cX3_pintsOfAll 33 = .ok (.iload_n 2, 1) := by decide +kernel
theorem dX3_pintsOfAll_34 : decode cX3_pintsOfAll 34 = .ok (.iload 4, 2) := by decide +kernel
theorem dX3_pintsOfAll_36 : decode cX3_pintsOfAll 36 = .ok (.iadd, 1) := by decide +kernel
theorem dX3_pintsOfAll_37 : decode cX3_pintsOfAll 37 = .ok (.istore_n 2, 1) := by decide +kernel
theorem dX3_pintsOfAll_38 : decode cX3_pintsOfAll 38 = .ok (.iinc 3 1, 3) := by decide +kernel
theorem dX3_pintsOfAll_41 : decode cX3_pintsOfAll 41 = .ok (.goto (-37), 3) := by decide +kernel
theorem dX3_pintsOfAll_44 : decode cX3_pintsOfAll 44 = .ok (.iload_n 2, 1) := by decide +kernel
theorem dX3_pintsOfAll_45 : decode cX3_pintsOfAll 45 = .ok (.ireturn, 1) := by decide +kernel
set_option maxRecDepth 20000 in
theorem ggX3_waysStillWarm_X3_loss : GoodIn wsX3_waysStillWarm wsX3_loss := goodIn_r _ [8, 9, 10, 11, 12, 13, 14, 15, 19, 20, 21, 22, 23, 24, 25, 26, 27, 28, 29, 30] (by decide +kernel) (by decide +kernel)
set_option maxRecDepth 20000 in
theorem gX3_waysStillWarm_X3_loss : GoodIn wsX3_waysStillWarm (wsV RX3 43 RX3 yX3_loss wsX3_loss) := goodIn_app (goodIn_of _ (by decide +kernel)) ggX3_waysStillWarm_X3_loss
set_option maxRecDepth 20000 in
theorem ggX3_waysStillWarm_X3_waysFrom : GoodIn wsX3_waysStillWarm wsX3_waysFrom := goodIn_r _ [18, 16, 17, 7] (by decide +kernel) (by decide +kernel)
set_option maxRecDepth 20000 in
theorem gX3_waysStillWarm_X3_waysFrom : GoodIn wsX3_waysStillWarm (va_wsS RX3 78 yX3_waysFrom wsX3_waysFrom) := goodIn_app (goodIn_of _ (by decide +kernel)) ggX3_waysStillWarm_X3_waysFrom
theorem dX3_waysStillWarm_0 : decode cX3_waysStillWarm 0 = .ok (.aload_n 0, 1) := by decide +kernel
theorem dX3_waysStillWarm_1 : decode cX3_waysStillWarm 1 = .ok (.iload_n 1, 1) := by decide +kernel
theorem dX3_waysStillWarm_2 : decode cX3_waysStillWarm 2 = .ok (.aload_n 0, 1) := by decide +kernel
theorem dX3_waysStillWarm_3 : decode cX3_waysStillWarm 3 = .ok (.getfield 22, 3) := by decide +kernel
theorem dX3_waysStillWarm_6 : decode cX3_waysStillWarm 6 = .ok (.aload_n 0, 1) := by decide +kernel
theorem dX3_waysStillWarm_7 : decode cX3_waysStillWarm 7 = .ok (.getfield 32, 3) := by decide +kernel
theorem dX3_waysStillWarm_10 : decode cX3_waysStillWarm 10 = .ok (.invokevirtual 43, 3) := by decide +kernel
theorem dX3_waysStillWarm_13 : decode cX3_waysStillWarm 13 = .ok (.istore 4, 2) := by decide +kernel
theorem dX3_waysStillWarm_15 : decode cX3_waysStillWarm 15 = .ok (.aload_n 0, 1) := by decide +kernel
theorem dX3_waysStillWarm_16 : decode cX3_waysStillWarm 16 = .ok (.iload_n 1, 1) := by decide +kernel
theorem dX3_waysStillWarm_17 : decode cX3_waysStillWarm 17 = .ok (.aload_n 0, 1) := by decide +kernel
theorem dX3_waysStillWarm_18 : decode cX3_waysStillWarm 18 = .ok (.getfield 22, 3) := by decide +kernel
theorem dX3_waysStillWarm_21 : decode cX3_waysStillWarm 21 = .ok (.aload_n 0, 1) := by decide +kernel
theorem dX3_waysStillWarm_22 : decode cX3_waysStillWarm 22 = .ok (.getfield 32, 3) := by decide +kernel
theorem dX3_waysStillWarm_25 : decode cX3_waysStillWarm 25 = .ok (.iconst 5, 1) := by decide +kernel
theorem dX3_waysStillWarm_26 : decode cX3_waysStillWarm 26 = .ok (.iadd, 1) := by decide +kernel
theorem dX3_waysStillWarm_27 : decode cX3_waysStillWarm 27 = .ok (.invokevirtual 43, 3) := by decide +kernel
theorem dX3_waysStillWarm_30 : decode cX3_waysStillWarm 30 = .ok (.istore 5, 2) := by decide +kernel
theorem dX3_waysStillWarm_32 : decode cX3_waysStillWarm 32 = .ok (.aload_n 0, 1) := by decide +kernel
theorem dX3_waysStillWarm_33 : decode cX3_waysStillWarm 33 = .ok (.getfield 18, 3) := by decide +kernel
theorem dX3_waysStillWarm_36 : decode cX3_waysStillWarm 36 = .ok (.iload_n 1, 1) := by decide +kernel
theorem dX3_waysStillWarm_37 : decode cX3_waysStillWarm 37 = .ok (.iaload, 1) := by decide +kernel
theorem dX3_waysStillWarm_38 : decode cX3_waysStillWarm 38 = .ok (.iload_n 3, 1) := by decide +kernel
theorem dX3_waysStillWarm_39 : decode cX3_waysStillWarm 39 = .ok (.iload_n 2, 1) := by decide +kernel
theorem dX3_waysStillWarm_40 : decode cX3_waysStillWarm 40 = .ok (.iload 4, 2) := by decide +kernel
theorem dX3_waysStillWarm_42 : decode cX3_waysStillWarm 42 = .ok (.iload 5, 2) := by decide +kernel
theorem dX3_waysStillWarm_44 : decode cX3_waysStillWarm 44 = .ok (.invokestatic 78, 3) := by decide +kernel
theorem dX3_waysStillWarm_47 : decode cX3_waysStillWarm 47 = .ok (.ireturn, 1) := by decide +kernel
set_option maxRecDepth 20000 in
theorem ggX3_waysFrom_X3_waysFrom : GoodIn wsX3_waysFrom wsX3_waysFrom := goodIn_r _ [0, 1, 2, 3] (by decide +kernel) (by decide +kernel)
set_option maxRecDepth 20000 in
theorem gX3_waysFrom_X3_waysFrom : GoodIn wsX3_waysFrom (va_wsS RX3 78 yX3_waysFrom wsX3_waysFrom) := goodIn_app (goodIn_of _ (by decide +kernel)) ggX3_waysFrom_X3_waysFrom
theorem dX3_waysFrom_0 : decode cX3_waysFrom 0 = .ok (.iload_n 0, 1) := by decide +kernel
theorem dX3_waysFrom_1 : decode cX3_waysFrom 1 = .ok (.ifCond .gt 5, 3) := by decide +kernel
theorem dX3_waysFrom_4 : decode cX3_waysFrom 4 = .ok (.iconst 0, 1) := by decide +kernel
theorem dX3_waysFrom_5 : decode cX3_waysFrom 5 = .ok (.ireturn, 1) := by decide +kernel
theorem dX3_waysFrom_6 : decode cX3_waysFrom 6 = .ok (.iload_n 1, 1) := by decide +kernel
theorem dX3_waysFrom_7 : decode cX3_waysFrom 7 = .ok (.ifCond .gt 5, 3) := by decide +kernel
theorem dX3_waysFrom_10 : decode cX3_waysFrom 10 = .ok (.iconst 1, 1) := by decide +kernel
theorem dX3_waysFrom_11 : decode cX3_waysFrom 11 = .ok (.ireturn, 1) := by decide +kernel
theorem dX3_waysFrom_12 : decode cX3_waysFrom 12 = .ok (.bipush 10, 2) := by decide +kernel
theorem dX3_waysFrom_14 : decode cX3_waysFrom 14 = .ok (.iload_n 2, 1) := by decide +kernel
theorem dX3_waysFrom_15 : decode cX3_waysFrom 15 = .ok (.isub, 1) := by decide +kernel
theorem dX3_waysFrom_16 : decode cX3_waysFrom 16 = .ok (.iload_n 0, 1) := by decide +kernel
theorem dX3_waysFrom_17 : decode cX3_waysFrom 17 = .ok (.iload_n 3, 1) := by decide +kernel
theorem dX3_waysFrom_18 : decode cX3_waysFrom 18 = .ok (.isub, 1) := by decide +kernel
theorem dX3_waysFrom_19 : decode cX3_waysFrom 19 = .ok (.iload_n 1, 1) := by decide +kernel
theorem dX3_waysFrom_20 : decode cX3_waysFrom 20 = .ok (.iconst 1, 1) := by decide +kernel
theorem dX3_waysFrom_21 : decode cX3_waysFrom 21 = .ok (.isub, 1) := by decide +kernel
theorem dX3_waysFrom_22 : decode cX3_waysFrom 22 = .ok (.iload_n 2, 1) := by decide +kernel
theorem dX3_waysFrom_23 : decode cX3_waysFrom 23 = .ok (.iload_n 3, 1) := by decide +kernel
theorem dX3_waysFrom_24 : decode cX3_waysFrom 24 = .ok (.iload 4, 2) := by decide +kernel
theorem dX3_waysFrom_26 : decode cX3_waysFrom 26 = .ok (.invokestatic 78, 3) := by decide +kernel
theorem dX3_waysFrom_29 : decode cX3_waysFrom 29 = .ok (.imul, 1) := by decide +kernel
theorem dX3_waysFrom_30 : decode cX3_waysFrom 30 = .ok (.iload_n 2, 1) := by decide +kernel
theorem dX3_waysFrom_31 : decode cX3_waysFrom 31 = .ok (.iload_n 0, 1) := by decide +kernel
theorem dX3_waysFrom_32 : decode cX3_waysFrom 32 = .ok (.iload 4, 2) := by decide +kernel
theorem dX3_waysFrom_34 : decode cX3_waysFrom 34 = .ok (.isub, 1) := by decide +kernel
theorem dX3_waysFrom_35 : decode cX3_waysFrom 35 = .ok (.iload_n 1, 1) := by decide +kernel
theorem dX3_waysFrom_36 : decode cX3_waysFrom 36 = .ok (.iconst 1, 1) := by decide +kernel
theorem dX3_waysFrom_37 : decode cX3_waysFrom 37 = .ok (.isub, 1) := by decide +kernel
theorem dX3_waysFrom_38 : decode cX3_waysFrom 38 = .ok (.iload_n 2, 1) := by decide +kernel
theorem dX3_waysFrom_39 : decode cX3_waysFrom 39 = .ok (.iload_n 3, 1) := by decide +kernel
theorem dX3_waysFrom_40 : decode cX3_waysFrom 40 = .ok (.iload 4, 2) := by decide +kernel
theorem dX3_waysFrom_42 : decode cX3_waysFrom 42 = .ok (.invokestatic 78, 3) := by decide +kernel
theorem dX3_waysFrom_45 : decode cX3_waysFrom 45 = .ok (.imul, 1) := by decide +kernel
theorem dX3_waysFrom_46 : decode cX3_waysFrom 46 = .ok (.iadd, 1) := by decide +kernel
theorem dX3_waysFrom_47 : decode cX3_waysFrom 47 = .ok (.ireturn, 1) := by decide +kernel
set_option maxRecDepth 20000 in
theorem ggX4_init_X0_init : GoodIn wsX4_init wsX0_init := goodIn_r _ [10, 11, 2, 3, 12, 13, 14, 15, 16, 17, 18, 19, 20] (by decide +kernel) (by decide +kernel)
set_option maxRecDepth 20000 in
theorem gX4_init_X0_init : GoodIn wsX4_init (wsX0_init) := ggX4_init_X0_init
theorem dX4_init_0 : decode cX4_init 0 = .ok (.aload_n 0, 1) := by decide +kernel
theorem dX4_init_1 : decode cX4_init 1 = .ok (.invokespecial 3, 3) := by decide +kernel
theorem dX4_init_4 : decode cX4_init 4 = .ok (.aload_n 0, 1) := by decide +kernel
theorem dX4_init_5 : decode cX4_init 5 = .ok (.new 9, 3) := by decide +kernel
theorem dX4_init_8 : decode cX4_init 8 = .ok (.dup, 1) := by decide +kernel
theorem dX4_init_9 : decode cX4_init 9 = .ok (.bipush 10, 2) := by decide +kernel
theorem dX4_init_11 : decode cX4_init 11 = .ok (.invokespecial 11, 3) := by decide +kernel
theorem dX4_init_14 : decode cX4_init 14 = .ok (.putfield 14, 3) := by decide +kernel
theorem dX4_init_17 : decode cX4_init 17 = .ok (.return_, 1) := by decide +kernel
set_option maxRecDepth 20000 in
theorem ggX4_remember_X0_put : GoodIn wsX4_remember wsX0_put := goodIn_r _ [12, 13, 14, 15, 16, 17, 18, 19, 20, 21, 22, 23, 27, 28, 29, 30, 31, 32, 33, 34] (by decide +kernel) (by decide +kernel)
set_option maxRecDepth 20000 in
theorem gX4_remember_X0_put : GoodIn wsX4_remember (wsV RX4 24 RX0 yX0_put wsX0_put) := goodIn_app (goodIn_of _ (by decide +kernel)) ggX4_remember_X0_put
theorem dX4_remember_0 : decode cX4_remember 0 = .ok (.aload_n 0, 1) := by decide +kernel
theorem dX4_remember_1 : decode cX4_remember 1 = .ok (.getfield 14, 3) := by decide +kernel
theorem dX4_remember_4 : decode cX4_remember 4 = .ok (.aload_n 0, 1) := by decide +kernel
theorem dX4_remember_5 : decode cX4_remember 5 = .ok (.getfield 20, 3) := by decide +kernel
theorem dX4_remember_8 : decode cX4_remember 8 = .ok (.aload_n 1, 1) := by decide +kernel
theorem dX4_remember_9 : decode cX4_remember 9 = .ok (.invokevirtual 24, 3) := by decide +kernel
theorem dX4_remember_12 : decode cX4_remember 12 = .ok (.aload_n 0, 1) := by decide +kernel
theorem dX4_remember_13 : decode cX4_remember 13 = .ok (.aload_n 0, 1) := by decide +kernel
theorem dX4_remember_14 : decode cX4_remember 14 = .ok (.getfield 20, 3) := by decide +kernel
theorem dX4_remember_17 : decode cX4_remember 17 = .ok (.iconst 1, 1) := by decide +kernel
theorem dX4_remember_18 : decode cX4_remember 18 = .ok (.iadd, 1) := by decide +kernel
theorem dX4_remember_19 : decode cX4_remember 19 = .ok (.bipush 10, 2) := by decide +kernel
theorem dX4_remember_21 : decode cX4_remember 21 = .ok (.if_icmp .ge 12, 3) := by decide +kernel
theorem dX4_remember_24 : decode cX4_remember 24 = .ok (.aload_n 0, 1) := by decide +kernel
theorem dX4_remember_25 : decode cX4_remember 25 = .ok (.getfield 20, 3) := by decide +kernel
theorem dX4_remember_28 : decode cX4_remember 28 = .ok (.iconst 1, 1) := by decide +kernel
theorem dX4_remember_29 : decode cX4_remember 29 = .ok (.iadd, 1) := by decide +kernel
theorem dX4_remember_30 : decode cX4_remember 30 = .ok (.goto 4, 3) := by decide +kernel
theorem dX4_remember_33 : decode cX4_remember 33 = .ok (.iconst 0, 1) := by decide +kernel
theorem dX4_remember_34 : decode cX4_remember 34 = .ok (.putfield 20, 3) := by decide +kernel
theorem dX4_remember_37 : decode cX4_remember 37 = .ok (.aload_n 0, 1) := by decide +kernel
theorem dX4_remember_38 : decode cX4_remember 38 = .ok (.bipush 10, 2) := by decide +kernel
theorem dX4_remember_40 : decode cX4_remember 40 = .ok (.aload_n 0, 1) := by decide +kernel
theorem dX4_remember_41 : decode cX4_remember 41 = .ok (.getfield 28, 3) := by decide +kernel
theorem dX4_remember_44 : decode cX4_remember 44 = .ok (.iconst 1, 1) := by decide +kernel
theorem dX4_remember_45 : decode cX4_remember 45 = .ok (.iadd, 1) := by decide +kernel
theorem dX4_remember_46 : decode cX4_remember 46 = .ok (.invokestatic 31, 3) := by decide +kernel
theorem dX4_remember_49 : decode cX4_remember 49 = .ok (.putfield 28, 3) := by decide +kernel
theorem dX4_remember_52 : decode cX4_remember 52 = .ok (.return_, 1) := by decide +kernel
set_option maxRecDepth 20000 in
theorem ggX4_takeLatest_X0_take : GoodIn wsX4_takeLatest wsX0_take := goodIn_r _ [8, 9, 10, 11, 12, 13, 14, 15, 16, 17, 18, 19, 23, 24, 25, 26, 27, 28, 29, 30] (by decide +kernel) (by decide +kernel)
set_option maxRecDepth 20000 in
theorem gX4_takeLatest_X0_take : GoodIn wsX4_takeLatest (wsV RX4 37 RX0 yX0_take wsX0_take) := goodIn_app (goodIn_of _ (by decide +kernel)) ggX4_takeLatest_X0_take
theorem dX4_takeLatest_0 : decode cX4_takeLatest 0 = .ok (.aload_n 0, 1) := by decide +kernel
theorem dX4_takeLatest_1 : decode cX4_takeLatest 1 = .ok (.aload_n 0, 1) := by decide +kernel
theorem dX4_takeLatest_2 : decode cX4_takeLatest 2 = .ok (.getfield 20, 3) := by decide +kernel
theorem dX4_takeLatest_5 : decode cX4_takeLatest 5 = .ok (.ifCond .le 12, 3) := by decide +kernel
theorem dX4_takeLatest_8 : decode cX4_takeLatest 8 = .ok (.aload_n 0, 1) := by decide +kernel
theorem dX4_takeLatest_9 : decode cX4_takeLatest 9 = .ok (.getfield 20, 3) := by decide +kernel
theorem dX4_takeLatest_12 : decode cX4_takeLatest 12 = .ok (.iconst 1, 1) := by decide +kernel
theorem dX4_takeLatest_13 : decode cX4_takeLatest 13 = .ok (.isub, 1) := by decide +kernel
theorem dX4_takeLatest_14 : decode cX4_takeLatest 14 = .ok (.goto 5, 3) := by decide +kernel
theorem dX4_takeLatest_17 : decode cX4_takeLatest 17 = .ok (.bipush 9, 2) := by decide +kernel
theorem dX4_takeLatest_19 : decode cX4_takeLatest 19 = .ok (.putfield 20, 3) := by decide +kernel
theorem dX4_takeLatest_22 : decode cX4_takeLatest 22 = .ok (.aload_n 0, 1) := by decide +kernel
theorem dX4_takeLatest_23 : decode cX4_takeLatest 23 = .ok (.getfield 14, 3) := by decide +kernel
theorem dX4_takeLatest_26 : decode cX4_takeLatest 26 = .ok (.aload_n 0, 1) := by decide +kernel
theorem dX4_takeLatest_27 : decode cX4_takeLatest 27 = .ok (.getfield 20, 3) := by decide +kernel
theorem dX4_takeLatest_30 : decode cX4_takeLatest 30 = .ok (.aload_n 1, 1) := by decide +kernel
theorem dX4_takeLatest_31 : decode cX4_takeLatest 31 = .ok (.invokevirtual 37, 3) := by decide +kernel
theorem dX4_takeLatest_34 : decode cX4_takeLatest 34 = .ok (.aload_n 0, 1) := by decide +kernel
theorem dX4_takeLatest_35 : decode cX4_takeLatest 35 = .ok (.dup, 1) := by decide +kernel
theorem dX4_takeLatest_36 : decode cX4_takeLatest 36 = .ok (.getfield 28, 3) := by decide +kernel
theorem dX4_takeLatest_39 : decode cX4_takeLatest 39 = .ok (.iconst 1, 1) := by decide +kernel
theorem dX4_takeLatest_40 : decode cX4_takeLatest 40 = .ok (.isub, 1) := by decide +kernel
theorem dX4_takeLatest_41 : decode cX4_takeLatest 41 = .ok (.putfield 28, 3) := by decide +kernel
theorem dX4_takeLatest_44 : decode cX4_takeLatest 44 = .ok (.return_, 1) := by decide +kernel
theorem dX5_init_0 : decode cX5_init 0 = .ok (.aload_n 0, 1) := by decide +kernel
theorem dX5_init_1 : decode cX5_init 1 = .ok (.invokespecial 3, 3) := by decide +kernel
theorem dX5_init_4 : decode cX5_init 4 = .ok (.aload_n 0, 1) := by decide +kernel
theorem dX5_init_5 : decode cX5_init 5 = .ok (.bipush 120, 2) := by decide +kernel
theorem dX5_init_7 : decode cX5_init 7 = .ok (.newarray .char, 2) := by decide +kernel
theorem dX5_init_9 : decode cX5_init 9 = .ok (.putfield 9, 3) := by decide +kernel
theorem dX5_init_12 : decode cX5_init 12 = .ok (.return_, 1) := by decide +kernel
theorem dX5_append_0 : decode cX5_append 0 = .ok (.aload_n 0, 1) := by decide +kernel
theorem dX5_append_1 : decode cX5_append 1 = .ok (.getfield 15, 3) := by decide +kernel
theorem dX5_append_4 : decode cX5_append 4 = .ok (.aload_n 0, 1) := by decide +kernel
theorem dX5_append_5 : decode cX5_append 5 = .ok (.getfield 9, 3) := by decide +kernel
theorem dX5_append_8 : decode cX5_append 8 = .ok (.arraylength, 1) := by decide +kernel
theorem dX5_append_9 : decode cX5_append 9 = .ok (.if_icmp .ge 23, 3) := by decide +kernel
theorem dX5_append_12 : decode cX5_append 12 = .ok (.aload_n 0, 1) := by decide +kernel
theorem dX5_append_13 : decode cX5_append 13 = .ok (.getfield 9, 3) := by decide +kernel
theorem dX5_append_16 : decode cX5_append 16 = .ok (.aload_n 0, 1) := by decide +kernel
theorem dX5_append_17 : decode cX5_append 17 = .ok (.getfield 15, 3) := by decide +kernel
theorem dX5_append_20 : decode cX5_append 20 = .ok (.iload_n 1, 1) := by decide +kernel
theorem dX5_append_21 : decode cX5_append 21 = .ok (.castore, 1) := by decide +kernel
theorem dX5_append_22 : decode cX5_append 22 = .ok (.aload_n 0, 1) := by decide +kernel
theorem dX5_append_23 : decode cX5_append 23 = .ok (.dup, 1) := by decide +kernel
theorem dX5_append_24 : decode cX5_append 24 = .ok (.getfield 15, 3) := by decide +kernel
theorem dX5_append_27 : decode cX5_append 27 = .ok (.iconst 1, 1) := by decide +kernel
theorem dX5_append_28 : decode cX5_append 28 = .ok (.iadd, 1) := by decide +kernel
theorem dX5_append_29 : decode cX5_append 29 = .ok (.putfield 15, 3) := by decide +kernel
theorem dX5_append_32 : decode cX5_append 32 = .ok (.return_, 1) := by decide +kernel
set_option maxRecDepth 20000 in
theorem ggX5_read_X6_beAsAtFirst : GoodIn wsX5_read wsX6_beAsAtFirst := goodIn_r _ [11, 12, 13, 14, 71, 72, 73, 74, 75, 76] (by decide +kernel) (by decide +kernel)
set_option maxRecDepth 20000 in
theorem gX5_read_X6_beAsAtFirst : GoodIn wsX5_read (wsV RX5 19 RX6 yX6_beAsAtFirst wsX6_beAsAtFirst) := goodIn_app (goodIn_of _ (by decide +kernel)) ggX5_read_X6_beAsAtFirst
set_option maxRecDepth 20000 in
theorem ggX5_read_X5_readToken : GoodIn wsX5_read wsX5_readToken := goodIn_r _ [19, 1, 4, 20, 6, 5, 21, 22, 18, 23, 24, 25, 26, 27, 28, 29, 30, 31, 32, 63, 64, 65, 66, 67, 68, 69, 70] (by decide +kernel) (by decide +kernel)
set_option maxRecDepth 20000 in
theorem gX5_read_X5_readToken : GoodIn wsX5_read (wsV RX5 34 RX5 yX5_readToken wsX5_readToken) := goodIn_app (goodIn_of _ (by decide +kernel)) ggX5_read_X5_readToken
set_option maxRecDepth 20000 in
theorem ggX5_read_X5_readItem : GoodIn wsX5_read wsX5_readItem := goodIn_r _ [36, 5, 37, 38, 39, 18, 40, 41, 42, 28, 43, 44, 45, 46, 47, 48, 15, 16, 17, 19, 1, 4, 20, 6, 21, 22, 23, 24, 25, 26, 27, 29, 30, 31, 32, 49, 50, 51, 52, 53, 54, 55, 56, 2, 57, 58, 59, 60, 61, 3, 62, 63, 64, 65, 66, 67, 68, 69, 70, 71, 72, 73, 74, 75, 76] (by decide +kernel) (by decide +kernel)
set_option maxRecDepth 20000 in
theorem gX5_read_X5_readItem : GoodIn wsX5_read (wsV RX5 40 RX5 yX5_readItem wsX5_readItem) := goodIn_app (goodIn_of _ (by decide +kernel)) ggX5_read_X5_readItem
theorem dX5_read_0 : decode cX5_read 0 = .ok (.aload_n 1, 1) := by decide +kernel
theorem dX5_read_1 : decode cX5_read 1 = .ok (.invokevirtual 19, 3) := by decide +kernel
theorem dX5_read_4 : decode cX5_read 4 = .ok (.aload_n 0, 1) := by decide +kernel
theorem dX5_read_5 : decode cX5_read 5 = .ok (.iconst 0, 1) := by decide +kernel
theorem dX5_read_6 : decode cX5_read 6 = .ok (.putfield 24, 3) := by decide +kernel
theorem dX5_read_9 : decode cX5_read 9 = .ok (.aload_n 0, 1) := by decide +kernel
theorem dX5_read_10 : decode cX5_read 10 = .ok (.iconst 0, 1) := by decide +kernel
theorem dX5_read_11 : decode cX5_read 11 = .ok (.putfield 27, 3) := by decide +kernel
theorem dX5_read_14 : decode cX5_read 14 = .ok (.aload_n 0, 1) := by decide +kernel
theorem dX5_read_15 : decode cX5_read 15 = .ok (.iconst 0, 1) := by decide +kernel
theorem dX5_read_16 : decode cX5_read 16 = .ok (.putfield 31, 3) := by decide +kernel
theorem dX5_read_19 : decode cX5_read 19 = .ok (.iconst 0, 1) := by decide +kernel
theorem dX5_read_20 : decode cX5_read 20 = .ok (.istore_n 2, 1) := by decide +kernel
theorem dX5_read_21 : decode cX5_read 21 = .ok (.iload_n 2, 1) := by decide +kernel
theorem dX5_read_22 : decode cX5_read 22 = .ok (.aload_n 0, 1) := by decide +kernel
theorem dX5_read_23 : decode cX5_read 23 = .ok (.getfield 15, 3) := by decide +kernel
theorem dX5_read_26 : decode cX5_read 26 = .ok (.if_icmp .gt 34, 3) := by decide +kernel
theorem dX5_read_29 : decode cX5_read 29 = .ok (.aload_n 0, 1) := by decide +kernel
theorem dX5_read_30 : decode cX5_read 30 = .ok (.invokevirtual 34, 3) := by decide +kernel
theorem dX5_read_33 : decode cX5_read 33 = .ok (.aload_n 0, 1) := by decide +kernel
theorem dX5_read_34 : decode cX5_read 34 = .ok (.getfield 37, 3) := by decide +kernel
theorem dX5_read_37 : decode cX5_read 37 = .ok (.iconst (-1), 1) := by decide +kernel
theorem dX5_read_38 : decode cX5_read 38 = .ok (.if_icmp .ne 5, 3) := by decide +kernel
theorem dX5_read_41 : decode cX5_read 41 = .ok (.iload_n 2, 1) := by decide +kernel
theorem dX5_read_42 : decode cX5_read 42 = .ok (.ireturn, 1) := by decide +kernel
theorem dX5_read_43 : decode cX5_read 43 = .ok (.aload_n 0, 1) := by decide +kernel
theorem dX5_read_44 : decode cX5_read 44 = .ok (.aload_n 1, 1) := by decide +kernel
theorem dX5_read_45 : decode cX5_read 45 = .ok (.invokevirtual 40, 3) := by decide +kernel
theorem dX5_read_48 : decode cX5_read 48 = .ok (.ifCond .ne 6, 3) := by decide +kernel
theorem dX5_read_51 : decode cX5_read 51 = .ok (.goto 9, 3) := by decide +kernel
theorem dX5_read_54 : decode cX5_read 54 = .ok (.iinc 2 1, 3) := by decide +kernel
theorem dX5_read_57 : decode cX5_read 57 = .ok (.goto (-36), 3) := by decide +kernel
theorem dX5_read_60 : decode cX5_read 60 = .ok (.bipush (-10), 2) := by decide +kernel
theorem dX5_read_62 : decode cX5_read 62 = .ok (.aload_n 0, 1) := by decide +kernel
theorem dX5_read_63 : decode cX5_read 63 = .ok (.getfield 44, 3) := by decide +kernel
theorem dX5_read_66 : decode cX5_read 66 = .ok (.isub, 1) := by decide +kernel
theorem dX5_read_67 : decode cX5_read 67 = .ok (.ireturn, 1) := by decide +kernel
set_option maxRecDepth 20000 in
theorem ggX5_readItem_X5_readBottle : GoodIn wsX5_readItem wsX5_readBottle := goodIn_r _ [6, 7, 8, 9, 10, 11, 12, 13, 14, 5, 15, 1, 16, 17, 18, 19, 20, 21, 22, 23, 24, 25, 26, 27, 28, 29, 30, 31, 32, 33, 34, 59, 60, 61, 62, 63, 64, 51, 52, 53, 54, 55, 56, 57, 58] (by decide +kernel) (by decide +kernel)
set_option maxRecDepth 20000 in
theorem gX5_readItem_X5_readBottle : GoodIn wsX5_readItem (wsV RX5 47 RX5 yX5_readBottle wsX5_readBottle) := goodIn_app (goodIn_of _ (by decide +kernel)) ggX5_readItem_X5_readBottle
set_option maxRecDepth 20000 in
theorem ggX5_readItem_X5_readSemicolon : GoodIn wsX5_readItem wsX5_readSemicolon := goodIn_r _ [38, 1, 16, 17, 18, 5, 19, 20, 21, 22, 23, 24, 25, 26, 27, 28, 29, 30, 9, 31, 32, 33, 34, 51, 52, 53, 54, 55, 56, 57, 58] (by decide +kernel) (by decide +kernel)
set_option maxRecDepth 20000 in
theorem gX5_readItem_X5_readSemicolon : GoodIn wsX5_readItem (wsV RX5 50 RX5 yX5_readSemicolon wsX5_readSemicolon) := goodIn_app (goodIn_of _ (by decide +kernel)) ggX5_readItem_X5_readSemicolon
set_option maxRecDepth 20000 in
theorem ggX5_readItem_X5_readKettle : GoodIn wsX5_readItem wsX5_readKettle := goodIn_r _ [42, 43, 9, 44, 12, 13, 14, 5, 15, 1, 16, 17, 18, 19, 20, 21, 22, 23, 24, 25, 26, 27, 28, 29, 30, 31, 32, 33, 34, 51, 52, 53, 54, 55, 56, 57, 58, 59, 60, 61, 62, 63, 64] (by decide +kernel) (by decide +kernel)
set_option maxRecDepth 20000 in
theorem gX5_readItem_X5_readKettle : GoodIn wsX5_readItem (wsV RX5 54 RX5 yX5_readKettle wsX5_readKettle) := goodIn_app (goodIn_of _ (by decide +kernel)) ggX5_readItem_X5_readKettle
set_option maxRecDepth 20000 in
theorem ggX5_readItem_X5_readPint : GoodIn wsX5_readItem wsX5_readPint := goodIn_r _ [48, 49, 9, 50, 12, 13, 14, 5, 15, 1, 16, 17, 18, 19, 20, 21, 22, 23, 24, 25, 26, 27, 28, 29, 30, 31, 32, 33, 34, 51, 52, 53, 54, 55, 56, 57, 58, 59, 60, 61, 62, 63, 64] (by decide +kernel) (by decide +kernel)
set_option maxRecDepth 20000 in
theorem gX5_readItem_X5_readPint : GoodIn wsX5_readItem (wsV RX5 57 RX5 yX5_readPint wsX5_readPint) := goodIn_app (goodIn_of _ (by decide +kernel)) ggX5_readItem_X5_readPint
theorem dX5_readItem_0 : decode cX5_readItem 0 = .ok (.aload_n 0, 1) := by decide +kernel
theorem dX5_readItem_1 : decode cX5_readItem 1 = .ok (.getfield 37, 3) := by decide +kernel
theorem dX5_readItem_4 : decode cX5_readItem 4 = .ok (.lookupswitch 99 #[(98, 36), (107, 57), (112, 78)], 36) := by decide +kernel
theorem dX5_readItem_40 : decode cX5_readItem 40 = .ok (.aload_n 0, 1) := by decide +kernel
theorem dX5_readItem_41 : decode cX5_readItem 41 = .ok (.aload_n 1, 1) := by decide +kernel
theorem dX5_readItem_42 : decode cX5_readItem 42 = .ok (.invokevirtual 47, 3) := by decide +kernel
theorem dX5_readItem_45 : decode cX5_readItem 45 = .ok (.ifCond .eq 14, 3) := by decide +kernel
theorem dX5_readItem_48 : decode cX5_readItem 48 = .ok (.aload_n 0, 1) := by decide +kernel
theorem dX5_readItem_49 : decode cX5_readItem 49 = .ok (.invokevirtual 50, 3) := by decide +kernel
theorem dX5_readItem_52 : decode cX5_readItem 52 = .ok (.ifCond .eq 7, 3) := by decide +kernel
theorem dX5_readItem_55 : decode cX5_readItem 55 = .ok (.iconst 1, 1) := by decide +kernel
theorem dX5_readItem_56 : decode cX5_readItem 56 = .ok (.goto 4, 3) := by decide +kernel
theorem dX5_readItem_59 : decode cX5_readItem 59 = .ok (.iconst 0, 1) := by decide +kernel
theorem dX5_readItem_60 : decode cX5_readItem 60 = .ok (.ireturn, 1) := by decide +kernel
theorem dX5_readItem_61 : decode cX5_readItem 61 = .ok (.aload_n 0, 1) := by decide +kernel
theorem dX5_readItem_62 : decode cX5_readItem 62 = .ok (.aload_n 1, 1) := by decide +kernel
theorem dX5_readItem_63 : decode cX5_readItem 63 = .ok (.invokevirtual 54, 3) := by decide +kernel
theorem dX5_readItem_66 : decode cX5_readItem 66 = .ok (.ifCond .eq 14, 3) := by decide +kernel
theorem dX5_readItem_69 : decode cX5_readItem 69 = .ok (.aload_n 0, 1) := by decide +kernel
theorem dX5_readItem_70 : decode cX5_readItem 70 = .ok (.invokevirtual 50, 3) := by decide +kernel
theorem dX5_readItem_73 : decode cX5_readItem 73 = .ok (.ifCond .eq 7, 3) := by decide +kernel
theorem dX5_readItem_76 : decode cX5_readItem 76 = .ok (.iconst 1, 1) := by decide +kernel
theorem dX5_readItem_77 : decode cX5_readItem 77 = .ok (.goto 4, 3) := by decide +kernel
theorem dX5_readItem_80 : decode cX5_readItem 80 = .ok (.iconst 0, 1) := by decide +kernel
theorem dX5_readItem_81 : decode cX5_readItem 81 = .ok (.ireturn, 1) := by decide +kernel
theorem dX5_readItem_82 : decode cX5_readItem 82 = .ok (.aload_n 0, 1) := by decide +kernel
theorem dX5_readItem_83 : decode cX5_readItem 83 = .ok (.aload_n 1, 1) := by decide +kernel
theorem dX5_readItem_84 : decode cX5_readItem 84 = .ok (.invokevirtual 57, 3) := by decide +kernel
theorem dX5_readItem_87 : decode cX5_readItem 87 = .ok (.ifCond .eq 14, 3) := by decide +kernel
theorem dX5_readItem_90 : decode cX5_readItem 90 = .ok (.aload_n 0, 1) := by decide +kernel
theorem dX5_readItem_91 : decode cX5_readItem 91 = .ok (.invokevirtual 50, 3) := by decide +kernel
theorem dX5_readItem_94 : decode cX5_readItem 94 = .ok (.ifCond .eq 7, 3) := by decide +kernel
theorem dX5_readItem_97 : decode cX5_readItem 97 = .ok (.iconst 1, 1) := by decide +kernel
theorem dX5_readItem_98 : decode cX5_readItem 98 = .ok (.goto 4, 3) := by decide +kernel
theorem dX5_readItem_101 : decode cX5_readItem 101 = .ok (.iconst 0, 1) := by decide +kernel
theorem dX5_readItem_102 : decode cX5_readItem 102 = .ok (.ireturn, 1) := by decide +kernel
theorem dX5_readItem_103 : decode cX5_readItem 103 = .ok (.iconst 0, 1) := by decide +kernel
theorem dX5_readItem_104 : decode cX5_readItem 104 = .ok (.ireturn, 1) := by decide +kernel
set_option maxRecDepth 20000 in
theorem ggX5_readBottle_X5_readNumber : GoodIn wsX5_readBottle wsX5_readNumber := goodIn_r _ [10, 11, 3, 12, 13, 14, 9, 15, 16, 17, 18, 19, 20, 21, 22, 23, 24, 25, 26, 27, 28, 29, 30, 37, 38, 39, 40, 41, 42, 43, 44] (by decide +kernel) (by decide +kernel)
set_option maxRecDepth 20000 in
theorem gX5_readBottle_X5_readNumber : GoodIn wsX5_readBottle (wsV RX5 63 RX5 yX5_readNumber wsX5_readNumber) := goodIn_app (goodIn_of _ (by decide +kernel)) ggX5_readBottle_X5_readNumber
theorem dX5_readBottle_0 : decode cX5_readBottle 0 = .ok (.aload_n 1, 1) := by decide +kernel
theorem dX5_readBottle_1 : decode cX5_readBottle 1 = .ok (.getfield 60, 3) := by decide +kernel
theorem dX5_readBottle_4 : decode cX5_readBottle 4 = .ok (.istore_n 2, 1) := by decide +kernel
theorem dX5_readBottle_5 : decode cX5_readBottle 5 = .ok (.iload_n 2, 1) := by decide +kernel
theorem dX5_readBottle_6 : decode cX5_readBottle 6 = .ok (.bipush 6, 2) := by decide +kernel
theorem dX5_readBottle_8 : decode cX5_readBottle 8 = .ok (.if_icmp .ge 13, 3) := by decide +kernel
theorem dX5_readBottle_11 : decode cX5_readBottle 11 = .ok (.aload_n 0, 1) := by decide +kernel
theorem dX5_readBottle_12 : decode cX5_readBottle 12 = .ok (.iconst 0, 1) := by decide +kernel
theorem dX5_readBottle_13 : decode cX5_readBottle 13 = .ok (.bipush 99, 2) := by decide +kernel
theorem dX5_readBottle_15 : decode cX5_readBottle 15 = .ok (.invokevirtual 63, 3) := by decide +kernel
theorem dX5_readBottle_18 : decode cX5_readBottle 18 = .ok (.ifCond .ne 5, 3) := by decide +kernel
theorem dX5_readBottle_21 : decode cX5_readBottle 21 = .ok (.iconst 0, 1) := by decide +kernel
theorem dX5_readBottle_22 : decode cX5_readBottle 22 = .ok (.ireturn, 1) := by decide +kernel
theorem dX5_readBottle_23 : decode cX5_readBottle 23 = .ok (.aload_n 1, 1) := by decide +kernel
theorem dX5_readBottle_24 : decode cX5_readBottle 24 = .ok (.getfield 67, 3) := by decide +kernel
theorem dX5_readBottle_27 : decode cX5_readBottle 27 = .ok (.iload_n 2, 1) := by decide +kernel
theorem dX5_readBottle_28 : decode cX5_readBottle 28 = .ok (.aload_n 0, 1) := by decide +kernel
theorem dX5_readBottle_29 : decode cX5_readBottle 29 = .ok (.getfield 71, 3) := by decide +kernel
theorem dX5_readBottle_32 : decode cX5_readBottle 32 = .ok (.iastore, 1) := by decide +kernel
theorem dX5_readBottle_33 : decode cX5_readBottle 33 = .ok (.aload_n 0, 1) := by decide +kernel
theorem dX5_readBottle_34 : decode cX5_readBottle 34 = .ok (.iconst 1, 1) := by decide +kernel
theorem dX5_readBottle_35 : decode cX5_readBottle 35 = .ok (.bipush 9, 2) := by decide +kernel
theorem dX5_readBottle_37 : decode cX5_readBottle 37 = .ok (.invokevirtual 63, 3) := by decide +kernel
theorem dX5_readBottle_40 : decode cX5_readBottle 40 = .ok (.ifCond .ne 5, 3) := by decide +kernel
theorem dX5_readBottle_43 : decode cX5_readBottle 43 = .ok (.iconst 0, 1) := by decide +kernel
theorem dX5_readBottle_44 : decode cX5_readBottle 44 = .ok (.ireturn, 1) := by decide +kernel
theorem dX5_readBottle_45 : decode cX5_readBottle 45 = .ok (.aload_n 1, 1) := by decide +kernel
theorem dX5_readBottle_46 : decode cX5_readBottle 46 = .ok (.getfield 74, 3) := by decide +kernel
theorem dX5_readBottle_49 : decode cX5_readBottle 49 = .ok (.iload_n 2, 1) := by decide +kernel
theorem dX5_readBottle_50 : decode cX5_readBottle 50 = .ok (.aload_n 0, 1) := by decide +kernel
theorem dX5_readBottle_51 : decode cX5_readBottle 51 = .ok (.getfield 71, 3) := by decide +kernel
theorem dX5_readBottle_54 : decode cX5_readBottle 54 = .ok (.iastore, 1) := by decide +kernel
theorem dX5_readBottle_55 : decode cX5_readBottle 55 = .ok (.aload_n 0, 1) := by decide +kernel
theorem dX5_readBottle_56 : decode cX5_readBottle 56 = .ok (.iconst 0, 1) := by decide +kernel
theorem dX5_readBottle_57 : decode cX5_readBottle 57 = .ok (.bipush 99, 2) := by decide +kernel
theorem dX5_readBottle_59 : decode cX5_readBottle 59 = .ok (.invokevirtual 63, 3) := by decide +kernel
theorem dX5_readBottle_62 : decode cX5_readBottle 62 = .ok (.ifCond .ne 5, 3) := by decide +kernel
theorem dX5_readBottle_65 : decode cX5_readBottle 65 = .ok (.iconst 0, 1) := by decide +kernel
theorem dX5_readBottle_66 : decode cX5_readBottle 66 = .ok (.ireturn, 1) := by decide +kernel
theorem dX5_readBottle_67 : decode cX5_readBottle 67 = .ok (.aload_n 1, 1) := by decide +kernel
theorem dX5_readBottle_68 : decode cX5_readBottle 68 = .ok (.getfield 77, 3) := by decide +kernel
theorem dX5_readBottle_71 : decode cX5_readBottle 71 = .ok (.iload_n 2, 1) := by decide +kernel
theorem dX5_readBottle_72 : decode cX5_readBottle 72 = .ok (.aload_n 0, 1) := by decide +kernel
theorem dX5_readBottle_73 : decode cX5_readBottle 73 = .ok (.getfield 71, 3) := by decide +kernel
theorem dX5_readBottle_76 : decode cX5_readBottle 76 = .ok (.iastore, 1) := by decide +kernel
theorem dX5_readBottle_77 : decode cX5_readBottle 77 = .ok (.aload_n 1, 1) := by decide +kernel
theorem dX5_readBottle_78 : decode cX5_readBottle 78 = .ok (.iload_n 2, 1) := by decide +kernel
theorem dX5_readBottle_79 : decode cX5_readBottle 79 = .ok (.iconst 1, 1) := by decide +kernel
theorem dX5_readBottle_80 : decode cX5_readBottle 80 = .ok (.iadd, 1) := by decide +kernel
theorem dX5_readBottle_81 : decode cX5_readBottle 81 = .ok (.putfield 60, 3) := by decide +kernel
theorem dX5_readBottle_84 : decode cX5_readBottle 84 = .ok (.iconst 1, 1) := by decide +kernel
theorem dX5_readBottle_85 : decode cX5_readBottle 85 = .ok (.ireturn, 1) := by decide +kernel
set_option maxRecDepth 20000 in
theorem ggX5_readKettle_X5_readNumber : GoodIn wsX5_readKettle wsX5_readNumber := goodIn_r _ [8, 9, 2, 10, 11, 12, 7, 13, 14, 15, 16, 17, 18, 19, 20, 21, 22, 23, 24, 25, 26, 27, 28, 29, 30, 31, 32, 33, 34, 35, 36] (by decide +kernel) (by decide +kernel)
set_option maxRecDepth 20000 in
theorem gX5_readKettle_X5_readNumber : GoodIn wsX5_readKettle (wsV RX5 63 RX5 yX5_readNumber wsX5_readNumber) := goodIn_app (goodIn_of _ (by decide +kernel)) ggX5_readKettle_X5_readNumber
theorem dX5_readKettle_0 : decode cX5_readKettle 0 = .ok (.aload_n 0, 1) := by decide +kernel
theorem dX5_readKettle_1 : decode cX5_readKettle 1 = .ok (.getfield 27, 3) := by decide +kernel
theorem dX5_readKettle_4 : decode cX5_readKettle 4 = .ok (.ifCond .ne 13, 3) := by decide +kernel
theorem dX5_readKettle_7 : decode cX5_readKettle 7 = .ok (.aload_n 0, 1) := by decide +kernel
theorem dX5_readKettle_8 : decode cX5_readKettle 8 = .ok (.iconst 0, 1) := by decide +kernel
theorem dX5_readKettle_9 : decode cX5_readKettle 9 = .ok (.bipush 60, 2) := by decide +kernel
theorem dX5_readKettle_11 : decode cX5_readKettle 11 = .ok (.invokevirtual 63, 3) := by decide +kernel
theorem dX5_readKettle_14 : decode cX5_readKettle 14 = .ok (.ifCond .ne 5, 3) := by decide +kernel
theorem dX5_readKettle_17 : decode cX5_readKettle 17 = .ok (.iconst 0, 1) := by decide +kernel
theorem dX5_readKettle_18 : decode cX5_readKettle 18 = .ok (.ireturn, 1) := by decide +kernel
theorem dX5_readKettle_19 : decode cX5_readKettle 19 = .ok (.aload_n 0, 1) := by decide +kernel
theorem dX5_readKettle_20 : decode cX5_readKettle 20 = .ok (.iconst 1, 1) := by decide +kernel
theorem dX5_readKettle_21 : decode cX5_readKettle 21 = .ok (.putfield 27, 3) := by decide +kernel
theorem dX5_readKettle_24 : decode cX5_readKettle 24 = .ok (.aload_n 1, 1) := by decide +kernel
theorem dX5_readKettle_25 : decode cX5_readKettle 25 = .ok (.aload_n 0, 1) := by decide +kernel
theorem dX5_readKettle_26 : decode cX5_readKettle 26 = .ok (.getfield 71, 3) := by decide +kernel
theorem dX5_readKettle_29 : decode cX5_readKettle 29 = .ok (.putfield 80, 3) := by decide +kernel
theorem dX5_readKettle_32 : decode cX5_readKettle 32 = .ok (.iconst 1, 1) := by decide +kernel
theorem dX5_readKettle_33 : decode cX5_readKettle 33 = .ok (.ireturn, 1) := by decide +kernel
set_option maxRecDepth 20000 in
theorem ggX5_readPint_X5_readNumber : GoodIn wsX5_readPint wsX5_readNumber := goodIn_r _ [8, 9, 2, 10, 11, 12, 7, 13, 14, 15, 16, 17, 18, 19, 20, 21, 22, 23, 24, 25, 26, 27, 28, 29, 30, 31, 32, 33, 34, 35, 36] (by decide +kernel) (by decide +kernel)
set_option maxRecDepth 20000 in
theorem gX5_readPint_X5_readNumber : GoodIn wsX5_readPint (wsV RX5 63 RX5 yX5_readNumber wsX5_readNumber) := goodIn_app (goodIn_of _ (by decide +kernel)) ggX5_readPint_X5_readNumber
theorem dX5_readPint_0 : decode cX5_readPint 0 = .ok (.aload_n 0, 1) := by decide +kernel
theorem dX5_readPint_1 : decode cX5_readPint 1 = .ok (.getfield 31, 3) := by decide +kernel
theorem dX5_readPint_4 : decode cX5_readPint 4 = .ok (.ifCond .ne 13, 3) := by decide +kernel
theorem dX5_readPint_7 : decode cX5_readPint 7 = .ok (.aload_n 0, 1) := by decide +kernel
theorem dX5_readPint_8 : decode cX5_readPint 8 = .ok (.iconst 1, 1) := by decide +kernel
theorem dX5_readPint_9 : decode cX5_readPint 9 = .ok (.bipush 30, 2) := by decide +kernel
theorem dX5_readPint_11 : decode cX5_readPint 11 = .ok (.invokevirtual 63, 3) := by decide +kernel
theorem dX5_readPint_14 : decode cX5_readPint 14 = .ok (.ifCond .ne 5, 3) := by decide +kernel
theorem dX5_readPint_17 : decode cX5_readPint 17 = .ok (.iconst 0, 1) := by decide +kernel
theorem dX5_readPint_18 : decode cX5_readPint 18 = .ok (.ireturn, 1) := by decide +kernel
theorem dX5_readPint_19 : decode cX5_readPint 19 = .ok (.aload_n 0, 1) := by decide +kernel
theorem dX5_readPint_20 : decode cX5_readPint 20 = .ok (.iconst 1, 1) := by decide +kernel
theorem dX5_readPint_21 : decode cX5_readPint 21 = .ok (.putfield 31, 3) := by decide +kernel
theorem dX5_readPint_24 : decode cX5_readPint 24 = .ok (.aload_n 1, 1) := by decide +kernel
theorem dX5_readPint_25 : decode cX5_readPint 25 = .ok (.aload_n 0, 1) := by decide +kernel
theorem dX5_readPint_26 : decode cX5_readPint 26 = .ok (.getfield 71, 3) := by decide +kernel
theorem dX5_readPint_29 : decode cX5_readPint 29 = .ok (.putfield 83, 3) := by decide +kernel
theorem dX5_readPint_32 : decode cX5_readPint 32 = .ok (.iconst 1, 1) := by decide +kernel
theorem dX5_readPint_33 : decode cX5_readPint 33 = .ok (.ireturn, 1) := by decide +kernel
set_option maxRecDepth 20000 in
theorem ggX5_readNumber_X5_readToken : GoodIn wsX5_readNumber wsX5_readToken := goodIn_r _ [7, 8, 9, 10, 11, 1, 12, 13, 6, 14, 15, 16, 17, 18, 2, 19, 20, 21, 22, 23, 24, 25, 26, 27, 28, 29, 30] (by decide +kernel) (by decide +kernel)
set_option maxRecDepth 20000 in
theorem gX5_readNumber_X5_readToken : GoodIn wsX5_readNumber (wsV RX5 34 RX5 yX5_readToken wsX5_readToken) := goodIn_app (goodIn_of _ (by decide +kernel)) ggX5_readNumber_X5_readToken
theorem dX5_readNumber_0 : decode cX5_readNumber 0 = .ok (.aload_n 0, 1) := by decide +kernel
theorem dX5_readNumber_1 : decode cX5_readNumber 1 = .ok (.invokevirtual 34, 3) := by decide +kernel
theorem dX5_readNumber_4 : decode cX5_readNumber 4 = .ok (.aload_n 0, 1) := by decide +kernel
theorem dX5_readNumber_5 : decode cX5_readNumber 5 = .ok (.getfield 37, 3) := by decide +kernel
theorem dX5_readNumber_8 : decode cX5_readNumber 8 = .ok (.bipush (-2), 2) := by decide +kernel
theorem dX5_readNumber_10 : decode cX5_readNumber 10 = .ok (.if_icmp .ne 23, 3) := by decide +kernel
theorem dX5_readNumber_13 : decode cX5_readNumber 13 = .ok (.aload_n 0, 1) := by decide +kernel
theorem dX5_readNumber_14 : decode cX5_readNumber 14 = .ok (.getfield 71, 3) := by decide +kernel
theorem dX5_readNumber_17 : decode cX5_readNumber 17 = .ok (.iload_n 1, 1) := by decide +kernel
theorem dX5_readNumber_18 : decode cX5_readNumber 18 = .ok (.if_icmp .lt 15, 3) := by decide +kernel
theorem dX5_readNumber_21 : decode cX5_readNumber 21 = .ok (.aload_n 0, 1) := by decide +kernel
theorem dX5_readNumber_22 : decode cX5_readNumber 22 = .ok (.getfield 71, 3) := by decide +kernel
theorem dX5_readNumber_25 : decode cX5_readNumber 25 = .ok (.iload_n 2, 1) := by decide +kernel
theorem dX5_readNumber_26 : decode cX5_readNumber 26 = .ok (.if_icmp .gt 7, 3) := by decide +kernel
theorem dX5_readNumber_29 : decode cX5_readNumber 29 = .ok (.iconst 1, 1) := by decide +kernel
theorem dX5_readNumber_30 : decode cX5_readNumber 30 = .ok (.goto 4, 3) := by decide +kernel
theorem dX5_readNumber_33 : decode cX5_readNumber 33 = .ok (.iconst 0, 1) := by decide +kernel
theorem dX5_readNumber_34 : decode cX5_readNumber 34 = .ok (.ireturn, 1) := by decide +kernel
set_option maxRecDepth 20000 in
theorem ggX5_readSemicolon_X5_readToken : GoodIn wsX5_readSemicolon wsX5_readToken := goodIn_r _ [6, 7, 8, 9, 10, 1, 11, 12, 5, 13, 14, 15, 16, 17, 18, 19, 20, 21, 22, 23, 24, 25, 26, 27, 28, 29, 30] (by decide +kernel) (by decide +kernel)
set_option maxRecDepth 20000 in
theorem gX5_readSemicolon_X5_readToken : GoodIn wsX5_readSemicolon (wsV RX5 34 RX5 yX5_readToken wsX5_readToken) := goodIn_app (goodIn_of _ (by decide +kernel)) ggX5_readSemicolon_X5_readToken
theorem dX5_readSemicolon_0 : decode cX5_readSemicolon 0 = .ok (.aload_n 0, 1) := by decide +kernel
theorem dX5_readSemicolon_1 : decode cX5_readSemicolon 1 = .ok (.invokevirtual 34, 3) := by decide +kernel
theorem dX5_readSemicolon_4 : decode cX5_readSemicolon 4 = .ok (.aload_n 0, 1) := by decide +kernel
theorem dX5_readSemicolon_5 : decode cX5_readSemicolon 5 = .ok (.getfield 37, 3) := by decide +kernel
theorem dX5_readSemicolon_8 : decode cX5_readSemicolon 8 = .ok (.bipush 59, 2) := by decide +kernel
theorem dX5_readSemicolon_10 : decode cX5_readSemicolon 10 = .ok (.if_icmp .ne 7, 3) := by decide +kernel
theorem dX5_readSemicolon_13 : decode cX5_readSemicolon 13 = .ok (.iconst 1, 1) := by decide +kernel
theorem dX5_readSemicolon_14 : decode cX5_readSemicolon 14 = .ok (.goto 4, 3) := by decide +kernel
theorem dX5_readSemicolon_17 : decode cX5_readSemicolon 17 = .ok (.iconst 0, 1) := by decide +kernel
theorem dX5_readSemicolon_18 : decode cX5_readSemicolon 18 = .ok (.ireturn, 1) := by decide +kernel
set_option maxRecDepth 20000 in
theorem ggX5_readToken_X5_isDigit : GoodIn wsX5_readToken wsX5_isDigit := goodIn_r _ [9] (by decide +kernel) (by decide +kernel)
set_option maxRecDepth 20000 in
theorem gX5_readToken_X5_isDigit : GoodIn wsX5_readToken (va_wsS RX5 86 yX5_isDigit wsX5_isDigit) := goodIn_app (goodIn_of _ (by decide +kernel)) ggX5_readToken_X5_isDigit
set_option maxRecDepth 20000 in
theorem ggX5_readToken_X5_readDigits : GoodIn wsX5_readToken wsX5_readDigits := goodIn_r _ [13, 14, 1, 2, 3, 15, 16, 17, 18, 4, 5, 6, 7, 8, 9, 19, 20, 21, 22, 23, 24, 25, 26] (by decide +kernel) (by decide +kernel)
set_option maxRecDepth 20000 in
theorem gX5_readToken_X5_readDigits : GoodIn wsX5_readToken (wsV RX5 90 RX5 yX5_readDigits wsX5_readDigits) := goodIn_app (goodIn_of _ (by decide +kernel)) ggX5_readToken_X5_readDigits
theorem dX5_readToken_0 : decode cX5_readToken 0 = .ok (.aload_n 0, 1) := by decide +kernel
theorem dX5_readToken_1 : decode cX5_readToken 1 = .ok (.getfield 24, 3) := by decide +kernel
theorem dX5_readToken_4 : decode cX5_readToken 4 = .ok (.aload_n 0, 1) := by decide +kernel
theorem dX5_readToken_5 : decode cX5_readToken 5 = .ok (.getfield 15, 3) := by decide +kernel
theorem dX5_readToken_8 : decode cX5_readToken 8 = .ok (.if_icmp .ge 30, 3) := by decide +kernel
theorem dX5_readToken_11 : decode cX5_readToken 11 = .ok (.aload_n 0, 1) := by decide +kernel
theorem dX5_readToken_12 : decode cX5_readToken 12 = .ok (.getfield 9, 3) := by decide +kernel
theorem dX5_readToken_15 : decode cX5_readToken 15 = .ok (.aload_n 0, 1) := by decide +kernel
theorem dX5_readToken_16 : decode cX5_readToken 16 = .ok (.getfield 24, 3) := by decide +kernel
theorem dX5_readToken_19 : decode cX5_readToken 19 = .ok (.caload, 1) := by decide +kernel
theorem dX5_readToken_20 : decode cX5_readToken 20 = .ok (.bipush 32, 2) := by decide +kernel
theorem dX5_readToken_22 : decode cX5_readToken 22 = .ok (.if_icmp .ne 16, 3) := by decide +kernel
theorem dX5_readToken_25 : decode cX5_readToken 25 = .ok (.aload_n 0, 1) := by decide +kernel
theorem dX5_readToken_26 : decode cX5_readToken 26 = .ok (.dup, 1) := by decide +kernel
theorem dX5_readToken_27 : decode cX5_readToken 27 = .ok (.getfield 24, 3) := by decide +kernel
theorem dX5_readToken_30 : decode cX5_readToken 30 = .ok (.iconst 1, 1) := by decide +kernel
theorem dX5_readToken_31 : decode cX5_readToken 31 = .ok (.iadd, 1) := by decide +kernel
theorem dX5_readToken_32 : decode cX5_readToken 32 = .ok (.putfield 24, 3) := by decide +kernel
theorem dX5_readToken_35 : decode cX5_readToken 35 = .ok (.goto (-35), 3) := by decide +kernel
theorem dX5_readToken_38 : decode cX5_readToken 38 = .ok (.aload_n 0, 1) := by decide +kernel
theorem dX5_readToken_39 : decode cX5_readToken 39 = .ok (.aload_n 0, 1) := by decide +kernel
theorem dX5_readToken_40 : decode cX5_readToken 40 = .ok (.getfield 24, 3) := by decide +kernel
theorem dX5_readToken_43 : decode cX5_readToken 43 = .ok (.putfield 44, 3) := by decide +kernel
theorem dX5_readToken_46 : decode cX5_readToken 46 = .ok (.aload_n 0, 1) := by decide +kernel
theorem dX5_readToken_47 : decode cX5_readToken 47 = .ok (.getfield 24, 3) := by decide +kernel
theorem dX5_readToken_50 : decode cX5_readToken 50 = .ok (.aload_n 0, 1) := by decide +kernel
theorem dX5_readToken_51 : decode cX5_readToken 51 = .ok (.getfield 15, 3) := by decide +kernel
theorem dX5_readToken_54 : decode cX5_readToken 54 = .ok (.if_icmp .lt 11, 3) := by decide +kernel
theorem dX5_readToken_57 : decode cX5_readToken 57 = .ok (.aload_n 0, 1) := by decide +kernel
theorem dX5_readToken_58 : decode cX5_readToken 58 = .ok (.iconst (-1), 1) := by decide +kernel
theorem dX5_readToken_59 : decode cX5_readToken 59 = .ok (.putfield 37, 3) := by decide +kernel
theorem dX5_readToken_62 : decode cX5_readToken 62 = .ok (.goto 48, 3) := by decide +kernel
theorem dX5_readToken_65 : decode cX5_readToken 65 = .ok (.aload_n 0, 1) := by decide +kernel
theorem dX5_readToken_66 : decode cX5_readToken 66 = .ok (.getfield 9, 3) := by decide +kernel
theorem dX5_readToken_69 : decode cX5_readToken 69 = .ok (.aload_n 0, 1) := by decide +kernel
theorem dX5_readToken_70 : decode cX5_readToken 70 = .ok (.getfield 24, 3) := by decide +kernel
theorem dX5_readToken_73 : decode cX5_readToken 73 = .ok (.caload, 1) := by decide +kernel
theorem dX5_readToken_74 : decode cX5_readToken 74 = .ok (.invokestatic 86, 3) := by decide +kernel
theorem dX5_readToken_77 : decode cX5_readToken 77 = .ok (.ifCond .eq 10, 3) := by decide +kernel
theorem dX5_readToken_80 : decode cX5_readToken 80 = .ok (.aload_n 0, 1) := by decide +kernel
theorem dX5_readToken_81 : decode cX5_readToken 81 = .ok (.invokevirtual 90, 3) := by decide +kernel
theorem dX5_readToken_84 : decode cX5_readToken 84 = .ok (.goto 26, 3) := by decide +kernel
theorem dX5_readToken_87 : decode cX5_readToken 87 = .ok (.aload_n 0, 1) := by decide +kernel
theorem dX5_readToken_88 : decode cX5_readToken 88 = .ok (.aload_n 0, 1) := by decide +kernel
theorem dX5_readToken_89 : decode cX5_readToken 89 = .ok (.getfield 9, 3) := by decide +kernel
theorem dX5_readToken_92 : decode cX5_readToken 92 = .ok (.aload_n 0, 1) := by decide +kernel
theorem dX5_readToken_93 : decode cX5_readToken 93 = .ok (.getfield 24, 3) := by decide +kernel
theorem dX5_readToken_96 : decode cX5_readToken 96 = .ok (.caload, 1) := by decide +kernel
theorem dX5_readToken_97 : decode cX5_readToken 97 = .ok (.putfield 37, 3) := by decide +kernel
theorem dX5_readToken_100 : decode cX5_readToken 100 = .ok (.aload_n 0, 1) := by decide +kernel
theorem dX5_readToken_101 : decode cX5_readToken 101 = .ok (.dup, 1) := by decide +kernel
theorem dX5_readToken_102 : decode cX5_readToken 102 = .ok (.getfield 24, 3) := by decide +kernel
theorem dX5_readToken_105 : decode cX5_readToken 105 = .ok (.iconst 1, 1) := by decide +kernel
theorem dX5_readToken_106 : decode cX5_readToken 106 = .ok (.iadd, 1) := by decide +kernel
theorem dX5_readToken_107 : decode cX5_readToken 107 = .ok (.putfield 24, 3) := by decide +kernel
theorem dX5_readToken_110 : decode cX5_readToken 110 = .ok (.return_, 1) := by decide +kernel
set_option maxRecDepth 20000 in
theorem ggX5_readDigits_X5_isDigit : GoodIn wsX5_readDigits wsX5_isDigit := goodIn_r _ [14] (by decide +kernel) (by decide +kernel)
set_option maxRecDepth 20000 in
theorem gX5_readDigits_X5_isDigit : GoodIn wsX5_readDigits (va_wsS RX5 86 yX5_isDigit wsX5_isDigit) := goodIn_app (goodIn_of _ (by decide +kernel)) ggX5_readDigits_X5_isDigit
theorem dX5_readDigits_0 : decode cX5_readDigits 0 = .ok (.aload_n 0, 1) := by decide +kernel
theorem dX5_readDigits_1 : decode cX5_readDigits 1 = .ok (.iconst 0, 1) := by decide +kernel
theorem dX5_readDigits_2 : decode cX5_readDigits 2 = .ok (.putfield 71, 3) := by decide +kernel
theorem dX5_readDigits_5 : decode cX5_readDigits 5 = .ok (.aload_n 0, 1) := by decide +kernel
theorem dX5_readDigits_6 : decode cX5_readDigits 6 = .ok (.getfield 24, 3) := by decide +kernel
theorem dX5_readDigits_9 : decode cX5_readDigits 9 = .ok (.aload_n 0, 1) := by decide +kernel
theorem dX5_readDigits_10 : decode cX5_readDigits 10 = .ok (.getfield 15, 3) := by decide +kernel
theorem dX5_readDigits_13 : decode cX5_readDigits 13 = .ok (.if_icmp .ge 60, 3) := by decide +kernel
theorem dX5_readDigits_16 : decode cX5_readDigits 16 = .ok (.aload_n 0, 1) := by decide +kernel
theorem dX5_readDigits_17 : decode cX5_readDigits 17 = .ok (.getfield 9, 3) := by decide +kernel
theorem dX5_readDigits_20 : decode cX5_readDigits 20 = .ok (.aload_n 0, 1) := by decide +kernel
theorem dX5_readDigits_21 : decode cX5_readDigits 21 = .ok (.getfield 24, 3) := by decide +kernel
theorem dX5_readDigits_24 : decode cX5_readDigits 24 = .ok (.caload, 1) := by decide +kernel
theorem dX5_readDigits_25 : decode cX5_readDigits 25 = .ok (.invokestatic 86, 3) := by decide +kernel
theorem dX5_readDigits_28 : decode cX5_readDigits 28 = .ok (.ifCond .eq 45, 3) := by decide +kernel
theorem dX5_readDigits_31 : decode cX5_readDigits 31 = .ok (.aload_n 0, 1) := by decide +kernel
theorem dX5_readDigits_32 : decode cX5_readDigits 32 = .ok (.bipush 100, 2) := by decide +kernel
theorem dX5_readDigits_34 : decode cX5_readDigits 34 = .ok (.aload_n 0, 1) := by decide +kernel
theorem dX5_readDigits_35 : decode cX5_readDigits 35 = .ok (.getfield 71, 3) := by decide +kernel
theorem dX5_readDigits_38 : decode cX5_readDigits 38 = .ok (.bipush 10, 2) := by decide +kernel
theorem dX5_readDigits_40 : decode cX5_readDigits 40 = .ok (.imul, 1) := by decide +kernel
theorem dX5_readDigits_41 : decode cX5_readDigits 41 = .ok (.aload_n 0, 1) := by decide +kernel
theorem dX5_readDigits_42 : decode cX5_readDigits 42 = .ok (.getfield 9, 3) := by decide +kernel
theorem dX5_readDigits_45 : decode cX5_readDigits 45 = .ok (.aload_n 0, 1) := by decide +kernel
theorem dX5_readDigits_46 : decode cX5_readDigits 46 = .ok (.getfield 24, 3) := by decide +kernel
theorem dX5_readDigits_49 : decode cX5_readDigits 49 = .ok (.caload, 1) := by decide +kernel
theorem dX5_readDigits_50 : decode cX5_readDigits 50 = .ok (.bipush 48, 2) := by decide +kernel
theorem dX5_readDigits_52 : decode cX5_readDigits 52 = .ok (.isub, 1) := by decide +kernel
theorem dX5_readDigits_53 : decode cX5_readDigits 53 = .ok (.iadd, 1) := by decide +kernel
theorem dX5_readDigits_54 : decode cX5_readDigits 54 = .ok (.invokestatic 93, 3) := by decide +kernel
theorem dX5_readDigits_57 : decode cX5_readDigits 57 = .ok (.putfield 71, 3) := by decide +kernel
theorem dX5_readDigits_60 : decode cX5_readDigits 60 = .ok (.aload_n 0, 1) := by decide +kernel
theorem dX5_readDigits_61 : decode cX5_readDigits 61 = .ok (.dup, 1) := by decide +kernel
theorem dX5_readDigits_62 : decode cX5_readDigits 62 = .ok (.getfield 24, 3) := by decide +kernel
theorem dX5_readDigits_65 : decode cX5_readDigits 65 = .ok (.iconst 1, 1) := by decide +kernel
theorem dX5_readDigits_66 : decode cX5_readDigits 66 = .ok (.iadd, 1) := by decide +kernel
theorem dX5_readDigits_67 : decode cX5_readDigits 67 = .ok (.putfield 24, 3) := by decide +kernel
theorem dX5_readDigits_70 : decode cX5_readDigits 70 = .ok (.goto (-65), 3) := by decide +kernel
theorem dX5_readDigits_73 : decode cX5_readDigits 73 = .ok (.aload_n 0, 1) := by decide +kernel
theorem dX5_readDigits_74 : decode cX5_readDigits 74 = .ok (.getfield 9, 3) := by decide +kernel
theorem dX5_readDigits_77 : decode cX5_readDigits 77 = .ok (.aload_n 0, 1) := by decide +kernel
theorem dX5_readDigits_78 : decode cX5_readDigits 78 = .ok (.getfield 44, 3) := by decide +kernel
theorem dX5_readDigits_81 : decode cX5_readDigits 81 = .ok (.caload, 1) := by decide +kernel
theorem dX5_readDigits_82 : decode cX5_readDigits 82 = .ok (.bipush 48, 2) := by decide +kernel
theorem dX5_readDigits_84 : decode cX5_readDigits 84 = .ok (.if_icmp .ne 20, 3) := by decide +kernel
theorem dX5_readDigits_87 : decode cX5_readDigits 87 = .ok (.aload_n 0, 1) := by decide +kernel
theorem dX5_readDigits_88 : decode cX5_readDigits 88 = .ok (.getfield 24, 3) := by decide +kernel
theorem dX5_readDigits_91 : decode cX5_readDigits 91 = .ok (.aload_n 0, 1) := by decide +kernel
theorem dX5_readDigits_92 : decode cX5_readDigits 92 = .ok (.getfield 44, 3) := by decide +kernel
theorem dX5_readDigits_95 : decode cX5_readDigits 95 = .ok (.iconst 1, 1) := by decide +kernel
theorem dX5_readDigits_96 : decode cX5_readDigits 96 = .ok (.iadd, 1) := by decide +kernel
theorem dX5_readDigits_97 : decode cX5_readDigits 97 = .ok (.if_icmp .le 7, 3) := by decide +kernel
theorem dX5_readDigits_100 : decode cX5_readDigits 100 = .ok (.iconst 1, 1) := by decide +kernel
theorem dX5_readDigits_101 : decode cX5_readDigits 101 = .ok (.goto 4, 3) := by decide +kernel
theorem dX5_readDigits_104 : decode cX5_readDigits 104 = .ok (.iconst 0, 1) := by decide +kernel
theorem dX5_readDigits_105 : decode cX5_readDigits 105 = .ok (.istore_n 1, 1) := by decide +kernel
theorem dX5_readDigits_106 : decode cX5_readDigits 106 = .ok (.aload_n 0, 1) := by decide +kernel
theorem dX5_readDigits_107 : decode cX5_readDigits 107 = .ok (.iload_n 1, 1) := by decide +kernel
theorem dX5_readDigits_108 : decode cX5_readDigits 108 = .ok (.ifCond .eq 8, 3) := by decide +kernel
theorem dX5_readDigits_111 : decode cX5_readDigits 111 = .ok (.bipush (-3), 2) := by decide +kernel
theorem dX5_readDigits_113 : decode cX5_readDigits 113 = .ok (.goto 5, 3) := by decide +kernel
theorem dX5_readDigits_116 : decode cX5_readDigits 116 = .ok (.bipush (-2), 2) := by decide +kernel
theorem dX5_readDigits_118 : decode cX5_readDigits 118 = .ok (.putfield 37, 3) := by decide +kernel
theorem dX5_readDigits_121 : decode cX5_readDigits 121 = .ok (.return_, 1) := by decide +kernel
theorem dX5_isDigit_0 : decode cX5_isDigit 0 = .ok (.iload_n 0, 1) := by decide +kernel
theorem dX5_isDigit_1 : decode cX5_isDigit 1 = .ok (.bipush 48, 2) := by decide +kernel
theorem dX5_isDigit_3 : decode cX5_isDigit 3 = .ok (.if_icmp .lt 13, 3) := by decide +kernel
theorem dX5_isDigit_6 : decode cX5_isDigit 6 = .ok (.iload_n 0, 1) := by decide +kernel
theorem dX5_isDigit_7 : decode cX5_isDigit 7 = .ok (.bipush 57, 2) := by decide +kernel
theorem dX5_isDigit_9 : decode cX5_isDigit 9 = .ok (.if_icmp .gt 7, 3) := by decide +kernel
theorem dX5_isDigit_12 : decode cX5_isDigit 12 = .ok (.iconst 1, 1) := by decide +kernel
theorem dX5_isDigit_13 : decode cX5_isDigit 13 = .ok (.goto 4, 3) := by decide +kernel
theorem dX5_isDigit_16 : decode cX5_isDigit 16 = .ok (.iconst 0, 1) := by decide +kernel
theorem dX5_isDigit_17 : decode cX5_isDigit 17 = .ok (.ireturn, 1) := by decide +kernel
set_option maxRecDepth 20000 in
theorem ggX6_init_X6_beAsAtFirst : GoodIn wsX6_init wsX6_beAsAtFirst := goodIn_r _ [12, 13, 14, 15, 16, 17, 18, 19, 20, 21] (by decide +kernel) (by decide +kernel)
set_option maxRecDepth 20000 in
theorem gX6_init_X6_beAsAtFirst : GoodIn wsX6_init (wsV RX6 21 RX6 yX6_beAsAtFirst wsX6_beAsAtFirst) := goodIn_app (goodIn_of _ (by decide +kernel)) ggX6_init_X6_beAsAtFirst
theorem dX6_init_0 : decode cX6_init 0 = .ok (.aload_n 0, 1) := by decide +kernel
theorem dX6_init_1 : decode cX6_init 1 = .ok (.invokespecial 3, 3) := by decide +kernel
theorem dX6_init_4 : decode cX6_init 4 = .ok (.aload_n 0, 1) := by decide +kernel
theorem dX6_init_5 : decode cX6_init 5 = .ok (.bipush 6, 2) := by decide +kernel
theorem dX6_init_7 : decode cX6_init 7 = .ok (.newarray .int, 2) := by decide +kernel
theorem dX6_init_9 : decode cX6_init 9 = .ok (.putfield 9, 3) := by decide +kernel
theorem dX6_init_12 : decode cX6_init 12 = .ok (.aload_n 0, 1) := by decide +kernel
theorem dX6_init_13 : decode cX6_init 13 = .ok (.bipush 6, 2) := by decide +kernel
theorem dX6_init_15 : decode cX6_init 15 = .ok (.newarray .int, 2) := by decide +kernel
theorem dX6_init_17 : decode cX6_init 17 = .ok (.putfield 15, 3) := by decide +kernel
theorem dX6_init_20 : decode cX6_init 20 = .ok (.aload_n 0, 1) := by decide +kernel
theorem dX6_init_21 : decode cX6_init 21 = .ok (.bipush 6, 2) := by decide +kernel
theorem dX6_init_23 : decode cX6_init 23 = .ok (.newarray .int, 2) := by decide +kernel
theorem dX6_init_25 : decode cX6_init 25 = .ok (.putfield 18, 3) := by decide +kernel
theorem dX6_init_28 : decode cX6_init 28 = .ok (.aload_n 0, 1) := by decide +kernel
theorem dX6_init_29 : decode cX6_init 29 = .ok (.invokevirtual 21, 3) := by decide +kernel
theorem dX6_init_32 : decode cX6_init 32 = .ok (.return_, 1) := by decide +kernel
theorem dX6_beAsAtFirst_0 : decode cX6_beAsAtFirst 0 = .ok (.aload_n 0, 1) := by decide +kernel
theorem dX6_beAsAtFirst_1 : decode cX6_beAsAtFirst 1 = .ok (.iconst 0, 1) := by decide +kernel
theorem dX6_beAsAtFirst_2 : decode cX6_beAsAtFirst 2 = .ok (.putfield 24, 3) := by decide +kernel
theorem dX6_beAsAtFirst_5 : decode cX6_beAsAtFirst 5 = .ok (.aload_n 0, 1) := by decide +kernel
theorem dX6_beAsAtFirst_6 : decode cX6_beAsAtFirst 6 = .ok (.bipush 10, 2) := by decide +kernel
theorem dX6_beAsAtFirst_8 : decode cX6_beAsAtFirst 8 = .ok (.putfield 28, 3) := by decide +kernel
theorem dX6_beAsAtFirst_11 : decode cX6_beAsAtFirst 11 = .ok (.aload_n 0, 1) := by decide +kernel
theorem dX6_beAsAtFirst_12 : decode cX6_beAsAtFirst 12 = .ok (.bipush 10, 2) := by decide +kernel
theorem dX6_beAsAtFirst_14 : decode cX6_beAsAtFirst 14 = .ok (.putfield 31, 3) := by decide +kernel
theorem dX6_beAsAtFirst_17 : decode cX6_beAsAtFirst 17 = .ok (.return_, 1) := by decide +kernel
theorem dX6_become_0 : decode cX6_become 0 = .ok (.aload_n 0, 1) := by decide +kernel
theorem dX6_become_1 : decode cX6_become 1 = .ok (.aload_n 1, 1) := by decide +kernel
theorem dX6_become_2 : decode cX6_become 2 = .ok (.getfield 24, 3) := by decide +kernel
theorem dX6_become_5 : decode cX6_become 5 = .ok (.putfield 24, 3) := by decide +kernel
theorem dX6_become_8 : decode cX6_become 8 = .ok (.aload_n 0, 1) := by decide +kernel
theorem dX6_become_9 : decode cX6_become 9 = .ok (.aload_n 1, 1) := by decide +kernel
theorem dX6_become_10 : decode cX6_become 10 = .ok (.getfield 28, 3) := by decide +kernel
theorem dX6_become_13 : decode cX6_become 13 = .ok (.putfield 28, 3) := by decide +kernel
theorem dX6_become_16 : decode cX6_become 16 = .ok (.aload_n 0, 1) := by decide +kernel
theorem dX6_become_17 : decode cX6_become 17 = .ok (.aload_n 1, 1) := by decide +kernel
theorem dX6_become_18 : decode cX6_become 18 = .ok (.getfield 31, 3) := by decide +kernel
theorem dX6_become_21 : decode cX6_become 21 = .ok (.putfield 31, 3) := by decide +kernel
theorem dX6_become_24 : decode cX6_become 24 = .ok (.aload_n 1, 1) := by decide +kernel
theorem dX6_become_25 : decode cX6_become 25 = .ok (.getfield 9, 3) := by decide +kernel
theorem dX6_become_28 : decode cX6_become 28 = .ok (.iconst 0, 1) := by decide +kernel
theorem dX6_become_29 : decode cX6_become 29 = .ok (.aload_n 0, 1) := by decide +kernel
theorem dX6_become_30 : decode cX6_become 30 = .ok (.getfield 9, 3) := by decide +kernel
theorem dX6_become_33 : decode cX6_become 33 = .ok (.iconst 0, 1) := by decide +kernel
theorem dX6_become_34 : decode cX6_become 34 = .ok (.bipush 6, 2) := by decide +kernel
theorem dX6_become_36 : decode cX6_become 36 = .ok (.invokestatic 34, 3) := by decide +kernel
theorem dX6_become_39 : decode cX6_become 39 = .ok (.aload_n 1, 1) := by decide +kernel
theorem dX6_become_40 : decode cX6_become 40 = .ok (.getfield 15, 3) := by decide +kernel
theorem dX6_become_43 : decode cX6_become 43 = .ok (.iconst 0, 1) := by decide +kernel
theorem dX6_become_44 : decode cX6_become 44 = .ok (.aload_n 0, 1) := by decide +kernel
theorem dX6_become_45 : decode cX6_become 45 = .ok (.getfield 15, 3) := by decide +kernel
theorem dX6_become_48 : decode cX6_become 48 = .ok (.iconst 0, 1) := by decide +kernel
theorem dX6_become_49 : decode cX6_become 49 = .ok (.bipush 6, 2) := by decide +kernel
theorem dX6_become_51 : decode cX6_become 51 = .ok (.invokestatic 34, 3) := by decide +kernel
theorem dX6_become_54 : decode cX6_become 54 = .ok (.aload_n 1, 1) := by decide +kernel
theorem dX6_become_55 : decode cX6_become 55 = .ok (.getfield 18, 3) := by decide +kernel
theorem dX6_become_58 : decode cX6_become 58 = .ok (.iconst 0, 1) := by decide +kernel
theorem dX6_become_59 : decode cX6_become 59 = .ok (.aload_n 0, 1) := by decide +kernel
theorem dX6_become_60 : decode cX6_become 60 = .ok (.getfield 18, 3) := by decide +kernel
theorem dX6_become_63 : decode cX6_become 63 = .ok (.iconst 0, 1) := by decide +kernel
theorem dX6_become_64 : decode cX6_become 64 = .ok (.bipush 6, 2) := by decide +kernel
theorem dX6_become_66 : decode cX6_become 66 = .ok (.invokestatic 34, 3) := by decide +kernel
theorem dX6_become_69 : decode cX6_become 69 = .ok (.return_, 1) := by decide +kernel
set_option maxRecDepth 20000 in
theorem ggX7_init_X5_init : GoodIn wsX7_init wsX5_init := goodIn_r _ [35, 36, 2, 3, 37, 38, 100, 101, 102, 103, 104, 105, 106, 107] (by decide +kernel) (by decide +kernel)
set_option maxRecDepth 20000 in
theorem gX7_init_X5_init_n9 : GoodIn wsX7_init (wsX5_init) := ggX7_init_X5_init
set_option maxRecDepth 20000 in
theorem ggX7_init_X6_init : GoodIn wsX7_init wsX6_init := goodIn_r _ [41, 42, 2, 3, 43, 44, 45, 46, 47, 48, 49, 10, 50, 51, 52, 53, 117, 118, 119, 120, 121, 122] (by decide +kernel) (by decide +kernel)
set_option maxRecDepth 20000 in
theorem gX7_init_X6_init : GoodIn wsX7_init (wsX6_init) := ggX7_init_X6_init
set_option maxRecDepth 20000 in
theorem ggX7_init_X3_init : GoodIn wsX7_init wsX3_init := goodIn_r _ [56, 57, 2, 3, 58, 9, 10, 59, 43, 60, 61, 62, 40, 41, 42, 44, 45, 46, 47, 48, 49, 50, 51, 52, 53, 63, 64, 65, 14, 66, 67, 68, 69, 70, 71, 117, 118, 119, 120, 121, 122, 123, 124, 125, 126, 127, 128] (by decide +kernel) (by decide +kernel)
set_option maxRecDepth 20000 in
theorem gX7_init_X3_init : GoodIn wsX7_init (wsX3_init) := ggX7_init_X3_init
set_option maxRecDepth 20000 in
theorem ggX7_init_X4_init : GoodIn wsX7_init wsX4_init := goodIn_r _ [73, 74, 2, 3, 75, 21, 22, 76, 77, 78, 79, 80, 81, 82, 83, 84, 85, 43, 86, 132, 133, 129, 130, 131] (by decide +kernel) (by decide +kernel)
set_option maxRecDepth 20000 in
theorem gX7_init_X4_init_n32 : GoodIn wsX7_init (wsX4_init) := ggX7_init_X4_init
set_option maxRecDepth 20000 in
theorem ggX7_init_X0_init : GoodIn wsX7_init wsX0_init := goodIn_r _ [79, 80, 2, 3, 81, 82, 83, 84, 85, 43, 86, 132, 133] (by decide +kernel) (by decide +kernel)
set_option maxRecDepth 20000 in
theorem gX7_init_X0_init : GoodIn wsX7_init (wsX0_init) := ggX7_init_X0_init
set_option maxRecDepth 20000 in
theorem ggX7_init_X1_init : GoodIn wsX7_init wsX1_init := goodIn_r _ [89, 90, 2, 3, 43, 91, 92, 134, 135, 136] (by decide +kernel) (by decide +kernel)
set_option maxRecDepth 20000 in
theorem gX7_init_X1_init_n52 : GoodIn wsX7_init (wsX1_init) := ggX7_init_X1_init
set_option maxRecDepth 20000 in
theorem ggX7_init_X2_init : GoodIn wsX7_init wsX2_init := goodIn_r _ [95, 96, 2, 3, 43, 97, 98, 99, 137, 138, 139] (by decide +kernel) (by decide +kernel)
set_option maxRecDepth 20000 in
theorem gX7_init_X2_init : GoodIn wsX7_init (wsX2_init) := ggX7_init_X2_init
theorem dX7_init_0 : decode cX7_init 0 = .ok (.aload_n 0, 1) := by decide +kernel
theorem dX7_init_1 : decode cX7_init 1 = .ok (.invokespecial 1, 3) := by decide +kernel
theorem dX7_init_4 : decode cX7_init 4 = .ok (.aload_n 0, 1) := by decide +kernel
theorem dX7_init_5 : decode cX7_init 5 = .ok (.new 7, 3) := by decide +kernel
theorem dX7_init_8 : decode cX7_init 8 = .ok (.dup, 1) := by decide +kernel
theorem dX7_init_9 : decode cX7_init 9 = .ok (.invokespecial 9, 3) := by decide +kernel
theorem dX7_init_12 : decode cX7_init 12 = .ok (.putfield 10, 3) := by decide +kernel
theorem dX7_init_15 : decode cX7_init 15 = .ok (.aload_n 0, 1) := by decide +kernel
theorem dX7_init_16 : decode cX7_init 16 = .ok (.new 16, 3) := by decide +kernel
theorem dX7_init_19 : decode cX7_init 19 = .ok (.dup, 1) := by decide +kernel
theorem dX7_init_20 : decode cX7_init 20 = .ok (.invokespecial 18, 3) := by decide +kernel
theorem dX7_init_23 : decode cX7_init 23 = .ok (.putfield 19, 3) := by decide +kernel
theorem dX7_init_26 : decode cX7_init 26 = .ok (.aload_n 0, 1) := by decide +kernel
theorem dX7_init_27 : decode cX7_init 27 = .ok (.new 23, 3) := by decide +kernel
theorem dX7_init_30 : decode cX7_init 30 = .ok (.dup, 1) := by decide +kernel
theorem dX7_init_31 : decode cX7_init 31 = .ok (.invokespecial 25, 3) := by decide +kernel
theorem dX7_init_34 : decode cX7_init 34 = .ok (.putfield 26, 3) := by decide +kernel
theorem dX7_init_37 : decode cX7_init 37 = .ok (.aload_n 0, 1) := by decide +kernel
theorem dX7_init_38 : decode cX7_init 38 = .ok (.new 30, 3) := by decide +kernel
theorem dX7_init_41 : decode cX7_init 41 = .ok (.dup, 1) := by decide +kernel
theorem dX7_init_42 : decode cX7_init 42 = .ok (.invokespecial 32, 3) := by decide +kernel
theorem dX7_init_45 : decode cX7_init 45 = .ok (.putfield 33, 3) := by decide +kernel
theorem dX7_init_48 : decode cX7_init 48 = .ok (.aload_n 0, 1) := by decide +kernel
end
section
theorem dX7_init_49 : decode cX7_init 49 = .ok (.new 37, 3) := by decide +kernel
theorem dX7_init_52 : decode cX7_init 52 = .ok (.dup, 1) := by decide +kernel
theorem dX7_init_53 : decode cX7_init 53 = .ok (.iconst 2, 1) := by decide +kernel
theorem dX7_init_54 : decode cX7_init 54 = .ok (.invokespecial 39, 3) := by decide +kernel
theorem dX7_init_57 : decode cX7_init 57 = .ok (.putfield 42, 3) := by decide +kernel
theorem dX7_init_60 : decode cX7_init 60 = .ok (.aload_n 0, 1) := by decide +kernel
theorem dX7_init_61 : decode cX7_init 61 = .ok (.iconst 2, 1) := by decide +kernel
theorem dX7_init_62 : decode cX7_init 62 = .ok (.newarray .boolean, 2) := by decide +kernel
theorem dX7_init_64 : decode cX7_init 64 = .ok (.putfield 46, 3) := by decide +kernel
theorem dX7_init_67 : decode cX7_init 67 = .ok (.aload_n 0, 1) := by decide +kernel
theorem dX7_init_68 : decode cX7_init 68 = .ok (.new 50, 3) := by decide +kernel
theorem dX7_init_71 : decode cX7_init 71 = .ok (.dup, 1) := by decide +kernel
theorem dX7_init_72 : decode cX7_init 72 = .ok (.invokespecial 52, 3) := by decide +kernel
theorem dX7_init_75 : decode cX7_init 75 = .ok (.putfield 53, 3) := by decide +kernel
theorem dX7_init_78 : decode cX7_init 78 = .ok (.aload_n 0, 1) := by decide +kernel
theorem dX7_init_79 : decode cX7_init 79 = .ok (.new 57, 3) := by decide +kernel
theorem dX7_init_82 : decode cX7_init 82 = .ok (.dup, 1) := by decide +kernel
theorem dX7_init_83 : decode cX7_init 83 = .ok (.aload_n 0, 1) := by decide +kernel
theorem dX7_init_84 : decode cX7_init 84 = .ok (.getfield 26, 3) := by decide +kernel
theorem dX7_init_87 : decode cX7_init 87 = .ok (.invokespecial 59, 3) := by decide +kernel
theorem dX7_init_90 : decode cX7_init 90 = .ok (.putfield 62, 3) := by decide +kernel
theorem dX7_init_93 : decode cX7_init 93 = .ok (.return_, 1) := by decide +kernel
set_option maxRecDepth 20000 in
theorem ggX7_type_X5_append : GoodIn wsX7_type wsX5_append := goodIn_r _ [7, 8, 9, 19, 20, 21, 22, 23, 24, 25, 26] (by decide +kernel) (by decide +kernel)
set_option maxRecDepth 20000 in
theorem gX7_type_X5_append : GoodIn wsX7_type (wsV RX7 70 RX5 yX5_append wsX5_append) := goodIn_app (goodIn_of _ (by decide +kernel)) ggX7_type_X5_append
theorem dX7_type_0 : decode cX7_type 0 = .ok (.iload_n 1, 1) := by decide +kernel
theorem dX7_type_1 : decode cX7_type 1 = .ok (.ifCond .lt 10, 3) := by decide +kernel
theorem dX7_type_4 : decode cX7_type 4 = .ok (.iload_n 1, 1) := by decide +kernel
theorem dX7_type_5 : decode cX7_type 5 = .ok (.sipush 255, 3) := by decide +kernel
theorem dX7_type_8 : decode cX7_type 8 = .ok (.if_icmp .le 5, 3) := by decide +kernel
theorem dX7_type_11 : decode cX7_type 11 = .ok (.iconst (-1), 1) := by decide +kernel
theorem dX7_type_12 : decode cX7_type 12 = .ok (.ireturn, 1) := by decide +kernel
theorem dX7_type_13 : decode cX7_type 13 = .ok (.aload_n 0, 1) := by decide +kernel
theorem dX7_type_14 : decode cX7_type 14 = .ok (.getfield 10, 3) := by decide +kernel
theorem dX7_type_17 : decode cX7_type 17 = .ok (.getfield 66, 3) := by decide +kernel
theorem dX7_type_20 : decode cX7_type 20 = .ok (.bipush 120, 2) := by decide +kernel
theorem dX7_type_22 : decode cX7_type 22 = .ok (.if_icmp .lt 6, 3) := by decide +kernel
theorem dX7_type_25 : decode cX7_type 25 = .ok (.bipush (-3), 2) := by decide +kernel
theorem dX7_type_27 : decode cX7_type 27 = .ok (.ireturn, 1) := by decide +kernel
theorem dX7_type_28 : decode cX7_type 28 = .ok (.aload_n 0, 1) := by decide +kernel
theorem dX7_type_29 : decode cX7_type 29 = .ok (.getfield 10, 3) := by decide +kernel
theorem dX7_type_32 : decode cX7_type 32 = .ok (.iload_n 1, 1) := by decide +kernel
theorem dX7_type_33 : decode cX7_type 33 = .ok (.i2c, 1) := by decide +kernel
theorem dX7_type_34 : decode cX7_type 34 = .ok (.invokevirtual 70, 3) := by decide +kernel
theorem dX7_type_37 : decode cX7_type 37 = .ok (.aload_n 0, 1) := by decide +kernel
theorem dX7_type_38 : decode cX7_type 38 = .ok (.getfield 10, 3) := by decide +kernel
theorem dX7_type_41 : decode cX7_type 41 = .ok (.getfield 66, 3) := by decide +kernel
theorem dX7_type_44 : decode cX7_type 44 = .ok (.ireturn, 1) := by decide +kernel
theorem dX7_clear_0 : decode cX7_clear 0 = .ok (.aload_n 0, 1) := by decide +kernel
theorem dX7_clear_1 : decode cX7_clear 1 = .ok (.getfield 10, 3) := by decide +kernel
theorem dX7_clear_4 : decode cX7_clear 4 = .ok (.getfield 66, 3) := by decide +kernel
theorem dX7_clear_7 : decode cX7_clear 7 = .ok (.istore_n 1, 1) := by decide +kernel
theorem dX7_clear_8 : decode cX7_clear 8 = .ok (.aload_n 0, 1) := by decide +kernel
theorem dX7_clear_9 : decode cX7_clear 9 = .ok (.getfield 10, 3) := by decide +kernel
theorem dX7_clear_12 : decode cX7_clear 12 = .ok (.iconst 0, 1) := by decide +kernel
theorem dX7_clear_13 : decode cX7_clear 13 = .ok (.putfield 66, 3) := by decide +kernel
theorem dX7_clear_16 : decode cX7_clear 16 = .ok (.iload_n 1, 1) := by decide +kernel
theorem dX7_clear_17 : decode cX7_clear 17 = .ok (.ireturn, 1) := by decide +kernel
set_option maxRecDepth 20000 in
theorem ggX7_ward_X5_read : GoodIn wsX7_ward wsX5_read := goodIn_r _ [15, 16, 17, 18, 19, 20, 21, 22, 23, 24, 25, 26, 27, 28, 29, 30, 31, 32, 14, 33, 34, 35, 36, 37, 38, 39, 40, 41, 42, 43, 44, 45, 46, 47, 48, 49, 50, 51, 52, 53, 54, 55, 56, 57, 58, 59, 60, 61, 62, 63, 64, 65, 66, 67, 68, 69, 70, 71, 72, 73, 74, 75, 76, 122, 123, 124, 125, 126, 127, 128, 129, 130, 131, 132, 133, 134, 135] (by decide +kernel) (by decide +kernel)
set_option maxRecDepth 20000 in
theorem gX7_ward_X5_read : GoodIn wsX7_ward (wsV RX7 74 RX5 yX5_read wsX5_read) := goodIn_app (goodIn_of _ (by decide +kernel)) ggX7_ward_X5_read
set_option maxRecDepth 20000 in
theorem ggX7_ward_X6_become : GoodIn wsX7_ward wsX6_become := goodIn_r _ [80, 27, 28, 29, 81, 82, 83, 84, 85, 86, 87, 130, 131, 132, 133, 134, 135] (by decide +kernel) (by decide +kernel)
set_option maxRecDepth 20000 in
theorem gX7_ward_X6_become : GoodIn wsX7_ward (wsV RX7 81 RX6 yX6_become wsX6_become) := goodIn_app (goodIn_of _ (by decide +kernel)) ggX7_ward_X6_become
set_option maxRecDepth 20000 in
theorem ggX7_ward_X3_begin : GoodIn wsX7_ward wsX3_begin := goodIn_r _ [92, 93, 94, 95, 96, 97, 98, 99, 100, 110, 111, 112, 113, 114, 115, 130, 131, 132, 133, 134, 135] (by decide +kernel) (by decide +kernel)
set_option maxRecDepth 20000 in
theorem gX7_ward_X3_begin : GoodIn wsX7_ward (wsV RX7 85 RX3 yX3_begin wsX3_begin) := goodIn_app (goodIn_of _ (by decide +kernel)) ggX7_ward_X3_begin
theorem dX7_ward_0 : decode cX7_ward 0 = .ok (.aload_n 0, 1) := by decide +kernel
theorem dX7_ward_1 : decode cX7_ward 1 = .ok (.getfield 10, 3) := by decide +kernel
theorem dX7_ward_4 : decode cX7_ward 4 = .ok (.aload_n 0, 1) := by decide +kernel
theorem dX7_ward_5 : decode cX7_ward 5 = .ok (.getfield 19, 3) := by decide +kernel
theorem dX7_ward_8 : decode cX7_ward 8 = .ok (.invokevirtual 74, 3) := by decide +kernel
theorem dX7_ward_11 : decode cX7_ward 11 = .ok (.istore_n 1, 1) := by decide +kernel
theorem dX7_ward_12 : decode cX7_ward 12 = .ok (.iload_n 1, 1) := by decide +kernel
theorem dX7_ward_13 : decode cX7_ward 13 = .ok (.ifCond .ge 5, 3) := by decide +kernel
theorem dX7_ward_16 : decode cX7_ward 16 = .ok (.iload_n 1, 1) := by decide +kernel
theorem dX7_ward_17 : decode cX7_ward 17 = .ok (.ireturn, 1) := by decide +kernel
theorem dX7_ward_18 : decode cX7_ward 18 = .ok (.aload_n 0, 1) := by decide +kernel
theorem dX7_ward_19 : decode cX7_ward 19 = .ok (.getfield 26, 3) := by decide +kernel
theorem dX7_ward_22 : decode cX7_ward 22 = .ok (.getfield 78, 3) := by decide +kernel
theorem dX7_ward_25 : decode cX7_ward 25 = .ok (.aload_n 0, 1) := by decide +kernel
theorem dX7_ward_26 : decode cX7_ward 26 = .ok (.getfield 19, 3) := by decide +kernel
theorem dX7_ward_29 : decode cX7_ward 29 = .ok (.invokevirtual 81, 3) := by decide +kernel
theorem dX7_ward_32 : decode cX7_ward 32 = .ok (.aload_n 0, 1) := by decide +kernel
theorem dX7_ward_33 : decode cX7_ward 33 = .ok (.getfield 26, 3) := by decide +kernel
theorem dX7_ward_36 : decode cX7_ward 36 = .ok (.invokevirtual 85, 3) := by decide +kernel
theorem dX7_ward_39 : decode cX7_ward 39 = .ok (.aload_n 0, 1) := by decide +kernel
theorem dX7_ward_40 : decode cX7_ward 40 = .ok (.getfield 33, 3) := by decide +kernel
theorem dX7_ward_43 : decode cX7_ward 43 = .ok (.iconst 0, 1) := by decide +kernel
theorem dX7_ward_44 : decode cX7_ward 44 = .ok (.putfield 88, 3) := by decide +kernel
theorem dX7_ward_47 : decode cX7_ward 47 = .ok (.aload_n 0, 1) := by decide +kernel
theorem dX7_ward_48 : decode cX7_ward 48 = .ok (.getfield 53, 3) := by decide +kernel
theorem dX7_ward_51 : decode cX7_ward 51 = .ok (.iconst 0, 1) := by decide +kernel
theorem dX7_ward_52 : decode cX7_ward 52 = .ok (.putfield 91, 3) := by decide +kernel
theorem dX7_ward_55 : decode cX7_ward 55 = .ok (.iconst 0, 1) := by decide +kernel
theorem dX7_ward_56 : decode cX7_ward 56 = .ok (.istore_n 2, 1) := by decide +kernel
theorem dX7_ward_57 : decode cX7_ward 57 = .ok (.iload_n 2, 1) := by decide +kernel
theorem dX7_ward_58 : decode cX7_ward 58 = .ok (.aload_n 0, 1) := by decide +kernel
theorem dX7_ward_59 : decode cX7_ward 59 = .ok (.getfield 46, 3) := by decide +kernel
theorem dX7_ward_62 : decode cX7_ward 62 = .ok (.arraylength, 1) := by decide +kernel
theorem dX7_ward_63 : decode cX7_ward 63 = .ok (.if_icmp .ge 16, 3) := by decide +kernel
theorem dX7_ward_66 : decode cX7_ward 66 = .ok (.aload_n 0, 1) := by decide +kernel
theorem dX7_ward_67 : decode cX7_ward 67 = .ok (.getfield 46, 3) := by decide +kernel
theorem dX7_ward_70 : decode cX7_ward 70 = .ok (.iload_n 2, 1) := by decide +kernel
theorem dX7_ward_71 : decode cX7_ward 71 = .ok (.iconst 0, 1) := by decide +kernel
theorem dX7_ward_72 : decode cX7_ward 72 = .ok (.bastore, 1) := by decide +kernel
theorem dX7_ward_73 : decode cX7_ward 73 = .ok (.iinc 2 1, 3) := by decide +kernel
theorem dX7_ward_76 : decode cX7_ward 76 = .ok (.goto (-19), 3) := by decide +kernel
theorem dX7_ward_79 : decode cX7_ward 79 = .ok (.aload_n 0, 1) := by decide +kernel
theorem dX7_ward_80 : decode cX7_ward 80 = .ok (.getfield 10, 3) := by decide +kernel
theorem dX7_ward_83 : decode cX7_ward 83 = .ok (.iconst 0, 1) := by decide +kernel
theorem dX7_ward_84 : decode cX7_ward 84 = .ok (.putfield 66, 3) := by decide +kernel
theorem dX7_ward_87 : decode cX7_ward 87 = .ok (.iload_n 1, 1) := by decide +kernel
theorem dX7_ward_88 : decode cX7_ward 88 = .ok (.ireturn, 1) := by decide +kernel
set_option maxRecDepth 20000 in
theorem ggX7_bottle_X3_has : GoodIn wsX7_bottle wsX3_has := goodIn_r _ [11, 12, 13, 44, 45, 46, 47, 48, 49, 50, 51, 52, 53, 54, 55] (by decide +kernel) (by decide +kernel)
set_option maxRecDepth 20000 in
theorem gX7_bottle_X3_has : GoodIn wsX7_bottle (wsV RX7 94 RX3 yX3_has wsX3_has) := goodIn_app (goodIn_of _ (by decide +kernel)) ggX7_bottle_X3_has
set_option maxRecDepth 20000 in
theorem ggX7_bottle_X3_soundIn : GoodIn wsX7_bottle wsX3_soundIn := goodIn_r _ [17, 18, 19, 20, 12, 21, 22, 23, 24, 10, 25, 26, 13, 27, 28, 29, 30, 44, 45, 46, 47, 48, 49, 50, 51, 52, 53, 54, 55] (by decide +kernel) (by decide +kernel)
set_option maxRecDepth 20000 in
theorem gX7_bottle_X3_soundIn : GoodIn wsX7_bottle (wsV RX7 111 RX3 yX3_soundIn wsX3_soundIn) := goodIn_app (goodIn_of _ (by decide +kernel)) ggX7_bottle_X3_soundIn
set_option maxRecDepth 20000 in
theorem ggX7_bottle_X3_lasts : GoodIn wsX7_bottle wsX3_lasts := goodIn_r _ [34, 20, 18, 22, 23, 24, 10, 25, 12, 26, 13, 27, 28, 29, 30, 44, 45, 46, 47, 48, 49, 50, 51, 52, 53, 54, 55] (by decide +kernel) (by decide +kernel)
set_option maxRecDepth 20000 in
theorem gX7_bottle_X3_lasts : GoodIn wsX7_bottle (wsV RX7 115 RX3 yX3_lasts wsX3_lasts) := goodIn_app (goodIn_of _ (by decide +kernel)) ggX7_bottle_X3_lasts
theorem dX7_bottle_0 : decode cX7_bottle 0 = .ok (.aload_n 0, 1) := by decide +kernel
theorem dX7_bottle_1 : decode cX7_bottle 1 = .ok (.getfield 26, 3) := by decide +kernel
theorem dX7_bottle_4 : decode cX7_bottle 4 = .ok (.iload_n 1, 1) := by decide +kernel
theorem dX7_bottle_5 : decode cX7_bottle 5 = .ok (.invokevirtual 94, 3) := by decide +kernel
theorem dX7_bottle_8 : decode cX7_bottle 8 = .ok (.ifCond .ne 5, 3) := by decide +kernel
theorem dX7_bottle_11 : decode cX7_bottle 11 = .ok (.iconst (-1), 1) := by decide +kernel
theorem dX7_bottle_12 : decode cX7_bottle 12 = .ok (.ireturn, 1) := by decide +kernel
theorem dX7_bottle_13 : decode cX7_bottle 13 = .ok (.iload_n 2, 1) := by decide +kernel
theorem dX7_bottle_14 : decode cX7_bottle 14 = .ok (.tableswitch 110 0 5 #[38, 48, 61, 74, 84, 94], 38) := by decide +kernel
theorem dX7_bottle_52 : decode cX7_bottle 52 = .ok (.aload_n 0, 1) := by decide +kernel
theorem dX7_bottle_53 : decode cX7_bottle 53 = .ok (.getfield 26, 3) := by decide +kernel
theorem dX7_bottle_56 : decode cX7_bottle 56 = .ok (.getfield 98, 3) := by decide +kernel
theorem dX7_bottle_59 : decode cX7_bottle 59 = .ok (.iload_n 1, 1) := by decide +kernel
theorem dX7_bottle_60 : decode cX7_bottle 60 = .ok (.iaload, 1) := by decide +kernel
theorem dX7_bottle_61 : decode cX7_bottle 61 = .ok (.ireturn, 1) := by decide +kernel
theorem dX7_bottle_62 : decode cX7_bottle 62 = .ok (.aload_n 0, 1) := by decide +kernel
theorem dX7_bottle_63 : decode cX7_bottle 63 = .ok (.getfield 26, 3) := by decide +kernel
theorem dX7_bottle_66 : decode cX7_bottle 66 = .ok (.getfield 78, 3) := by decide +kernel
theorem dX7_bottle_69 : decode cX7_bottle 69 = .ok (.getfield 102, 3) := by decide +kernel
theorem dX7_bottle_72 : decode cX7_bottle 72 = .ok (.iload_n 1, 1) := by decide +kernel
theorem dX7_bottle_73 : decode cX7_bottle 73 = .ok (.iaload, 1) := by decide +kernel
theorem dX7_bottle_74 : decode cX7_bottle 74 = .ok (.ireturn, 1) := by decide +kernel
theorem dX7_bottle_75 : decode cX7_bottle 75 = .ok (.aload_n 0, 1) := by decide +kernel
theorem dX7_bottle_76 : decode cX7_bottle 76 = .ok (.getfield 26, 3) := by decide +kernel
theorem dX7_bottle_79 : decode cX7_bottle 79 = .ok (.getfield 78, 3) := by decide +kernel
theorem dX7_bottle_82 : decode cX7_bottle 82 = .ok (.getfield 105, 3) := by decide +kernel
theorem dX7_bottle_85 : decode cX7_bottle 85 = .ok (.iload_n 1, 1) := by decide +kernel
theorem dX7_bottle_86 : decode cX7_bottle 86 = .ok (.iaload, 1) := by decide +kernel
theorem dX7_bottle_87 : decode cX7_bottle 87 = .ok (.ireturn, 1) := by decide +kernel
theorem dX7_bottle_88 : decode cX7_bottle 88 = .ok (.aload_n 0, 1) := by decide +kernel
theorem dX7_bottle_89 : decode cX7_bottle 89 = .ok (.getfield 26, 3) := by decide +kernel
theorem dX7_bottle_92 : decode cX7_bottle 92 = .ok (.getfield 108, 3) := by decide +kernel
theorem dX7_bottle_95 : decode cX7_bottle 95 = .ok (.iload_n 1, 1) := by decide +kernel
theorem dX7_bottle_96 : decode cX7_bottle 96 = .ok (.iaload, 1) := by decide +kernel
theorem dX7_bottle_97 : decode cX7_bottle 97 = .ok (.ireturn, 1) := by decide +kernel
theorem dX7_bottle_98 : decode cX7_bottle 98 = .ok (.aload_n 0, 1) := by decide +kernel
theorem dX7_bottle_99 : decode cX7_bottle 99 = .ok (.getfield 26, 3) := by decide +kernel
theorem dX7_bottle_102 : decode cX7_bottle 102 = .ok (.iload_n 1, 1) := by decide +kernel
theorem dX7_bottle_103 : decode cX7_bottle 103 = .ok (.iconst 0, 1) := by decide +kernel
theorem dX7_bottle_104 : decode cX7_bottle 104 = .ok (.invokevirtual 111, 3) := by decide +kernel
theorem dX7_bottle_107 : decode cX7_bottle 107 = .ok (.ireturn, 1) := by decide +kernel
theorem dX7_bottle_108 : decode cX7_bottle 108 = .ok (.aload_n 0, 1) := by decide +kernel
theorem dX7_bottle_109 : decode cX7_bottle 109 = .ok (.getfield 26, 3) := by decide +kernel
theorem dX7_bottle_112 : decode cX7_bottle 112 = .ok (.iload_n 1, 1) := by decide +kernel
theorem dX7_bottle_113 : decode cX7_bottle 113 = .ok (.aload_n 0, 1) := by decide +kernel
theorem dX7_bottle_114 : decode cX7_bottle 114 = .ok (.getfield 26, 3) := by decide +kernel
theorem dX7_bottle_117 : decode cX7_bottle 117 = .ok (.getfield 108, 3) := by decide +kernel
theorem dX7_bottle_120 : decode cX7_bottle 120 = .ok (.invokevirtual 115, 3) := by decide +kernel
theorem dX7_bottle_123 : decode cX7_bottle 123 = .ok (.ireturn, 1) := by decide +kernel
theorem dX7_bottle_124 : decode cX7_bottle 124 = .ok (.iconst (-1), 1) := by decide +kernel
theorem dX7_bottle_125 : decode cX7_bottle 125 = .ok (.ireturn, 1) := by decide +kernel
set_option maxRecDepth 20000 in
theorem ggX7_now_X3_allLast : GoodIn wsX7_now wsX3_allLast := goodIn_r _ [14, 15, 16, 17, 18, 19, 20, 21, 22, 23, 13, 24, 25, 26, 27, 28, 29, 30, 31, 32, 33, 34, 48, 49, 50, 51, 52, 53, 54, 55, 56, 57, 58, 59] (by decide +kernel) (by decide +kernel)
set_option maxRecDepth 20000 in
theorem gX7_now_X3_allLast : GoodIn wsX7_now (wsV RX7 131 RX3 yX3_allLast wsX3_allLast) := goodIn_app (goodIn_of _ (by decide +kernel)) ggX7_now_X3_allLast
set_option maxRecDepth 20000 in
theorem ggX7_now_X3_numberWarm : GoodIn wsX7_now wsX3_numberWarm := goodIn_r _ [38, 15, 16, 26, 48, 49, 50, 51, 52, 53, 54, 55, 56, 57, 58, 59] (by decide +kernel) (by decide +kernel)
set_option maxRecDepth 20000 in
theorem gX7_now_X3_numberWarm : GoodIn wsX7_now (wsV RX7 135 RX3 yX3_numberWarm wsX3_numberWarm) := goodIn_app (goodIn_of _ (by decide +kernel)) ggX7_now_X3_numberWarm
theorem dX7_now_0 : decode cX7_now 0 = .ok (.iload_n 1, 1) := by decide +kernel
theorem dX7_now_1 : decode cX7_now 1 = .ok (.tableswitch 112 0 5 #[39, 47, 55, 63, 96, 104], 39) := by decide +kernel
theorem dX7_now_40 : decode cX7_now 40 = .ok (.aload_n 0, 1) := by decide +kernel
theorem dX7_now_41 : decode cX7_now 41 = .ok (.getfield 26, 3) := by decide +kernel
theorem dX7_now_44 : decode cX7_now 44 = .ok (.getfield 119, 3) := by decide +kernel
theorem dX7_now_47 : decode cX7_now 47 = .ok (.ireturn, 1) := by decide +kernel
theorem dX7_now_48 : decode cX7_now 48 = .ok (.aload_n 0, 1) := by decide +kernel
theorem dX7_now_49 : decode cX7_now 49 = .ok (.getfield 26, 3) := by decide +kernel
theorem dX7_now_52 : decode cX7_now 52 = .ok (.getfield 122, 3) := by decide +kernel
theorem dX7_now_55 : decode cX7_now 55 = .ok (.ireturn, 1) := by decide +kernel
theorem dX7_now_56 : decode cX7_now 56 = .ok (.aload_n 0, 1) := by decide +kernel
theorem dX7_now_57 : decode cX7_now 57 = .ok (.getfield 26, 3) := by decide +kernel
theorem dX7_now_60 : decode cX7_now 60 = .ok (.getfield 125, 3) := by decide +kernel
theorem dX7_now_63 : decode cX7_now 63 = .ok (.ireturn, 1) := by decide +kernel
theorem dX7_now_64 : decode cX7_now 64 = .ok (.aload_n 0, 1) := by decide +kernel
theorem dX7_now_65 : decode cX7_now 65 = .ok (.getfield 26, 3) := by decide +kernel
theorem dX7_now_68 : decode cX7_now 68 = .ok (.getfield 78, 3) := by decide +kernel
theorem dX7_now_71 : decode cX7_now 71 = .ok (.getfield 128, 3) := by decide +kernel
theorem dX7_now_74 : decode cX7_now 74 = .ok (.ifCond .le 20, 3) := by decide +kernel
theorem dX7_now_77 : decode cX7_now 77 = .ok (.aload_n 0, 1) := by decide +kernel
theorem dX7_now_78 : decode cX7_now 78 = .ok (.getfield 26, 3) := by decide +kernel
theorem dX7_now_81 : decode cX7_now 81 = .ok (.aload_n 0, 1) := by decide +kernel
theorem dX7_now_82 : decode cX7_now 82 = .ok (.getfield 26, 3) := by decide +kernel
theorem dX7_now_85 : decode cX7_now 85 = .ok (.getfield 108, 3) := by decide +kernel
theorem dX7_now_88 : decode cX7_now 88 = .ok (.invokevirtual 131, 3) := by decide +kernel
theorem dX7_now_91 : decode cX7_now 91 = .ok (.goto 5, 3) := by decide +kernel
theorem dX7_now_94 : decode cX7_now 94 = .ok (.bipush (-9), 2) := by decide +kernel
theorem dX7_now_96 : decode cX7_now 96 = .ok (.ireturn, 1) := by decide +kernel
theorem dX7_now_97 : decode cX7_now 97 = .ok (.aload_n 0, 1) := by decide +kernel
theorem dX7_now_98 : decode cX7_now 98 = .ok (.getfield 26, 3) := by decide +kernel
theorem dX7_now_101 : decode cX7_now 101 = .ok (.invokevirtual 135, 3) := by decide +kernel
theorem dX7_now_104 : decode cX7_now 104 = .ok (.ireturn, 1) := by decide +kernel
theorem dX7_now_105 : decode cX7_now 105 = .ok (.aload_n 0, 1) := by decide +kernel
theorem dX7_now_106 : decode cX7_now 106 = .ok (.getfield 33, 3) := by decide +kernel
theorem dX7_now_109 : decode cX7_now 109 = .ok (.getfield 88, 3) := by decide +kernel
theorem dX7_now_112 : decode cX7_now 112 = .ok (.ireturn, 1) := by decide +kernel
theorem dX7_now_113 : decode cX7_now 113 = .ok (.iconst (-1), 1) := by decide +kernel
theorem dX7_now_114 : decode cX7_now 114 = .ok (.ireturn, 1) := by decide +kernel
set_option maxRecDepth 20000 in
theorem ggX7_hour_X4_remember : GoodIn wsX7_hour wsX4_remember := goodIn_r _ [8, 9, 10, 11, 12, 13, 14, 15, 16, 17, 18, 19, 20, 21, 22, 23, 24, 25, 26, 27, 28, 29, 30, 31, 70, 71, 72, 73, 74, 64, 65, 66, 67, 68, 69] (by decide +kernel) (by decide +kernel)
set_option maxRecDepth 20000 in
theorem gX7_hour_X4_remember : GoodIn wsX7_hour (wsV RX7 139 RX4 yX4_remember wsX4_remember) := goodIn_app (goodIn_of _ (by decide +kernel)) ggX7_hour_X4_remember
set_option maxRecDepth 20000 in
theorem ggX7_hour_X3_letHourPass : GoodIn wsX7_hour wsX3_letHourPass := goodIn_r _ [36, 37, 38, 39, 40, 41, 42, 43, 44, 14, 45, 46, 47, 48, 35, 49, 50, 64, 65, 66, 67, 68, 69, 75, 76, 77, 78, 79, 80] (by decide +kernel) (by decide +kernel)
set_option maxRecDepth 20000 in
theorem gX7_hour_X3_letHourPass : GoodIn wsX7_hour (wsV RX7 142 RX3 yX3_letHourPass wsX3_letHourPass) := goodIn_app (goodIn_of _ (by decide +kernel)) ggX7_hour_X3_letHourPass
set_option maxRecDepth 20000 in
theorem ggX7_hour_X3_numberWarm : GoodIn wsX7_hour wsX3_numberWarm := goodIn_r _ [54, 38, 39, 40, 64, 65, 66, 67, 68, 69, 75, 76, 77, 78, 79, 80] (by decide +kernel) (by decide +kernel)
set_option maxRecDepth 20000 in
theorem gX7_hour_X3_numberWarm : GoodIn wsX7_hour (wsV RX7 135 RX3 yX3_numberWarm wsX3_numberWarm) := goodIn_app (goodIn_of _ (by decide +kernel)) ggX7_hour_X3_numberWarm
theorem dX7_hour_0 : decode cX7_hour 0 = .ok (.aload_n 0, 1) := by decide +kernel
theorem dX7_hour_1 : decode cX7_hour 1 = .ok (.getfield 26, 3) := by decide +kernel
theorem dX7_hour_4 : decode cX7_hour 4 = .ok (.getfield 119, 3) := by decide +kernel
theorem dX7_hour_7 : decode cX7_hour 7 = .ok (.sipush 999, 3) := by decide +kernel
theorem dX7_hour_10 : decode cX7_hour 10 = .ok (.if_icmp .lt 6, 3) := by decide +kernel
theorem dX7_hour_13 : decode cX7_hour 13 = .ok (.bipush (-2), 2) := by decide +kernel
theorem dX7_hour_15 : decode cX7_hour 15 = .ok (.ireturn, 1) := by decide +kernel
theorem dX7_hour_16 : decode cX7_hour 16 = .ok (.aload_n 0, 1) := by decide +kernel
theorem dX7_hour_17 : decode cX7_hour 17 = .ok (.getfield 33, 3) := by decide +kernel
theorem dX7_hour_20 : decode cX7_hour 20 = .ok (.aload_n 0, 1) := by decide +kernel
theorem dX7_hour_21 : decode cX7_hour 21 = .ok (.getfield 26, 3) := by decide +kernel
theorem dX7_hour_24 : decode cX7_hour 24 = .ok (.invokevirtual 139, 3) := by decide +kernel
theorem dX7_hour_27 : decode cX7_hour 27 = .ok (.aload_n 0, 1) := by decide +kernel
theorem dX7_hour_28 : decode cX7_hour 28 = .ok (.getfield 26, 3) := by decide +kernel
theorem dX7_hour_31 : decode cX7_hour 31 = .ok (.invokevirtual 142, 3) := by decide +kernel
theorem dX7_hour_34 : decode cX7_hour 34 = .ok (.aload_n 0, 1) := by decide +kernel
theorem dX7_hour_35 : decode cX7_hour 35 = .ok (.getfield 26, 3) := by decide +kernel
theorem dX7_hour_38 : decode cX7_hour 38 = .ok (.invokevirtual 135, 3) := by decide +kernel
theorem dX7_hour_41 : decode cX7_hour 41 = .ok (.ireturn, 1) := by decide +kernel
set_option maxRecDepth 20000 in
theorem ggX7_fills_X3_has : GoodIn wsX7_fills wsX3_has := goodIn_r _ [9, 10, 11, 55, 56, 57, 58, 59, 60, 61, 62, 63, 64, 65, 66] (by decide +kernel) (by decide +kernel)
set_option maxRecDepth 20000 in
theorem gX7_fills_X3_has : GoodIn wsX7_fills (wsV RX7 94 RX3 yX3_has wsX3_has) := goodIn_app (goodIn_of _ (by decide +kernel)) ggX7_fills_X3_has
set_option maxRecDepth 20000 in
theorem ggX7_fills_X4_remember : GoodIn wsX7_fills wsX4_remember := goodIn_r _ [16, 17, 18, 19, 20, 21, 22, 23, 24, 25, 26, 27, 28, 29, 30, 31, 32, 33, 34, 35, 36, 37, 38, 39, 67, 68, 69, 70, 71, 55, 56, 57, 58, 59, 60] (by decide +kernel) (by decide +kernel)
set_option maxRecDepth 20000 in
theorem gX7_fills_X4_remember : GoodIn wsX7_fills (wsV RX7 139 RX4 yX4_remember wsX4_remember) := goodIn_app (goodIn_of _ (by decide +kernel)) ggX7_fills_X4_remember
set_option maxRecDepth 20000 in
theorem ggX7_fills_X3_warmBy : GoodIn wsX7_fills wsX3_warmBy := goodIn_r _ [43, 10, 44, 45, 21, 22, 23, 55, 56, 57, 58, 59, 60, 61, 62, 63, 64, 65, 66] (by decide +kernel) (by decide +kernel)
set_option maxRecDepth 20000 in
theorem gX7_fills_X3_warmBy : GoodIn wsX7_fills (wsV RX7 145 RX3 yX3_warmBy wsX3_warmBy) := goodIn_app (goodIn_of _ (by decide +kernel)) ggX7_fills_X3_warmBy
theorem dX7_fills_0 : decode cX7_fills 0 = .ok (.aload_n 0, 1) := by decide +kernel
theorem dX7_fills_1 : decode cX7_fills 1 = .ok (.getfield 26, 3) := by decide +kernel
theorem dX7_fills_4 : decode cX7_fills 4 = .ok (.iload_n 1, 1) := by decide +kernel
theorem dX7_fills_5 : decode cX7_fills 5 = .ok (.invokevirtual 94, 3) := by decide +kernel
theorem dX7_fills_8 : decode cX7_fills 8 = .ok (.ifCond .eq 14, 3) := by decide +kernel
theorem dX7_fills_11 : decode cX7_fills 11 = .ok (.iload_n 2, 1) := by decide +kernel
theorem dX7_fills_12 : decode cX7_fills 12 = .ok (.iconst 1, 1) := by decide +kernel
theorem dX7_fills_13 : decode cX7_fills 13 = .ok (.if_icmp .lt 9, 3) := by decide +kernel
theorem dX7_fills_16 : decode cX7_fills 16 = .ok (.iload_n 2, 1) := by decide +kernel
theorem dX7_fills_17 : decode cX7_fills 17 = .ok (.bipush 9, 2) := by decide +kernel
theorem dX7_fills_19 : decode cX7_fills 19 = .ok (.if_icmp .le 5, 3) := by decide +kernel
theorem dX7_fills_22 : decode cX7_fills 22 = .ok (.iconst (-1), 1) := by decide +kernel
theorem dX7_fills_23 : decode cX7_fills 23 = .ok (.ireturn, 1) := by decide +kernel
theorem dX7_fills_24 : decode cX7_fills 24 = .ok (.aload_n 0, 1) := by decide +kernel
theorem dX7_fills_25 : decode cX7_fills 25 = .ok (.getfield 26, 3) := by decide +kernel
theorem dX7_fills_28 : decode cX7_fills 28 = .ok (.getfield 125, 3) := by decide +kernel
theorem dX7_fills_31 : decode cX7_fills 31 = .ok (.iload_n 2, 1) := by decide +kernel
theorem dX7_fills_32 : decode cX7_fills 32 = .ok (.if_icmp .ge 6, 3) := by decide +kernel
theorem dX7_fills_35 : decode cX7_fills 35 = .ok (.bipush (-2), 2) := by decide +kernel
theorem dX7_fills_37 : decode cX7_fills 37 = .ok (.ireturn, 1) := by decide +kernel
theorem dX7_fills_38 : decode cX7_fills 38 = .ok (.aload_n 0, 1) := by decide +kernel
theorem dX7_fills_39 : decode cX7_fills 39 = .ok (.getfield 33, 3) := by decide +kernel
theorem dX7_fills_42 : decode cX7_fills 42 = .ok (.aload_n 0, 1) := by decide +kernel
theorem dX7_fills_43 : decode cX7_fills 43 = .ok (.getfield 26, 3) := by decide +kernel
theorem dX7_fills_46 : decode cX7_fills 46 = .ok (.invokevirtual 139, 3) := by decide +kernel
theorem dX7_fills_49 : decode cX7_fills 49 = .ok (.aload_n 0, 1) := by decide +kernel
theorem dX7_fills_50 : decode cX7_fills 50 = .ok (.getfield 26, 3) := by decide +kernel
theorem dX7_fills_53 : decode cX7_fills 53 = .ok (.dup, 1) := by decide +kernel
theorem dX7_fills_54 : decode cX7_fills 54 = .ok (.getfield 125, 3) := by decide +kernel
theorem dX7_fills_57 : decode cX7_fills 57 = .ok (.iload_n 2, 1) := by decide +kernel
theorem dX7_fills_58 : decode cX7_fills 58 = .ok (.isub, 1) := by decide +kernel
theorem dX7_fills_59 : decode cX7_fills 59 = .ok (.putfield 125, 3) := by decide +kernel
theorem dX7_fills_62 : decode cX7_fills 62 = .ok (.aload_n 0, 1) := by decide +kernel
theorem dX7_fills_63 : decode cX7_fills 63 = .ok (.getfield 26, 3) := by decide +kernel
theorem dX7_fills_66 : decode cX7_fills 66 = .ok (.getfield 98, 3) := by decide +kernel
theorem dX7_fills_69 : decode cX7_fills 69 = .ok (.iload_n 1, 1) := by decide +kernel
theorem dX7_fills_70 : decode cX7_fills 70 = .ok (.aload_n 0, 1) := by decide +kernel
theorem dX7_fills_71 : decode cX7_fills 71 = .ok (.getfield 26, 3) := by decide +kernel
theorem dX7_fills_74 : decode cX7_fills 74 = .ok (.aload_n 0, 1) := by decide +kernel
theorem dX7_fills_75 : decode cX7_fills 75 = .ok (.getfield 26, 3) := by decide +kernel
theorem dX7_fills_78 : decode cX7_fills 78 = .ok (.getfield 98, 3) := by decide +kernel
theorem dX7_fills_81 : decode cX7_fills 81 = .ok (.iload_n 1, 1) := by decide +kernel
theorem dX7_fills_82 : decode cX7_fills 82 = .ok (.iaload, 1) := by decide +kernel
theorem dX7_fills_83 : decode cX7_fills 83 = .ok (.iload_n 2, 1) := by decide +kernel
theorem dX7_fills_84 : decode cX7_fills 84 = .ok (.invokevirtual 145, 3) := by decide +kernel
theorem dX7_fills_87 : decode cX7_fills 87 = .ok (.iastore, 1) := by decide +kernel
theorem dX7_fills_88 : decode cX7_fills 88 = .ok (.aload_n 0, 1) := by decide +kernel
theorem dX7_fills_89 : decode cX7_fills 89 = .ok (.getfield 26, 3) := by decide +kernel
theorem dX7_fills_92 : decode cX7_fills 92 = .ok (.getfield 98, 3) := by decide +kernel
theorem dX7_fills_95 : decode cX7_fills 95 = .ok (.iload_n 1, 1) := by decide +kernel
theorem dX7_fills_96 : decode cX7_fills 96 = .ok (.iaload, 1) := by decide +kernel
theorem dX7_fills_97 : decode cX7_fills 97 = .ok (.ireturn, 1) := by decide +kernel
set_option maxRecDepth 20000 in
theorem ggX7_lays_X3_has : GoodIn wsX7_lays wsX3_has := goodIn_r _ [8, 9, 10, 48, 49, 50, 51, 52, 53, 54, 55, 56, 57, 58, 59] (by decide +kernel) (by decide +kernel)
set_option maxRecDepth 20000 in
theorem gX7_lays_X3_has : GoodIn wsX7_lays (wsV RX7 94 RX3 yX3_has wsX3_has) := goodIn_app (goodIn_of _ (by decide +kernel)) ggX7_lays_X3_has
set_option maxRecDepth 20000 in
theorem ggX7_lays_X4_remember : GoodIn wsX7_lays wsX4_remember := goodIn_r _ [15, 16, 17, 18, 19, 20, 21, 22, 23, 24, 25, 26, 27, 28, 29, 30, 31, 32, 33, 34, 35, 36, 37, 38, 60, 61, 62, 63, 64, 48, 49, 50, 51, 52, 53] (by decide +kernel) (by decide +kernel)
set_option maxRecDepth 20000 in
theorem gX7_lays_X4_remember : GoodIn wsX7_lays (wsV RX7 139 RX4 yX4_remember wsX4_remember) := goodIn_app (goodIn_of _ (by decide +kernel)) ggX7_lays_X4_remember
theorem dX7_lays_0 : decode cX7_lays 0 = .ok (.aload_n 0, 1) := by decide +kernel
theorem dX7_lays_1 : decode cX7_lays 1 = .ok (.getfield 26, 3) := by decide +kernel
theorem dX7_lays_4 : decode cX7_lays 4 = .ok (.iload_n 1, 1) := by decide +kernel
theorem dX7_lays_5 : decode cX7_lays 5 = .ok (.invokevirtual 94, 3) := by decide +kernel
theorem dX7_lays_8 : decode cX7_lays 8 = .ok (.ifCond .eq 14, 3) := by decide +kernel
theorem dX7_lays_11 : decode cX7_lays 11 = .ok (.aload_n 0, 1) := by decide +kernel
theorem dX7_lays_12 : decode cX7_lays 12 = .ok (.getfield 26, 3) := by decide +kernel
theorem dX7_lays_15 : decode cX7_lays 15 = .ok (.iload_n 2, 1) := by decide +kernel
theorem dX7_lays_16 : decode cX7_lays 16 = .ok (.invokevirtual 94, 3) := by decide +kernel
theorem dX7_lays_19 : decode cX7_lays 19 = .ok (.ifCond .ne 5, 3) := by decide +kernel
theorem dX7_lays_22 : decode cX7_lays 22 = .ok (.iconst (-1), 1) := by decide +kernel
theorem dX7_lays_23 : decode cX7_lays 23 = .ok (.ireturn, 1) := by decide +kernel
theorem dX7_lays_24 : decode cX7_lays 24 = .ok (.aload_n 0, 1) := by decide +kernel
theorem dX7_lays_25 : decode cX7_lays 25 = .ok (.getfield 26, 3) := by decide +kernel
theorem dX7_lays_28 : decode cX7_lays 28 = .ok (.getfield 108, 3) := by decide +kernel
theorem dX7_lays_31 : decode cX7_lays 31 = .ok (.iload_n 1, 1) := by decide +kernel
theorem dX7_lays_32 : decode cX7_lays 32 = .ok (.iaload, 1) := by decide +kernel
theorem dX7_lays_33 : decode cX7_lays 33 = .ok (.istore_n 3, 1) := by decide +kernel
theorem dX7_lays_34 : decode cX7_lays 34 = .ok (.iload_n 3, 1) := by decide +kernel
theorem dX7_lays_35 : decode cX7_lays 35 = .ok (.iload_n 2, 1) := by decide +kernel
theorem dX7_lays_36 : decode cX7_lays 36 = .ok (.if_icmp .ne 6, 3) := by decide +kernel
theorem dX7_lays_39 : decode cX7_lays 39 = .ok (.bipush (-2), 2) := by decide +kernel
theorem dX7_lays_41 : decode cX7_lays 41 = .ok (.ireturn, 1) := by decide +kernel
theorem dX7_lays_42 : decode cX7_lays 42 = .ok (.aload_n 0, 1) := by decide +kernel
theorem dX7_lays_43 : decode cX7_lays 43 = .ok (.getfield 33, 3) := by decide +kernel
theorem dX7_lays_46 : decode cX7_lays 46 = .ok (.aload_n 0, 1) := by decide +kernel
theorem dX7_lays_47 : decode cX7_lays 47 = .ok (.getfield 26, 3) := by decide +kernel
theorem dX7_lays_50 : decode cX7_lays 50 = .ok (.invokevirtual 139, 3) := by decide +kernel
theorem dX7_lays_53 : decode cX7_lays 53 = .ok (.aload_n 0, 1) := by decide +kernel
theorem dX7_lays_54 : decode cX7_lays 54 = .ok (.getfield 26, 3) := by decide +kernel
theorem dX7_lays_57 : decode cX7_lays 57 = .ok (.getfield 108, 3) := by decide +kernel
theorem dX7_lays_60 : decode cX7_lays 60 = .ok (.iload_n 1, 1) := by decide +kernel
theorem dX7_lays_61 : decode cX7_lays 61 = .ok (.iload_n 2, 1) := by decide +kernel
theorem dX7_lays_62 : decode cX7_lays 62 = .ok (.iastore, 1) := by decide +kernel
theorem dX7_lays_63 : decode cX7_lays 63 = .ok (.iload_n 3, 1) := by decide +kernel
theorem dX7_lays_64 : decode cX7_lays 64 = .ok (.ireturn, 1) := by decide +kernel
set_option maxRecDepth 20000 in
theorem ggX7_spills_X3_has : GoodIn wsX7_spills wsX3_has := goodIn_r _ [8, 9, 10, 48, 49, 50, 51, 52, 53, 54, 55, 56, 57, 58, 59] (by decide +kernel) (by decide +kernel)
set_option maxRecDepth 20000 in
theorem gX7_spills_X3_has : GoodIn wsX7_spills (wsV RX7 94 RX3 yX3_has wsX3_has) := goodIn_app (goodIn_of _ (by decide +kernel)) ggX7_spills_X3_has
set_option maxRecDepth 20000 in
theorem ggX7_spills_X4_remember : GoodIn wsX7_spills wsX4_remember := goodIn_r _ [15, 16, 17, 18, 19, 20, 21, 22, 23, 24, 25, 26, 27, 28, 29, 30, 31, 32, 33, 34, 35, 36, 37, 38, 60, 61, 62, 63, 64, 48, 49, 50, 51, 52, 53] (by decide +kernel) (by decide +kernel)
set_option maxRecDepth 20000 in
theorem gX7_spills_X4_remember : GoodIn wsX7_spills (wsV RX7 139 RX4 yX4_remember wsX4_remember) := goodIn_app (goodIn_of _ (by decide +kernel)) ggX7_spills_X4_remember
theorem dX7_spills_0 : decode cX7_spills 0 = .ok (.aload_n 0, 1) := by decide +kernel
theorem dX7_spills_1 : decode cX7_spills 1 = .ok (.getfield 26, 3) := by decide +kernel
theorem dX7_spills_4 : decode cX7_spills 4 = .ok (.iload_n 1, 1) := by decide +kernel
theorem dX7_spills_5 : decode cX7_spills 5 = .ok (.invokevirtual 94, 3) := by decide +kernel
theorem dX7_spills_8 : decode cX7_spills 8 = .ok (.ifCond .ne 5, 3) := by decide +kernel
theorem dX7_spills_11 : decode cX7_spills 11 = .ok (.iconst (-1), 1) := by decide +kernel
theorem dX7_spills_12 : decode cX7_spills 12 = .ok (.ireturn, 1) := by decide +kernel
theorem dX7_spills_13 : decode cX7_spills 13 = .ok (.aload_n 0, 1) := by decide +kernel
theorem dX7_spills_14 : decode cX7_spills 14 = .ok (.getfield 26, 3) := by decide +kernel
theorem dX7_spills_17 : decode cX7_spills 17 = .ok (.getfield 98, 3) := by decide +kernel
theorem dX7_spills_20 : decode cX7_spills 20 = .ok (.iload_n 1, 1) := by decide +kernel
theorem dX7_spills_21 : decode cX7_spills 21 = .ok (.iaload, 1) := by decide +kernel
theorem dX7_spills_22 : decode cX7_spills 22 = .ok (.istore_n 2, 1) := by decide +kernel
theorem dX7_spills_23 : decode cX7_spills 23 = .ok (.iload_n 2, 1) := by decide +kernel
theorem dX7_spills_24 : decode cX7_spills 24 = .ok (.ifCond .ne 6, 3) := by decide +kernel
theorem dX7_spills_27 : decode cX7_spills 27 = .ok (.bipush (-2), 2) := by decide +kernel
theorem dX7_spills_29 : decode cX7_spills 29 = .ok (.ireturn, 1) := by decide +kernel
theorem dX7_spills_30 : decode cX7_spills 30 = .ok (.aload_n 0, 1) := by decide +kernel
theorem dX7_spills_31 : decode cX7_spills 31 = .ok (.getfield 33, 3) := by decide +kernel
theorem dX7_spills_34 : decode cX7_spills 34 = .ok (.aload_n 0, 1) := by decide +kernel
theorem dX7_spills_35 : decode cX7_spills 35 = .ok (.getfield 26, 3) := by decide +kernel
theorem dX7_spills_38 : decode cX7_spills 38 = .ok (.invokevirtual 139, 3) := by decide +kernel
theorem dX7_spills_41 : decode cX7_spills 41 = .ok (.aload_n 0, 1) := by decide +kernel
theorem dX7_spills_42 : decode cX7_spills 42 = .ok (.getfield 26, 3) := by decide +kernel
theorem dX7_spills_45 : decode cX7_spills 45 = .ok (.getfield 98, 3) := by decide +kernel
theorem dX7_spills_48 : decode cX7_spills 48 = .ok (.iload_n 1, 1) := by decide +kernel
theorem dX7_spills_49 : decode cX7_spills 49 = .ok (.iconst 0, 1) := by decide +kernel
theorem dX7_spills_50 : decode cX7_spills 50 = .ok (.iastore, 1) := by decide +kernel
theorem dX7_spills_51 : decode cX7_spills 51 = .ok (.iload_n 2, 1) := by decide +kernel
theorem dX7_spills_52 : decode cX7_spills 52 = .ok (.ireturn, 1) := by decide +kernel
set_option maxRecDepth 20000 in
theorem ggX7_frosts_X4_remember : GoodIn wsX7_frosts wsX4_remember := goodIn_r _ [8, 9, 10, 11, 12, 13, 14, 15, 16, 17, 18, 19, 20, 21, 22, 23, 24, 25, 26, 27, 28, 29, 30, 31, 47, 48, 49, 50, 51, 41, 42, 43, 44, 45, 46] (by decide +kernel) (by decide +kernel)
set_option maxRecDepth 20000 in
theorem gX7_frosts_X4_remember : GoodIn wsX7_frosts (wsV RX7 139 RX4 yX4_remember wsX4_remember) := goodIn_app (goodIn_of _ (by decide +kernel)) ggX7_frosts_X4_remember
theorem dX7_frosts_0 : decode cX7_frosts 0 = .ok (.iload_n 1, 1) := by decide +kernel
theorem dX7_frosts_1 : decode cX7_frosts 1 = .ok (.ifCond .lt 9, 3) := by decide +kernel
theorem dX7_frosts_4 : decode cX7_frosts 4 = .ok (.iload_n 1, 1) := by decide +kernel
theorem dX7_frosts_5 : decode cX7_frosts 5 = .ok (.bipush 9, 2) := by decide +kernel
theorem dX7_frosts_7 : decode cX7_frosts 7 = .ok (.if_icmp .le 5, 3) := by decide +kernel
theorem dX7_frosts_10 : decode cX7_frosts 10 = .ok (.iconst (-1), 1) := by decide +kernel
theorem dX7_frosts_11 : decode cX7_frosts 11 = .ok (.ireturn, 1) := by decide +kernel
theorem dX7_frosts_12 : decode cX7_frosts 12 = .ok (.aload_n 0, 1) := by decide +kernel
theorem dX7_frosts_13 : decode cX7_frosts 13 = .ok (.getfield 26, 3) := by decide +kernel
theorem dX7_frosts_16 : decode cX7_frosts 16 = .ok (.getfield 122, 3) := by decide +kernel
theorem dX7_frosts_19 : decode cX7_frosts 19 = .ok (.istore_n 2, 1) := by decide +kernel
theorem dX7_frosts_20 : decode cX7_frosts 20 = .ok (.iload_n 2, 1) := by decide +kernel
theorem dX7_frosts_21 : decode cX7_frosts 21 = .ok (.iload_n 1, 1) := by decide +kernel
theorem dX7_frosts_22 : decode cX7_frosts 22 = .ok (.if_icmp .ne 6, 3) := by decide +kernel
theorem dX7_frosts_25 : decode cX7_frosts 25 = .ok (.bipush (-2), 2) := by decide +kernel
theorem dX7_frosts_27 : decode cX7_frosts 27 = .ok (.ireturn, 1) := by decide +kernel
theorem dX7_frosts_28 : decode cX7_frosts 28 = .ok (.aload_n 0, 1) := by decide +kernel
theorem dX7_frosts_29 : decode cX7_frosts 29 = .ok (.getfield 33, 3) := by decide +kernel
theorem dX7_frosts_32 : decode cX7_frosts 32 = .ok (.aload_n 0, 1) := by decide +kernel
theorem dX7_frosts_33 : decode cX7_frosts 33 = .ok (.getfield 26, 3) := by decide +kernel
theorem dX7_frosts_36 : decode cX7_frosts 36 = .ok (.invokevirtual 139, 3) := by decide +kernel
theorem dX7_frosts_39 : decode cX7_frosts 39 = .ok (.aload_n 0, 1) := by decide +kernel
theorem dX7_frosts_40 : decode cX7_frosts 40 = .ok (.getfield 26, 3) := by decide +kernel
theorem dX7_frosts_43 : decode cX7_frosts 43 = .ok (.iload_n 1, 1) := by decide +kernel
theorem dX7_frosts_44 : decode cX7_frosts 44 = .ok (.putfield 122, 3) := by decide +kernel
theorem dX7_frosts_47 : decode cX7_frosts 47 = .ok (.iload_n 2, 1) := by decide +kernel
theorem dX7_frosts_48 : decode cX7_frosts 48 = .ok (.ireturn, 1) := by decide +kernel
set_option maxRecDepth 20000 in
theorem ggX7_boils_X4_remember : GoodIn wsX7_boils wsX4_remember := goodIn_r _ [10, 11, 12, 13, 14, 15, 16, 17, 18, 19, 20, 21, 22, 23, 24, 25, 26, 27, 28, 29, 30, 31, 32, 33, 55, 56, 57, 58, 59, 43, 44, 45, 46, 47, 48] (by decide +kernel) (by decide +kernel)
set_option maxRecDepth 20000 in
theorem gX7_boils_X4_remember : GoodIn wsX7_boils (wsV RX7 139 RX4 yX4_remember wsX4_remember) := goodIn_app (goodIn_of _ (by decide +kernel)) ggX7_boils_X4_remember
theorem dX7_boils_0 : decode cX7_boils 0 = .ok (.aload_n 0, 1) := by decide +kernel
theorem dX7_boils_1 : decode cX7_boils 1 = .ok (.getfield 26, 3) := by decide +kernel
theorem dX7_boils_4 : decode cX7_boils 4 = .ok (.getfield 125, 3) := by decide +kernel
theorem dX7_boils_7 : decode cX7_boils 7 = .ok (.istore_n 1, 1) := by decide +kernel
theorem dX7_boils_8 : decode cX7_boils 8 = .ok (.iload_n 1, 1) := by decide +kernel
theorem dX7_boils_9 : decode cX7_boils 9 = .ok (.aload_n 0, 1) := by decide +kernel
theorem dX7_boils_10 : decode cX7_boils 10 = .ok (.getfield 26, 3) := by decide +kernel
theorem dX7_boils_13 : decode cX7_boils 13 = .ok (.getfield 78, 3) := by decide +kernel
theorem dX7_boils_16 : decode cX7_boils 16 = .ok (.getfield 148, 3) := by decide +kernel
theorem dX7_boils_19 : decode cX7_boils 19 = .ok (.if_icmp .ne 6, 3) := by decide +kernel
theorem dX7_boils_22 : decode cX7_boils 22 = .ok (.bipush (-2), 2) := by decide +kernel
theorem dX7_boils_24 : decode cX7_boils 24 = .ok (.ireturn, 1) := by decide +kernel
theorem dX7_boils_25 : decode cX7_boils 25 = .ok (.aload_n 0, 1) := by decide +kernel
theorem dX7_boils_26 : decode cX7_boils 26 = .ok (.getfield 33, 3) := by decide +kernel
theorem dX7_boils_29 : decode cX7_boils 29 = .ok (.aload_n 0, 1) := by decide +kernel
theorem dX7_boils_30 : decode cX7_boils 30 = .ok (.getfield 26, 3) := by decide +kernel
theorem dX7_boils_33 : decode cX7_boils 33 = .ok (.invokevirtual 139, 3) := by decide +kernel
theorem dX7_boils_36 : decode cX7_boils 36 = .ok (.aload_n 0, 1) := by decide +kernel
theorem dX7_boils_37 : decode cX7_boils 37 = .ok (.getfield 26, 3) := by decide +kernel
theorem dX7_boils_40 : decode cX7_boils 40 = .ok (.aload_n 0, 1) := by decide +kernel
theorem dX7_boils_41 : decode cX7_boils 41 = .ok (.getfield 26, 3) := by decide +kernel
theorem dX7_boils_44 : decode cX7_boils 44 = .ok (.getfield 78, 3) := by decide +kernel
theorem dX7_boils_47 : decode cX7_boils 47 = .ok (.getfield 148, 3) := by decide +kernel
theorem dX7_boils_50 : decode cX7_boils 50 = .ok (.putfield 125, 3) := by decide +kernel
theorem dX7_boils_53 : decode cX7_boils 53 = .ok (.iload_n 1, 1) := by decide +kernel
theorem dX7_boils_54 : decode cX7_boils 54 = .ok (.ireturn, 1) := by decide +kernel
set_option maxRecDepth 20000 in
theorem ggX7_undo_X4_takeLatest : GoodIn wsX7_undo wsX4_takeLatest := goodIn_r _ [8, 9, 10, 11, 12, 13, 14, 15, 16, 17, 18, 19, 20, 21, 22, 23, 24, 25, 26, 27, 37, 38, 39, 40, 41, 42, 43, 44, 45, 46, 47] (by decide +kernel) (by decide +kernel)
set_option maxRecDepth 20000 in
theorem gX7_undo_X4_takeLatest : GoodIn wsX7_undo (wsV RX7 149 RX4 yX4_takeLatest wsX4_takeLatest) := goodIn_app (goodIn_of _ (by decide +kernel)) ggX7_undo_X4_takeLatest
theorem dX7_undo_0 : decode cX7_undo 0 = .ok (.aload_n 0, 1) := by decide +kernel
theorem dX7_undo_1 : decode cX7_undo 1 = .ok (.getfield 33, 3) := by decide +kernel
theorem dX7_undo_4 : decode cX7_undo 4 = .ok (.getfield 88, 3) := by decide +kernel
theorem dX7_undo_7 : decode cX7_undo 7 = .ok (.iconst 1, 1) := by decide +kernel
theorem dX7_undo_8 : decode cX7_undo 8 = .ok (.if_icmp .ge 6, 3) := by decide +kernel
theorem dX7_undo_11 : decode cX7_undo 11 = .ok (.bipush (-2), 2) := by decide +kernel
theorem dX7_undo_13 : decode cX7_undo 13 = .ok (.ireturn, 1) := by decide +kernel
theorem dX7_undo_14 : decode cX7_undo 14 = .ok (.aload_n 0, 1) := by decide +kernel
theorem dX7_undo_15 : decode cX7_undo 15 = .ok (.getfield 33, 3) := by decide +kernel
theorem dX7_undo_18 : decode cX7_undo 18 = .ok (.aload_n 0, 1) := by decide +kernel
theorem dX7_undo_19 : decode cX7_undo 19 = .ok (.getfield 26, 3) := by decide +kernel
theorem dX7_undo_22 : decode cX7_undo 22 = .ok (.invokevirtual 149, 3) := by decide +kernel
theorem dX7_undo_25 : decode cX7_undo 25 = .ok (.aload_n 0, 1) := by decide +kernel
theorem dX7_undo_26 : decode cX7_undo 26 = .ok (.getfield 33, 3) := by decide +kernel
theorem dX7_undo_29 : decode cX7_undo 29 = .ok (.getfield 88, 3) := by decide +kernel
theorem dX7_undo_32 : decode cX7_undo 32 = .ok (.ireturn, 1) := by decide +kernel
set_option maxRecDepth 20000 in
theorem ggX7_morning_X3_has : GoodIn wsX7_morning wsX3_has := goodIn_r _ [6, 7, 8, 47, 48, 49, 50, 51, 52, 53, 54, 55, 56, 57, 58] (by decide +kernel) (by decide +kernel)
set_option maxRecDepth 20000 in
theorem gX7_morning_X3_has : GoodIn wsX7_morning (wsV RX7 94 RX3 yX3_has wsX3_has) := goodIn_app (goodIn_of _ (by decide +kernel)) ggX7_morning_X3_has
set_option maxRecDepth 20000 in
theorem ggX7_morning_X3_pintsOfAll : GoodIn wsX7_morning wsX3_pintsOfAll := goodIn_r _ [12, 7, 8, 13, 14, 15, 5, 16, 17, 18, 19, 20, 21, 22, 23, 24, 25, 26, 27, 28, 29, 30, 31, 32, 33, 34, 35, 36, 47, 48, 49, 50, 51, 52, 53, 54, 55, 56, 57, 58] (by decide +kernel) (by decide +kernel)
set_option maxRecDepth 20000 in
theorem gX7_morning_X3_pintsOfAll : GoodIn wsX7_morning (wsV RX7 152 RX3 yX3_pintsOfAll wsX3_pintsOfAll) := goodIn_app (goodIn_of _ (by decide +kernel)) ggX7_morning_X3_pintsOfAll
set_option maxRecDepth 20000 in
theorem ggX7_morning_X3_pintsOf : GoodIn wsX7_morning wsX3_pintsOf := goodIn_r _ [16, 17, 18, 19, 20, 21, 22, 5, 23, 7, 24, 8, 25, 26, 27, 28, 29, 30, 31, 32, 33, 34, 35, 36, 47, 48, 49, 50, 51, 52, 53, 54, 55, 56, 57, 58] (by decide +kernel) (by decide +kernel)
set_option maxRecDepth 20000 in
theorem gX7_morning_X3_pintsOf : GoodIn wsX7_morning (wsV RX7 156 RX3 yX3_pintsOf wsX3_pintsOf) := goodIn_app (goodIn_of _ (by decide +kernel)) ggX7_morning_X3_pintsOf
theorem dX7_morning_0 : decode cX7_morning 0 = .ok (.iload_n 1, 1) := by decide +kernel
theorem dX7_morning_1 : decode cX7_morning 1 = .ok (.iconst 1, 1) := by decide +kernel
theorem dX7_morning_2 : decode cX7_morning 2 = .ok (.if_icmp .lt 25, 3) := by decide +kernel
theorem dX7_morning_5 : decode cX7_morning 5 = .ok (.iload_n 1, 1) := by decide +kernel
theorem dX7_morning_6 : decode cX7_morning 6 = .ok (.bipush 40, 2) := by decide +kernel
theorem dX7_morning_8 : decode cX7_morning 8 = .ok (.if_icmp .gt 19, 3) := by decide +kernel
theorem dX7_morning_11 : decode cX7_morning 11 = .ok (.iload_n 2, 1) := by decide +kernel
theorem dX7_morning_12 : decode cX7_morning 12 = .ok (.iconst (-1), 1) := by decide +kernel
theorem dX7_morning_13 : decode cX7_morning 13 = .ok (.if_icmp .eq 16, 3) := by decide +kernel
theorem dX7_morning_16 : decode cX7_morning 16 = .ok (.aload_n 0, 1) := by decide +kernel
theorem dX7_morning_17 : decode cX7_morning 17 = .ok (.getfield 26, 3) := by decide +kernel
theorem dX7_morning_20 : decode cX7_morning 20 = .ok (.iload_n 2, 1) := by decide +kernel
theorem dX7_morning_21 : decode cX7_morning 21 = .ok (.invokevirtual 94, 3) := by decide +kernel
theorem dX7_morning_24 : decode cX7_morning 24 = .ok (.ifCond .ne 5, 3) := by decide +kernel
theorem dX7_morning_27 : decode cX7_morning 27 = .ok (.iconst (-1), 1) := by decide +kernel
theorem dX7_morning_28 : decode cX7_morning 28 = .ok (.ireturn, 1) := by decide +kernel
theorem dX7_morning_29 : decode cX7_morning 29 = .ok (.iload_n 2, 1) := by decide +kernel
theorem dX7_morning_30 : decode cX7_morning 30 = .ok (.iconst (-1), 1) := by decide +kernel
theorem dX7_morning_31 : decode cX7_morning 31 = .ok (.if_icmp .ne 14, 3) := by decide +kernel
theorem dX7_morning_34 : decode cX7_morning 34 = .ok (.aload_n 0, 1) := by decide +kernel
theorem dX7_morning_35 : decode cX7_morning 35 = .ok (.getfield 26, 3) := by decide +kernel
theorem dX7_morning_38 : decode cX7_morning 38 = .ok (.iload_n 1, 1) := by decide +kernel
theorem dX7_morning_39 : decode cX7_morning 39 = .ok (.invokevirtual 152, 3) := by decide +kernel
theorem dX7_morning_42 : decode cX7_morning 42 = .ok (.goto 12, 3) := by decide +kernel
theorem dX7_morning_45 : decode cX7_morning 45 = .ok (.aload_n 0, 1) := by decide +kernel
theorem dX7_morning_46 : decode cX7_morning 46 = .ok (.getfield 26, 3) := by decide +kernel
theorem dX7_morning_49 : decode cX7_morning 49 = .ok (.iload_n 2, 1) := by decide +kernel
theorem dX7_morning_50 : decode cX7_morning 50 = .ok (.iload_n 1, 1) := by decide +kernel
theorem dX7_morning_51 : decode cX7_morning 51 = .ok (.invokevirtual 156, 3) := by decide +kernel
theorem dX7_morning_54 : decode cX7_morning 54 = .ok (.ireturn, 1) := by decide +kernel
set_option maxRecDepth 20000 in
theorem ggX7_kept_X2_mostHours : GoodIn wsX7_kept wsX2_mostHours := goodIn_r _ [9, 10, 11, 12, 13, 14, 8, 15, 16, 17, 18, 19, 20, 21, 22, 23, 24, 25, 26, 27, 28, 29, 30, 31, 32, 33, 34, 35, 36, 37, 38, 39, 40, 41, 42, 43, 44, 45, 46, 47, 48, 49, 50, 51, 52, 53, 54, 55, 82, 83, 84, 70, 71, 72, 73, 74, 75, 76, 77, 78, 79, 80, 81] (by decide +kernel) (by decide +kernel)
set_option maxRecDepth 20000 in
theorem gX7_kept_X2_mostHours : GoodIn wsX7_kept (wsV RX7 159 RX2 yX2_mostHours wsX2_mostHours) := goodIn_app (goodIn_of _ (by decide +kernel)) ggX7_kept_X2_mostHours
set_option maxRecDepth 20000 in
theorem ggX7_kept_X2_first : GoodIn wsX7_kept wsX2_first := goodIn_r _ [59, 10, 16, 17, 11, 60, 6, 7, 8, 9, 12, 13, 14, 15, 18, 19, 20, 21, 22, 23, 24, 25, 26, 27, 28, 29, 30, 31, 32, 33, 34, 35, 36, 37, 38, 39, 40, 41, 42, 43, 44, 45, 46, 47, 48, 49, 50, 51, 52, 53, 54, 55, 82, 83, 84, 70, 71, 72, 73, 74, 75, 76, 77, 78, 79, 80, 81] (by decide +kernel) (by decide +kernel)
set_option maxRecDepth 20000 in
theorem gX7_kept_X2_first : GoodIn wsX7_kept (wsV RX7 162 RX2 yX2_first wsX2_first) := goodIn_app (goodIn_of _ (by decide +kernel)) ggX7_kept_X2_first
theorem dX7_kept_0 : decode cX7_kept 0 = .ok (.iload_n 1, 1) := by decide +kernel
theorem dX7_kept_1 : decode cX7_kept 1 = .ok (.ifCond .eq 10, 3) := by decide +kernel
theorem dX7_kept_4 : decode cX7_kept 4 = .ok (.iload_n 1, 1) := by decide +kernel
theorem dX7_kept_5 : decode cX7_kept 5 = .ok (.iconst 1, 1) := by decide +kernel
theorem dX7_kept_6 : decode cX7_kept 6 = .ok (.if_icmp .eq 5, 3) := by decide +kernel
theorem dX7_kept_9 : decode cX7_kept 9 = .ok (.iconst (-1), 1) := by decide +kernel
theorem dX7_kept_10 : decode cX7_kept 10 = .ok (.ireturn, 1) := by decide +kernel
theorem dX7_kept_11 : decode cX7_kept 11 = .ok (.aload_n 0, 1) := by decide +kernel
theorem dX7_kept_12 : decode cX7_kept 12 = .ok (.getfield 26, 3) := by decide +kernel
theorem dX7_kept_15 : decode cX7_kept 15 = .ok (.getfield 78, 3) := by decide +kernel
theorem dX7_kept_18 : decode cX7_kept 18 = .ok (.getfield 128, 3) := by decide +kernel
theorem dX7_kept_21 : decode cX7_kept 21 = .ok (.ifCond .ne 6, 3) := by decide +kernel
theorem dX7_kept_24 : decode cX7_kept 24 = .ok (.bipush (-9), 2) := by decide +kernel
theorem dX7_kept_26 : decode cX7_kept 26 = .ok (.ireturn, 1) := by decide +kernel
theorem dX7_kept_27 : decode cX7_kept 27 = .ok (.iload_n 1, 1) := by decide +kernel
theorem dX7_kept_28 : decode cX7_kept 28 = .ok (.ifCond .ne 13, 3) := by decide +kernel
theorem dX7_kept_31 : decode cX7_kept 31 = .ok (.aload_n 0, 1) := by decide +kernel
theorem dX7_kept_32 : decode cX7_kept 32 = .ok (.getfield 62, 3) := by decide +kernel
theorem dX7_kept_35 : decode cX7_kept 35 = .ok (.invokevirtual 159, 3) := by decide +kernel
theorem dX7_kept_38 : decode cX7_kept 38 = .ok (.goto 10, 3) := by decide +kernel
theorem dX7_kept_41 : decode cX7_kept 41 = .ok (.aload_n 0, 1) := by decide +kernel
theorem dX7_kept_42 : decode cX7_kept 42 = .ok (.getfield 62, 3) := by decide +kernel
theorem dX7_kept_45 : decode cX7_kept 45 = .ok (.invokevirtual 162, 3) := by decide +kernel
theorem dX7_kept_48 : decode cX7_kept 48 = .ok (.ireturn, 1) := by decide +kernel
set_option maxRecDepth 20000 in
theorem ggX7_beds_X3_has : GoodIn wsX7_beds wsX3_has := goodIn_r _ [9, 10, 11, 43, 44, 45, 46, 47, 48, 49, 50, 51, 52, 53, 54] (by decide +kernel) (by decide +kernel)
set_option maxRecDepth 20000 in
theorem gX7_beds_X3_has : GoodIn wsX7_beds (wsV RX7 94 RX3 yX3_has wsX3_has) := goodIn_app (goodIn_of _ (by decide +kernel)) ggX7_beds_X3_has
set_option maxRecDepth 20000 in
theorem ggX7_beds_X3_allLast : GoodIn wsX7_beds wsX3_allLast := goodIn_r _ [15, 10, 11, 16, 17, 18, 19, 20, 21, 22, 8, 23, 24, 25, 26, 27, 28, 29, 30, 31, 32, 33, 43, 44, 45, 46, 47, 48, 49, 50, 51, 52, 53, 54] (by decide +kernel) (by decide +kernel)
set_option maxRecDepth 20000 in
theorem gX7_beds_X3_allLast : GoodIn wsX7_beds (wsV RX7 131 RX3 yX3_allLast wsX3_allLast) := goodIn_app (goodIn_of _ (by decide +kernel)) ggX7_beds_X3_allLast
theorem dX7_beds_0 : decode cX7_beds 0 = .ok (.iload_n 1, 1) := by decide +kernel
theorem dX7_beds_1 : decode cX7_beds 1 = .ok (.iconst (-1), 1) := by decide +kernel
theorem dX7_beds_2 : decode cX7_beds 2 = .ok (.if_icmp .eq 16, 3) := by decide +kernel
theorem dX7_beds_5 : decode cX7_beds 5 = .ok (.aload_n 0, 1) := by decide +kernel
theorem dX7_beds_6 : decode cX7_beds 6 = .ok (.getfield 26, 3) := by decide +kernel
theorem dX7_beds_9 : decode cX7_beds 9 = .ok (.iload_n 1, 1) := by decide +kernel
theorem dX7_beds_10 : decode cX7_beds 10 = .ok (.invokevirtual 94, 3) := by decide +kernel
theorem dX7_beds_13 : decode cX7_beds 13 = .ok (.ifCond .ne 5, 3) := by decide +kernel
theorem dX7_beds_16 : decode cX7_beds 16 = .ok (.iconst (-1), 1) := by decide +kernel
theorem dX7_beds_17 : decode cX7_beds 17 = .ok (.ireturn, 1) := by decide +kernel
theorem dX7_beds_18 : decode cX7_beds 18 = .ok (.aload_n 0, 1) := by decide +kernel
theorem dX7_beds_19 : decode cX7_beds 19 = .ok (.getfield 26, 3) := by decide +kernel
theorem dX7_beds_22 : decode cX7_beds 22 = .ok (.getfield 78, 3) := by decide +kernel
theorem dX7_beds_25 : decode cX7_beds 25 = .ok (.getfield 128, 3) := by decide +kernel
theorem dX7_beds_28 : decode cX7_beds 28 = .ok (.ifCond .ne 6, 3) := by decide +kernel
theorem dX7_beds_31 : decode cX7_beds 31 = .ok (.bipush (-9), 2) := by decide +kernel
theorem dX7_beds_33 : decode cX7_beds 33 = .ok (.ireturn, 1) := by decide +kernel
theorem dX7_beds_34 : decode cX7_beds 34 = .ok (.iload_n 1, 1) := by decide +kernel
theorem dX7_beds_35 : decode cX7_beds 35 = .ok (.iconst (-1), 1) := by decide +kernel
theorem dX7_beds_36 : decode cX7_beds 36 = .ok (.if_icmp .ne 16, 3) := by decide +kernel
theorem dX7_beds_39 : decode cX7_beds 39 = .ok (.aload_n 0, 1) := by decide +kernel
theorem dX7_beds_40 : decode cX7_beds 40 = .ok (.getfield 26, 3) := by decide +kernel
theorem dX7_beds_43 : decode cX7_beds 43 = .ok (.getstatic 165, 3) := by decide +kernel
theorem dX7_beds_46 : decode cX7_beds 46 = .ok (.invokevirtual 131, 3) := by decide +kernel
theorem dX7_beds_49 : decode cX7_beds 49 = .ok (.goto 4, 3) := by decide +kernel
theorem dX7_beds_52 : decode cX7_beds 52 = .ok (.iconst 0, 1) := by decide +kernel
theorem dX7_beds_53 : decode cX7_beds 53 = .ok (.ireturn, 1) := by decide +kernel
set_option maxRecDepth 20000 in
theorem ggX7_odds_X3_has : GoodIn wsX7_odds wsX3_has := goodIn_r _ [6, 7, 8, 41, 42, 43, 44, 45, 46, 47, 48, 49, 50, 51, 52] (by decide +kernel) (by decide +kernel)
set_option maxRecDepth 20000 in
theorem gX7_odds_X3_has : GoodIn wsX7_odds (wsV RX7 94 RX3 yX3_has wsX3_has) := goodIn_app (goodIn_of _ (by decide +kernel)) ggX7_odds_X3_has
set_option maxRecDepth 20000 in
theorem ggX7_odds_X3_waysStillWarm : GoodIn wsX7_odds wsX3_waysStillWarm := goodIn_r _ [12, 13, 14, 15, 16, 17, 18, 5, 19, 7, 20, 8, 21, 22, 23, 24, 25, 26, 27, 41, 42, 43, 44, 45, 46, 47, 48, 49, 50, 51, 52] (by decide +kernel) (by decide +kernel)
set_option maxRecDepth 20000 in
theorem gX7_odds_X3_waysStillWarm : GoodIn wsX7_odds (wsV RX7 168 RX3 yX3_waysStillWarm wsX3_waysStillWarm) := goodIn_app (goodIn_of _ (by decide +kernel)) ggX7_odds_X3_waysStillWarm
set_option maxRecDepth 20000 in
theorem ggX7_odds_X7_commonDivisor : GoodIn wsX7_odds wsX7_commonDivisor := goodIn_r _ [31] (by decide +kernel) (by decide +kernel)
set_option maxRecDepth 20000 in
theorem gX7_odds_X7_commonDivisor : GoodIn wsX7_odds (va_wsS RX7 172 yX7_commonDivisor wsX7_commonDivisor) := goodIn_app (goodIn_of _ (by decide +kernel)) ggX7_odds_X7_commonDivisor
theorem dX7_odds_0 : decode cX7_odds 0 = .ok (.aload_n 0, 1) := by decide +kernel
theorem dX7_odds_1 : decode cX7_odds 1 = .ok (.getfield 26, 3) := by decide +kernel
theorem dX7_odds_4 : decode cX7_odds 4 = .ok (.iload_n 1, 1) := by decide +kernel
theorem dX7_odds_5 : decode cX7_odds 5 = .ok (.invokevirtual 94, 3) := by decide +kernel
theorem dX7_odds_8 : decode cX7_odds 8 = .ok (.ifCond .eq 23, 3) := by decide +kernel
theorem dX7_odds_11 : decode cX7_odds 11 = .ok (.iload_n 2, 1) := by decide +kernel
theorem dX7_odds_12 : decode cX7_odds 12 = .ok (.ifCond .lt 19, 3) := by decide +kernel
theorem dX7_odds_15 : decode cX7_odds 15 = .ok (.iload_n 2, 1) := by decide +kernel
theorem dX7_odds_16 : decode cX7_odds 16 = .ok (.bipush 10, 2) := by decide +kernel
theorem dX7_odds_18 : decode cX7_odds 18 = .ok (.if_icmp .gt 13, 3) := by decide +kernel
theorem dX7_odds_21 : decode cX7_odds 21 = .ok (.iload_n 3, 1) := by decide +kernel
theorem dX7_odds_22 : decode cX7_odds 22 = .ok (.ifCond .lt 9, 3) := by decide +kernel
theorem dX7_odds_25 : decode cX7_odds 25 = .ok (.iload_n 3, 1) := by decide +kernel
theorem dX7_odds_26 : decode cX7_odds 26 = .ok (.bipush 8, 2) := by decide +kernel
theorem dX7_odds_28 : decode cX7_odds 28 = .ok (.if_icmp .le 5, 3) := by decide +kernel
theorem dX7_odds_31 : decode cX7_odds 31 = .ok (.iconst (-1), 1) := by decide +kernel
theorem dX7_odds_32 : decode cX7_odds 32 = .ok (.ireturn, 1) := by decide +kernel
theorem dX7_odds_33 : decode cX7_odds 33 = .ok (.iload 4, 2) := by decide +kernel
theorem dX7_odds_35 : decode cX7_odds 35 = .ok (.ifCond .eq 11, 3) := by decide +kernel
theorem dX7_odds_38 : decode cX7_odds 38 = .ok (.iload 4, 2) := by decide +kernel
theorem dX7_odds_40 : decode cX7_odds 40 = .ok (.iconst 1, 1) := by decide +kernel
theorem dX7_odds_41 : decode cX7_odds 41 = .ok (.if_icmp .eq 5, 3) := by decide +kernel
theorem dX7_odds_44 : decode cX7_odds 44 = .ok (.iconst (-1), 1) := by decide +kernel
theorem dX7_odds_45 : decode cX7_odds 45 = .ok (.ireturn, 1) := by decide +kernel
theorem dX7_odds_46 : decode cX7_odds 46 = .ok (.aload_n 0, 1) := by decide +kernel
theorem dX7_odds_47 : decode cX7_odds 47 = .ok (.getfield 26, 3) := by decide +kernel
theorem dX7_odds_50 : decode cX7_odds 50 = .ok (.iload_n 1, 1) := by decide +kernel
theorem dX7_odds_51 : decode cX7_odds 51 = .ok (.iload_n 2, 1) := by decide +kernel
theorem dX7_odds_52 : decode cX7_odds 52 = .ok (.iload_n 3, 1) := by decide +kernel
theorem dX7_odds_53 : decode cX7_odds 53 = .ok (.invokevirtual 168, 3) := by decide +kernel
theorem dX7_odds_56 : decode cX7_odds 56 = .ok (.istore 5, 2) := by decide +kernel
theorem dX7_odds_58 : decode cX7_odds 58 = .ok (.iconst 1, 1) := by decide +kernel
theorem dX7_odds_59 : decode cX7_odds 59 = .ok (.istore 6, 2) := by decide +kernel
theorem dX7_odds_61 : decode cX7_odds 61 = .ok (.iconst 0, 1) := by decide +kernel
theorem dX7_odds_62 : decode cX7_odds 62 = .ok (.istore 7, 2) := by decide +kernel
theorem dX7_odds_64 : decode cX7_odds 64 = .ok (.iload 7, 2) := by decide +kernel
theorem dX7_odds_66 : decode cX7_odds 66 = .ok (.iload_n 3, 1) := by decide +kernel
theorem dX7_odds_67 : decode cX7_odds 67 = .ok (.if_icmp .ge 16, 3) := by decide +kernel
theorem dX7_odds_70 : decode cX7_odds 70 = .ok (.iload 6, 2) := by decide +kernel
theorem dX7_odds_72 : decode cX7_odds 72 = .ok (.bipush 10, 2) := by decide +kernel
theorem dX7_odds_74 : decode cX7_odds 74 = .ok (.imul, 1) := by decide +kernel
theorem dX7_odds_75 : decode cX7_odds 75 = .ok (.istore 6, 2) := by decide +kernel
theorem dX7_odds_77 : decode cX7_odds 77 = .ok (.iinc 7 1, 3) := by decide +kernel
theorem dX7_odds_80 : decode cX7_odds 80 = .ok (.goto (-16), 3) := by decide +kernel
theorem dX7_odds_83 : decode cX7_odds 83 = .ok (.iload 4, 2) := by decide +kernel
theorem dX7_odds_85 : decode cX7_odds 85 = .ok (.ifCond .ne 8, 3) := by decide +kernel
theorem dX7_odds_88 : decode cX7_odds 88 = .ok (.iload 5, 2) := by decide +kernel
theorem dX7_odds_90 : decode cX7_odds 90 = .ok (.goto 5, 3) := by decide +kernel
theorem dX7_odds_93 : decode cX7_odds 93 = .ok (.iload 6, 2) := by decide +kernel
theorem dX7_odds_95 : decode cX7_odds 95 = .ok (.istore 7, 2) := by decide +kernel
theorem dX7_odds_97 : decode cX7_odds 97 = .ok (.iload 5, 2) := by decide +kernel
theorem dX7_odds_99 : decode cX7_odds 99 = .ok (.iload 6, 2) := by decide +kernel
theorem dX7_odds_101 : decode cX7_odds 101 = .ok (.invokestatic 172, 3) := by decide +kernel
theorem dX7_odds_104 : decode cX7_odds 104 = .ok (.istore 8, 2) := by decide +kernel
theorem dX7_odds_106 : decode cX7_odds 106 = .ok (.iload 8, 2) := by decide +kernel
theorem dX7_odds_108 : decode cX7_odds 108 = .ok (.ifCond .le 11, 3) := by decide +kernel
theorem dX7_odds_111 : decode cX7_odds 111 = .ok (.iload 7, 2) := by decide +kernel
theorem dX7_odds_113 : decode cX7_odds 113 = .ok (.iload 8, 2) := by decide +kernel
theorem dX7_odds_115 : decode cX7_odds 115 = .ok (.idiv, 1) := by decide +kernel
theorem dX7_odds_116 : decode cX7_odds 116 = .ok (.goto 5, 3) := by decide +kernel
theorem dX7_odds_119 : decode cX7_odds 119 = .ok (.iload 7, 2) := by decide +kernel
theorem dX7_odds_121 : decode cX7_odds 121 = .ok (.ireturn, 1) := by decide +kernel
theorem dX7_commonDivisor_0 : decode cX7_commonDivisor 0 = .ok (.iload_n 0, 1) := by decide +kernel
theorem dX7_commonDivisor_1 : decode cX7_commonDivisor 1 = .ok (.istore_n 2, 1) := by decide +kernel
theorem dX7_commonDivisor_2 : decode cX7_commonDivisor 2 = .ok (.iload_n 1, 1) := by decide +kernel
theorem dX7_commonDivisor_3 : decode cX7_commonDivisor 3 = .ok (.istore_n 3, 1) := by decide +kernel
theorem dX7_commonDivisor_4 : decode cX7_commonDivisor 4 = .ok (.iconst 0, 1) := by decide +kernel
theorem dX7_commonDivisor_5 : decode cX7_commonDivisor 5 = .ok (.istore 4, 2) := by decide +kernel
theorem dX7_commonDivisor_7 : decode cX7_commonDivisor 7 = .ok (.iload 4, 2) := by decide +kernel
theorem dX7_commonDivisor_9 : decode cX7_commonDivisor 9 = .ok (.bipush 64, 2) := by decide +kernel
theorem dX7_commonDivisor_11 : decode cX7_commonDivisor 11 = .ok (.if_icmp .ge 23, 3) := by decide +kernel
theorem dX7_commonDivisor_14 : decode cX7_commonDivisor 14 = .ok (.iload_n 3, 1) := by decide +kernel
theorem dX7_commonDivisor_15 : decode cX7_commonDivisor 15 = .ok (.ifCond .eq 19, 3) := by decide +kernel
theorem dX7_commonDivisor_18 : decode cX7_commonDivisor 18 = .ok (.iload_n 2, 1) := by decide +kernel
theorem dX7_commonDivisor_19 : decode cX7_commonDivisor 19 = .ok (.iload_n 3, 1) := by decide +kernel
theorem dX7_commonDivisor_20 : decode cX7_commonDivisor 20 = .ok (.irem, 1) := by decide +kernel
theorem dX7_commonDivisor_21 : decode cX7_commonDivisor 21 = .ok (.istore 5, 2) := by decide +kernel
theorem dX7_commonDivisor_23 : decode cX7_commonDivisor 23 = .ok (.iload_n 3, 1) := by decide +kernel
theorem dX7_commonDivisor_24 : decode cX7_commonDivisor 24 = .ok (.istore_n 2, 1) := by decide +kernel
theorem dX7_commonDivisor_25 : decode cX7_commonDivisor 25 = .ok (.iload 5, 2) := by decide +kernel
theorem dX7_commonDivisor_27 : decode cX7_commonDivisor 27 = .ok (.istore_n 3, 1) := by decide +kernel
theorem dX7_commonDivisor_28 : decode cX7_commonDivisor 28 = .ok (.iinc 4 1, 3) := by decide +kernel
theorem dX7_commonDivisor_31 : decode cX7_commonDivisor 31 = .ok (.goto (-24), 3) := by decide +kernel
theorem dX7_commonDivisor_34 : decode cX7_commonDivisor 34 = .ok (.iload_n 2, 1) := by decide +kernel
theorem dX7_commonDivisor_35 : decode cX7_commonDivisor 35 = .ok (.ireturn, 1) := by decide +kernel
set_option maxRecDepth 20000 in
theorem ggX7_hears_X1_add : GoodIn wsX7_hears wsX1_add := goodIn_r _ [7, 8, 9, 10, 20, 21, 22] (by decide +kernel) (by decide +kernel)
set_option maxRecDepth 20000 in
theorem gX7_hears_X1_add : GoodIn wsX7_hears (wsV RX7 175 RX1 yX1_add wsX1_add) := goodIn_app (goodIn_of _ (by decide +kernel)) ggX7_hears_X1_add
theorem dX7_hears_0 : decode cX7_hears 0 = .ok (.iload_n 1, 1) := by decide +kernel
theorem dX7_hears_1 : decode cX7_hears 1 = .ok (.ifCond .lt 18, 3) := by decide +kernel
theorem dX7_hears_4 : decode cX7_hears 4 = .ok (.iload_n 1, 1) := by decide +kernel
theorem dX7_hears_5 : decode cX7_hears 5 = .ok (.bipush 9, 2) := by decide +kernel
theorem dX7_hears_7 : decode cX7_hears 7 = .ok (.if_icmp .gt 12, 3) := by decide +kernel
theorem dX7_hears_10 : decode cX7_hears 10 = .ok (.iload_n 2, 1) := by decide +kernel
theorem dX7_hears_11 : decode cX7_hears 11 = .ok (.ifCond .lt 8, 3) := by decide +kernel
theorem dX7_hears_14 : decode cX7_hears 14 = .ok (.iload_n 2, 1) := by decide +kernel
theorem dX7_hears_15 : decode cX7_hears 15 = .ok (.iconst 2, 1) := by decide +kernel
theorem dX7_hears_16 : decode cX7_hears 16 = .ok (.if_icmp .le 5, 3) := by decide +kernel
theorem dX7_hears_19 : decode cX7_hears 19 = .ok (.iconst (-1), 1) := by decide +kernel
theorem dX7_hears_20 : decode cX7_hears 20 = .ok (.ireturn, 1) := by decide +kernel
theorem dX7_hears_21 : decode cX7_hears 21 = .ok (.aload_n 0, 1) := by decide +kernel
theorem dX7_hears_22 : decode cX7_hears 22 = .ok (.getfield 53, 3) := by decide +kernel
theorem dX7_hears_25 : decode cX7_hears 25 = .ok (.getfield 91, 3) := by decide +kernel
theorem dX7_hears_28 : decode cX7_hears 28 = .ok (.bipush 6, 2) := by decide +kernel
theorem dX7_hears_30 : decode cX7_hears 30 = .ok (.if_icmp .lt 6, 3) := by decide +kernel
theorem dX7_hears_33 : decode cX7_hears 33 = .ok (.bipush (-3), 2) := by decide +kernel
theorem dX7_hears_35 : decode cX7_hears 35 = .ok (.ireturn, 1) := by decide +kernel
theorem dX7_hears_36 : decode cX7_hears 36 = .ok (.aload_n 0, 1) := by decide +kernel
theorem dX7_hears_37 : decode cX7_hears 37 = .ok (.getfield 53, 3) := by decide +kernel
theorem dX7_hears_40 : decode cX7_hears 40 = .ok (.iload_n 1, 1) := by decide +kernel
theorem dX7_hears_41 : decode cX7_hears 41 = .ok (.iload_n 2, 1) := by decide +kernel
theorem dX7_hears_42 : decode cX7_hears 42 = .ok (.invokevirtual 175, 3) := by decide +kernel
theorem dX7_hears_45 : decode cX7_hears 45 = .ok (.aload_n 0, 1) := by decide +kernel
theorem dX7_hears_46 : decode cX7_hears 46 = .ok (.getfield 53, 3) := by decide +kernel
theorem dX7_hears_49 : decode cX7_hears 49 = .ok (.getfield 91, 3) := by decide +kernel
theorem dX7_hears_52 : decode cX7_hears 52 = .ok (.ireturn, 1) := by decide +kernel
theorem dX7_forget_0 : decode cX7_forget 0 = .ok (.aload_n 0, 1) := by decide +kernel
theorem dX7_forget_1 : decode cX7_forget 1 = .ok (.getfield 53, 3) := by decide +kernel
theorem dX7_forget_4 : decode cX7_forget 4 = .ok (.getfield 91, 3) := by decide +kernel
theorem dX7_forget_7 : decode cX7_forget 7 = .ok (.istore_n 1, 1) := by decide +kernel
theorem dX7_forget_8 : decode cX7_forget 8 = .ok (.aload_n 0, 1) := by decide +kernel
theorem dX7_forget_9 : decode cX7_forget 9 = .ok (.getfield 53, 3) := by decide +kernel
theorem dX7_forget_12 : decode cX7_forget 12 = .ok (.iconst 0, 1) := by decide +kernel
theorem dX7_forget_13 : decode cX7_forget 13 = .ok (.putfield 91, 3) := by decide +kernel
theorem dX7_forget_16 : decode cX7_forget 16 = .ok (.iload_n 1, 1) := by decide +kernel
theorem dX7_forget_17 : decode cX7_forget 17 = .ok (.ireturn, 1) := by decide +kernel
set_option maxRecDepth 20000 in
theorem ggX7_who_X1_whoFits : GoodIn wsX7_who wsX1_whoFits := goodIn_r _ [7, 8, 9, 10, 11, 12, 6, 13, 14, 15, 16, 17, 18, 19, 20, 21, 22, 23, 24, 25, 26, 27, 28, 29, 30, 31, 32, 33, 34, 35, 36, 46, 47, 48, 49, 50, 51, 52, 53, 54, 55, 56, 57, 58, 59, 60] (by decide +kernel) (by decide +kernel)
set_option maxRecDepth 20000 in
theorem gX7_who_X1_whoFits : GoodIn wsX7_who (wsV RX7 179 RX1 yX1_whoFits wsX1_whoFits) := goodIn_app (goodIn_of _ (by decide +kernel)) ggX7_who_X1_whoFits
theorem dX7_who_0 : decode cX7_who 0 = .ok (.aload_n 0, 1) := by decide +kernel
theorem dX7_who_1 : decode cX7_who 1 = .ok (.getfield 53, 3) := by decide +kernel
theorem dX7_who_4 : decode cX7_who 4 = .ok (.aload_n 0, 1) := by decide +kernel
theorem dX7_who_5 : decode cX7_who 5 = .ok (.getfield 26, 3) := by decide +kernel
theorem dX7_who_8 : decode cX7_who 8 = .ok (.invokevirtual 179, 3) := by decide +kernel
theorem dX7_who_11 : decode cX7_who 11 = .ok (.ireturn, 1) := by decide +kernel
set_option maxRecDepth 20000 in
theorem ggX7_listen_X1_whoFits : GoodIn wsX7_listen wsX1_whoFits := goodIn_r _ [7, 8, 9, 10, 11, 12, 6, 13, 14, 15, 16, 17, 18, 19, 20, 21, 22, 23, 24, 25, 26, 27, 28, 29, 30, 31, 32, 33, 34, 35, 36, 58, 59, 60, 61, 62, 63, 64, 65, 66, 67, 68, 69, 70, 71, 72] (by decide +kernel) (by decide +kernel)
set_option maxRecDepth 20000 in
theorem gX7_listen_X1_whoFits : GoodIn wsX7_listen (wsV RX7 179 RX1 yX1_whoFits wsX1_whoFits) := goodIn_app (goodIn_of _ (by decide +kernel)) ggX7_listen_X1_whoFits
set_option maxRecDepth 20000 in
theorem ggX7_listen_J6_bitCount_0f7a4 : GoodIn wsX7_listen wsJ6_bitCount_0f7a4 := goodIn_r _ [40, 41, 42, 43] (by decide +kernel) (by decide +kernel)
set_option maxRecDepth 20000 in
theorem gX7_listen_J6_bitCount_0f7a4 : GoodIn wsX7_listen (va_wsS RX7 183 yJ6_bitCount_0f7a4 wsJ6_bitCount_0f7a4) := goodIn_app (goodIn_of _ (by decide +kernel)) ggX7_listen_J6_bitCount_0f7a4
set_option maxRecDepth 20000 in
theorem ggX7_listen_X3_mostOfOneSound : GoodIn wsX7_listen wsX3_mostOfOneSound := goodIn_r _ [47, 25, 32, 33, 34, 35, 36, 48, 18, 19, 20, 21, 22, 23, 24, 26, 27, 28, 29, 30, 31, 58, 59, 60, 61, 62, 63, 64, 65, 66, 67, 68, 69] (by decide +kernel) (by decide +kernel)
set_option maxRecDepth 20000 in
theorem gX7_listen_X3_mostOfOneSound : GoodIn wsX7_listen (wsV RX7 188 RX3 yX3_mostOfOneSound wsX3_mostOfOneSound) := goodIn_app (goodIn_of _ (by decide +kernel)) ggX7_listen_X3_mostOfOneSound
theorem dX7_listen_0 : decode cX7_listen 0 = .ok (.aload_n 0, 1) := by decide +kernel
theorem dX7_listen_1 : decode cX7_listen 1 = .ok (.getfield 53, 3) := by decide +kernel
theorem dX7_listen_4 : decode cX7_listen 4 = .ok (.aload_n 0, 1) := by decide +kernel
theorem dX7_listen_5 : decode cX7_listen 5 = .ok (.getfield 26, 3) := by decide +kernel
theorem dX7_listen_8 : decode cX7_listen 8 = .ok (.invokevirtual 179, 3) := by decide +kernel
theorem dX7_listen_11 : decode cX7_listen 11 = .ok (.istore_n 1, 1) := by decide +kernel
theorem dX7_listen_12 : decode cX7_listen 12 = .ok (.iload_n 1, 1) := by decide +kernel
theorem dX7_listen_13 : decode cX7_listen 13 = .ok (.invokestatic 183, 3) := by decide +kernel
theorem dX7_listen_16 : decode cX7_listen 16 = .ok (.iconst 1, 1) := by decide +kernel
theorem dX7_listen_17 : decode cX7_listen 17 = .ok (.if_icmp .gt 6, 3) := by decide +kernel
theorem dX7_listen_20 : decode cX7_listen 20 = .ok (.bipush (-9), 2) := by decide +kernel
theorem dX7_listen_22 : decode cX7_listen 22 = .ok (.ireturn, 1) := by decide +kernel
theorem dX7_listen_23 : decode cX7_listen 23 = .ok (.iconst 0, 1) := by decide +kernel
theorem dX7_listen_24 : decode cX7_listen 24 = .ok (.istore_n 2, 1) := by decide +kernel
theorem dX7_listen_25 : decode cX7_listen 25 = .ok (.aload_n 0, 1) := by decide +kernel
theorem dX7_listen_26 : decode cX7_listen 26 = .ok (.getfield 26, 3) := by decide +kernel
theorem dX7_listen_29 : decode cX7_listen 29 = .ok (.iload_n 1, 1) := by decide +kernel
theorem dX7_listen_30 : decode cX7_listen 30 = .ok (.iconst 0, 1) := by decide +kernel
theorem dX7_listen_31 : decode cX7_listen 31 = .ok (.invokevirtual 188, 3) := by decide +kernel
end
section
theorem dX7_listen_34 : decode cX7_listen 34 = .ok (.istore_n 3, 1) := by decide +kernel
theorem dX7_listen_35 : decode cX7_listen 35 = .ok (.iconst 1, 1) := by decide +kernel
theorem dX7_listen_36 : decode cX7_listen 36 = .ok (.istore 4, 2) := by decide +kernel
theorem dX7_listen_38 : decode cX7_listen 38 = .ok (.iload 4, 2) := by decide +kernel
theorem dX7_listen_40 : decode cX7_listen 40 = .ok (.bipush 9, 2) := by decide +kernel
theorem dX7_listen_42 : decode cX7_listen 42 = .ok (.if_icmp .gt 33, 3) := by decide +kernel
theorem dX7_listen_45 : decode cX7_listen 45 = .ok (.aload_n 0, 1) := by decide +kernel
theorem dX7_listen_46 : decode cX7_listen 46 = .ok (.getfield 26, 3) := by decide +kernel
theorem dX7_listen_49 : decode cX7_listen 49 = .ok (.iload_n 1, 1) := by decide +kernel
theorem dX7_listen_50 : decode cX7_listen 50 = .ok (.iload 4, 2) := by decide +kernel
theorem dX7_listen_52 : decode cX7_listen 52 = .ok (.invokevirtual 188, 3) := by decide +kernel
theorem dX7_listen_55 : decode cX7_listen 55 = .ok (.istore 5, 2) := by decide +kernel
theorem dX7_listen_57 : decode cX7_listen 57 = .ok (.iload 5, 2) := by decide +kernel
theorem dX7_listen_59 : decode cX7_listen 59 = .ok (.iload_n 3, 1) := by decide +kernel
theorem dX7_listen_60 : decode cX7_listen 60 = .ok (.if_icmp .ge 9, 3) := by decide +kernel
theorem dX7_listen_63 : decode cX7_listen 63 = .ok (.iload 5, 2) := by decide +kernel
theorem dX7_listen_65 : decode cX7_listen 65 = .ok (.istore_n 3, 1) := by decide +kernel
theorem dX7_listen_66 : decode cX7_listen 66 = .ok (.iload 4, 2) := by decide +kernel
theorem dX7_listen_68 : decode cX7_listen 68 = .ok (.istore_n 2, 1) := by decide +kernel
theorem dX7_listen_69 : decode cX7_listen 69 = .ok (.iinc 4 1, 3) := by decide +kernel
theorem dX7_listen_72 : decode cX7_listen 72 = .ok (.goto (-34), 3) := by decide +kernel
theorem dX7_listen_75 : decode cX7_listen 75 = .ok (.iload_n 2, 1) := by decide +kernel
theorem dX7_listen_76 : decode cX7_listen 76 = .ok (.ireturn, 1) := by decide +kernel
set_option maxRecDepth 20000 in
theorem ggX7_rate_X3_has : GoodIn wsX7_rate wsX3_has := goodIn_r _ [7, 8, 9, 55, 56, 57, 58, 59, 60, 61, 62, 63, 64, 65, 66] (by decide +kernel) (by decide +kernel)
set_option maxRecDepth 20000 in
theorem gX7_rate_X3_has : GoodIn wsX7_rate (wsV RX7 94 RX3 yX3_has wsX3_has) := goodIn_app (goodIn_of _ (by decide +kernel)) ggX7_rate_X3_has
set_option maxRecDepth 20000 in
theorem ggX7_rate_X7_asBottle : GoodIn wsX7_rate wsX7_asBottle := goodIn_r _ [14, 15, 1, 16, 46, 47, 48, 49, 50, 51, 52, 53, 54, 55, 56, 57, 58, 59, 60] (by decide +kernel) (by decide +kernel)
set_option maxRecDepth 20000 in
theorem gX7_rate_X7_asBottle : GoodIn wsX7_rate (wsV RX7 192 RX7 yX7_asBottle wsX7_asBottle) := goodIn_app (goodIn_of _ (by decide +kernel)) ggX7_rate_X7_asBottle
set_option maxRecDepth 20000 in
theorem ggX7_rate_X7_asBosun : GoodIn wsX7_rate wsX7_asBosun := goodIn_r _ [20, 15, 21, 1, 22, 23, 10, 11, 12, 13, 14, 16, 46, 47, 48, 49, 50, 51, 52, 53, 54, 55, 56, 57, 58, 59, 60, 61, 62, 63, 64, 65, 66] (by decide +kernel) (by decide +kernel)
set_option maxRecDepth 20000 in
theorem gX7_rate_X7_asBosun : GoodIn wsX7_rate (wsV RX7 195 RX7 yX7_asBosun wsX7_asBosun) := goodIn_app (goodIn_of _ (by decide +kernel)) ggX7_rate_X7_asBosun
set_option maxRecDepth 20000 in
theorem ggX7_rate_X7_asCook : GoodIn wsX7_rate wsX7_asCook := goodIn_r _ [27, 15, 28, 1, 22, 29, 10, 11, 12, 13, 14, 16, 46, 47, 48, 49, 50, 51, 52, 53, 54, 55, 56, 57, 58, 59, 60, 61, 62, 63, 64, 65, 66] (by decide +kernel) (by decide +kernel)
set_option maxRecDepth 20000 in
theorem gX7_rate_X7_asCook : GoodIn wsX7_rate (wsV RX7 198 RX7 yX7_asCook wsX7_asCook) := goodIn_app (goodIn_of _ (by decide +kernel)) ggX7_rate_X7_asCook
set_option maxRecDepth 20000 in
theorem ggX7_rate_X7_asMate : GoodIn wsX7_rate wsX7_asMate := goodIn_r _ [33, 15, 34, 17, 18, 19, 13, 20, 21, 1, 22, 23, 10, 11, 12, 14, 16, 46, 47, 48, 49, 50, 51, 52, 53, 54, 55, 56, 57, 58, 59, 60, 61, 62, 63, 64, 65, 66] (by decide +kernel) (by decide +kernel)
set_option maxRecDepth 20000 in
theorem gX7_rate_X7_asMate : GoodIn wsX7_rate (wsV RX7 201 RX7 yX7_asMate wsX7_asMate) := goodIn_app (goodIn_of _ (by decide +kernel)) ggX7_rate_X7_asMate
set_option maxRecDepth 20000 in
theorem ggX7_rate_X7_asStoker : GoodIn wsX7_rate wsX7_asStoker := goodIn_r _ [38, 15, 39, 24, 25, 26, 13, 27, 28, 1, 22, 29, 10, 11, 12, 14, 16, 46, 47, 48, 49, 50, 51, 52, 53, 54, 55, 56, 57, 58, 59, 60, 61, 62, 63, 64, 65, 66] (by decide +kernel) (by decide +kernel)
set_option maxRecDepth 20000 in
theorem gX7_rate_X7_asStoker : GoodIn wsX7_rate (wsV RX7 204 RX7 yX7_asStoker wsX7_asStoker) := goodIn_app (goodIn_of _ (by decide +kernel)) ggX7_rate_X7_asStoker
set_option maxRecDepth 20000 in
theorem ggX7_rate_X7_asMatron : GoodIn wsX7_rate wsX7_asMatron := goodIn_r _ [43, 15, 44, 1, 45, 10, 11, 12, 13, 14, 16, 46, 47, 48, 49, 50, 51, 52, 53, 54, 55, 56, 57, 58, 59, 60] (by decide +kernel) (by decide +kernel)
set_option maxRecDepth 20000 in
theorem gX7_rate_X7_asMatron : GoodIn wsX7_rate (wsV RX7 207 RX7 yX7_asMatron wsX7_asMatron) := goodIn_app (goodIn_of _ (by decide +kernel)) ggX7_rate_X7_asMatron
theorem dX7_rate_0 : decode cX7_rate 0 = .ok (.aload_n 0, 1) := by decide +kernel
theorem dX7_rate_1 : decode cX7_rate 1 = .ok (.getfield 26, 3) := by decide +kernel
theorem dX7_rate_4 : decode cX7_rate 4 = .ok (.iload_n 2, 1) := by decide +kernel
theorem dX7_rate_5 : decode cX7_rate 5 = .ok (.invokevirtual 94, 3) := by decide +kernel
theorem dX7_rate_8 : decode cX7_rate 8 = .ok (.ifCond .ne 6, 3) := by decide +kernel
theorem dX7_rate_11 : decode cX7_rate 11 = .ok (.ldc 191, 2) := by decide +kernel
theorem dX7_rate_13 : decode cX7_rate 13 = .ok (.ireturn, 1) := by decide +kernel
theorem dX7_rate_14 : decode cX7_rate 14 = .ok (.iload_n 1, 1) := by decide +kernel
theorem dX7_rate_15 : decode cX7_rate 15 = .ok (.tableswitch 73 0 5 #[37, 43, 49, 55, 61, 67], 37) := by decide +kernel
theorem dX7_rate_52 : decode cX7_rate 52 = .ok (.aload_n 0, 1) := by decide +kernel
theorem dX7_rate_53 : decode cX7_rate 53 = .ok (.iload_n 2, 1) := by decide +kernel
theorem dX7_rate_54 : decode cX7_rate 54 = .ok (.invokevirtual 192, 3) := by decide +kernel
theorem dX7_rate_57 : decode cX7_rate 57 = .ok (.ireturn, 1) := by decide +kernel
theorem dX7_rate_58 : decode cX7_rate 58 = .ok (.aload_n 0, 1) := by decide +kernel
theorem dX7_rate_59 : decode cX7_rate 59 = .ok (.iload_n 2, 1) := by decide +kernel
theorem dX7_rate_60 : decode cX7_rate 60 = .ok (.invokevirtual 195, 3) := by decide +kernel
theorem dX7_rate_63 : decode cX7_rate 63 = .ok (.ireturn, 1) := by decide +kernel
theorem dX7_rate_64 : decode cX7_rate 64 = .ok (.aload_n 0, 1) := by decide +kernel
theorem dX7_rate_65 : decode cX7_rate 65 = .ok (.iload_n 2, 1) := by decide +kernel
theorem dX7_rate_66 : decode cX7_rate 66 = .ok (.invokevirtual 198, 3) := by decide +kernel
theorem dX7_rate_69 : decode cX7_rate 69 = .ok (.ireturn, 1) := by decide +kernel
theorem dX7_rate_70 : decode cX7_rate 70 = .ok (.aload_n 0, 1) := by decide +kernel
theorem dX7_rate_71 : decode cX7_rate 71 = .ok (.iload_n 2, 1) := by decide +kernel
theorem dX7_rate_72 : decode cX7_rate 72 = .ok (.invokevirtual 201, 3) := by decide +kernel
theorem dX7_rate_75 : decode cX7_rate 75 = .ok (.ireturn, 1) := by decide +kernel
theorem dX7_rate_76 : decode cX7_rate 76 = .ok (.aload_n 0, 1) := by decide +kernel
theorem dX7_rate_77 : decode cX7_rate 77 = .ok (.iload_n 2, 1) := by decide +kernel
theorem dX7_rate_78 : decode cX7_rate 78 = .ok (.invokevirtual 204, 3) := by decide +kernel
theorem dX7_rate_81 : decode cX7_rate 81 = .ok (.ireturn, 1) := by decide +kernel
theorem dX7_rate_82 : decode cX7_rate 82 = .ok (.aload_n 0, 1) := by decide +kernel
theorem dX7_rate_83 : decode cX7_rate 83 = .ok (.iload_n 2, 1) := by decide +kernel
theorem dX7_rate_84 : decode cX7_rate 84 = .ok (.invokevirtual 207, 3) := by decide +kernel
theorem dX7_rate_87 : decode cX7_rate 87 = .ok (.ireturn, 1) := by decide +kernel
theorem dX7_rate_88 : decode cX7_rate 88 = .ok (.ldc 191, 2) := by decide +kernel
theorem dX7_rate_90 : decode cX7_rate 90 = .ok (.ireturn, 1) := by decide +kernel
theorem dX7_asBottle_0 : decode cX7_asBottle 0 = .ok (.aload_n 0, 1) := by decide +kernel
theorem dX7_asBottle_1 : decode cX7_asBottle 1 = .ok (.dup, 1) := by decide +kernel
theorem dX7_asBottle_2 : decode cX7_asBottle 2 = .ok (.getfield 210, 3) := by decide +kernel
theorem dX7_asBottle_5 : decode cX7_asBottle 5 = .ok (.lconst 1, 1) := by decide +kernel
theorem dX7_asBottle_6 : decode cX7_asBottle 6 = .ok (.ladd, 1) := by decide +kernel
theorem dX7_asBottle_7 : decode cX7_asBottle 7 = .ok (.putfield 210, 3) := by decide +kernel
theorem dX7_asBottle_10 : decode cX7_asBottle 10 = .ok (.aload_n 0, 1) := by decide +kernel
theorem dX7_asBottle_11 : decode cX7_asBottle 11 = .ok (.getfield 26, 3) := by decide +kernel
theorem dX7_asBottle_14 : decode cX7_asBottle 14 = .ok (.getfield 98, 3) := by decide +kernel
theorem dX7_asBottle_17 : decode cX7_asBottle 17 = .ok (.iload_n 1, 1) := by decide +kernel
theorem dX7_asBottle_18 : decode cX7_asBottle 18 = .ok (.iaload, 1) := by decide +kernel
theorem dX7_asBottle_19 : decode cX7_asBottle 19 = .ok (.ireturn, 1) := by decide +kernel
set_option maxRecDepth 20000 in
theorem ggX7_asBosun_X7_asBottle : GoodIn wsX7_asBosun wsX7_asBottle := goodIn_r _ [10, 1, 3, 11, 12, 13, 14, 15, 16, 17, 18, 19, 20, 21, 22, 23, 24, 25, 26] (by decide +kernel) (by decide +kernel)
set_option maxRecDepth 20000 in
theorem gX7_asBosun_X7_asBottle : GoodIn wsX7_asBosun (wsV RX7 192 RX7 yX7_asBottle wsX7_asBottle) := goodIn_app (goodIn_of _ (by decide +kernel)) ggX7_asBosun_X7_asBottle
theorem dX7_asBosun_0 : decode cX7_asBosun 0 = .ok (.aload_n 0, 1) := by decide +kernel
theorem dX7_asBosun_1 : decode cX7_asBosun 1 = .ok (.dup, 1) := by decide +kernel
theorem dX7_asBosun_2 : decode cX7_asBosun 2 = .ok (.getfield 210, 3) := by decide +kernel
theorem dX7_asBosun_5 : decode cX7_asBosun 5 = .ok (.ldc2_w 214, 3) := by decide +kernel
theorem dX7_asBosun_8 : decode cX7_asBosun 8 = .ok (.ladd, 1) := by decide +kernel
theorem dX7_asBosun_9 : decode cX7_asBosun 9 = .ok (.putfield 210, 3) := by decide +kernel
theorem dX7_asBosun_12 : decode cX7_asBosun 12 = .ok (.aload_n 0, 1) := by decide +kernel
theorem dX7_asBosun_13 : decode cX7_asBosun 13 = .ok (.iload_n 1, 1) := by decide +kernel
theorem dX7_asBosun_14 : decode cX7_asBosun 14 = .ok (.invokevirtual 192, 3) := by decide +kernel
theorem dX7_asBosun_17 : decode cX7_asBosun 17 = .ok (.aload_n 0, 1) := by decide +kernel
theorem dX7_asBosun_18 : decode cX7_asBosun 18 = .ok (.getfield 26, 3) := by decide +kernel
theorem dX7_asBosun_21 : decode cX7_asBosun 21 = .ok (.getfield 78, 3) := by decide +kernel
theorem dX7_asBosun_24 : decode cX7_asBosun 24 = .ok (.getfield 105, 3) := by decide +kernel
theorem dX7_asBosun_27 : decode cX7_asBosun 27 = .ok (.iload_n 1, 1) := by decide +kernel
theorem dX7_asBosun_28 : decode cX7_asBosun 28 = .ok (.iaload, 1) := by decide +kernel
theorem dX7_asBosun_29 : decode cX7_asBosun 29 = .ok (.iadd, 1) := by decide +kernel
theorem dX7_asBosun_30 : decode cX7_asBosun 30 = .ok (.ireturn, 1) := by decide +kernel
set_option maxRecDepth 20000 in
theorem ggX7_asCook_X7_asBottle : GoodIn wsX7_asCook wsX7_asBottle := goodIn_r _ [10, 1, 3, 11, 12, 13, 14, 15, 16, 17, 18, 19, 20, 21, 22, 23, 24, 25, 26] (by decide +kernel) (by decide +kernel)
set_option maxRecDepth 20000 in
theorem gX7_asCook_X7_asBottle : GoodIn wsX7_asCook (wsV RX7 192 RX7 yX7_asBottle wsX7_asBottle) := goodIn_app (goodIn_of _ (by decide +kernel)) ggX7_asCook_X7_asBottle
theorem dX7_asCook_0 : decode cX7_asCook 0 = .ok (.aload_n 0, 1) := by decide +kernel
theorem dX7_asCook_1 : decode cX7_asCook 1 = .ok (.dup, 1) := by decide +kernel
theorem dX7_asCook_2 : decode cX7_asCook 2 = .ok (.getfield 210, 3) := by decide +kernel
theorem dX7_asCook_5 : decode cX7_asCook 5 = .ok (.ldc2_w 216, 3) := by decide +kernel
theorem dX7_asCook_8 : decode cX7_asCook 8 = .ok (.ladd, 1) := by decide +kernel
theorem dX7_asCook_9 : decode cX7_asCook 9 = .ok (.putfield 210, 3) := by decide +kernel
theorem dX7_asCook_12 : decode cX7_asCook 12 = .ok (.aload_n 0, 1) := by decide +kernel
theorem dX7_asCook_13 : decode cX7_asCook 13 = .ok (.iload_n 1, 1) := by decide +kernel
theorem dX7_asCook_14 : decode cX7_asCook 14 = .ok (.invokevirtual 192, 3) := by decide +kernel
theorem dX7_asCook_17 : decode cX7_asCook 17 = .ok (.aload_n 0, 1) := by decide +kernel
theorem dX7_asCook_18 : decode cX7_asCook 18 = .ok (.getfield 26, 3) := by decide +kernel
theorem dX7_asCook_21 : decode cX7_asCook 21 = .ok (.getfield 78, 3) := by decide +kernel
theorem dX7_asCook_24 : decode cX7_asCook 24 = .ok (.getfield 102, 3) := by decide +kernel
theorem dX7_asCook_27 : decode cX7_asCook 27 = .ok (.iload_n 1, 1) := by decide +kernel
theorem dX7_asCook_28 : decode cX7_asCook 28 = .ok (.iaload, 1) := by decide +kernel
theorem dX7_asCook_29 : decode cX7_asCook 29 = .ok (.isub, 1) := by decide +kernel
theorem dX7_asCook_30 : decode cX7_asCook 30 = .ok (.ireturn, 1) := by decide +kernel
set_option maxRecDepth 20000 in
theorem ggX7_asMate_X7_asBosun : GoodIn wsX7_asMate wsX7_asBosun := goodIn_r _ [7, 1, 8, 9, 10, 11, 12, 13, 14, 6, 15, 16, 17, 18, 19, 20, 21, 22, 23, 24, 25, 26, 27, 28, 29, 30, 31, 32, 33, 34, 35, 36, 37] (by decide +kernel) (by decide +kernel)
set_option maxRecDepth 20000 in
theorem gX7_asMate_X7_asBosun : GoodIn wsX7_asMate (wsV RX7 195 RX7 yX7_asBosun wsX7_asBosun) := goodIn_app (goodIn_of _ (by decide +kernel)) ggX7_asMate_X7_asBosun
theorem dX7_asMate_0 : decode cX7_asMate 0 = .ok (.aload_n 0, 1) := by decide +kernel
theorem dX7_asMate_1 : decode cX7_asMate 1 = .ok (.dup, 1) := by decide +kernel
theorem dX7_asMate_2 : decode cX7_asMate 2 = .ok (.getfield 210, 3) := by decide +kernel
theorem dX7_asMate_5 : decode cX7_asMate 5 = .ok (.ldc2_w 218, 3) := by decide +kernel
theorem dX7_asMate_8 : decode cX7_asMate 8 = .ok (.ladd, 1) := by decide +kernel
theorem dX7_asMate_9 : decode cX7_asMate 9 = .ok (.putfield 210, 3) := by decide +kernel
theorem dX7_asMate_12 : decode cX7_asMate 12 = .ok (.iconst 2, 1) := by decide +kernel
theorem dX7_asMate_13 : decode cX7_asMate 13 = .ok (.aload_n 0, 1) := by decide +kernel
theorem dX7_asMate_14 : decode cX7_asMate 14 = .ok (.iload_n 1, 1) := by decide +kernel
theorem dX7_asMate_15 : decode cX7_asMate 15 = .ok (.invokevirtual 195, 3) := by decide +kernel
theorem dX7_asMate_18 : decode cX7_asMate 18 = .ok (.imul, 1) := by decide +kernel
theorem dX7_asMate_19 : decode cX7_asMate 19 = .ok (.ireturn, 1) := by decide +kernel
set_option maxRecDepth 20000 in
theorem ggX7_asStoker_X7_asCook : GoodIn wsX7_asStoker wsX7_asCook := goodIn_r _ [7, 1, 8, 9, 10, 11, 12, 13, 14, 6, 15, 16, 17, 18, 19, 20, 21, 22, 23, 24, 25, 26, 27, 28, 29, 30, 31, 32, 33, 34, 35, 36, 37] (by decide +kernel) (by decide +kernel)
set_option maxRecDepth 20000 in
theorem gX7_asStoker_X7_asCook : GoodIn wsX7_asStoker (wsV RX7 198 RX7 yX7_asCook wsX7_asCook) := goodIn_app (goodIn_of _ (by decide +kernel)) ggX7_asStoker_X7_asCook
theorem dX7_asStoker_0 : decode cX7_asStoker 0 = .ok (.aload_n 0, 1) := by decide +kernel
theorem dX7_asStoker_1 : decode cX7_asStoker 1 = .ok (.dup, 1) := by decide +kernel
theorem dX7_asStoker_2 : decode cX7_asStoker 2 = .ok (.getfield 210, 3) := by decide +kernel
theorem dX7_asStoker_5 : decode cX7_asStoker 5 = .ok (.ldc2_w 220, 3) := by decide +kernel
theorem dX7_asStoker_8 : decode cX7_asStoker 8 = .ok (.ladd, 1) := by decide +kernel
theorem dX7_asStoker_9 : decode cX7_asStoker 9 = .ok (.putfield 210, 3) := by decide +kernel
theorem dX7_asStoker_12 : decode cX7_asStoker 12 = .ok (.aload_n 0, 1) := by decide +kernel
theorem dX7_asStoker_13 : decode cX7_asStoker 13 = .ok (.iload_n 1, 1) := by decide +kernel
theorem dX7_asStoker_14 : decode cX7_asStoker 14 = .ok (.invokevirtual 198, 3) := by decide +kernel
theorem dX7_asStoker_17 : decode cX7_asStoker 17 = .ok (.iload_n 1, 1) := by decide +kernel
theorem dX7_asStoker_18 : decode cX7_asStoker 18 = .ok (.iadd, 1) := by decide +kernel
theorem dX7_asStoker_19 : decode cX7_asStoker 19 = .ok (.ireturn, 1) := by decide +kernel
set_option maxRecDepth 20000 in
theorem ggX7_asMatron_X7_asBottle : GoodIn wsX7_asMatron wsX7_asBottle := goodIn_r _ [9, 1, 3, 10, 11, 12, 13, 14, 15, 16, 17, 18, 19, 20, 21, 22, 23, 24, 25] (by decide +kernel) (by decide +kernel)
set_option maxRecDepth 20000 in
theorem gX7_asMatron_X7_asBottle : GoodIn wsX7_asMatron (wsV RX7 192 RX7 yX7_asBottle wsX7_asBottle) := goodIn_app (goodIn_of _ (by decide +kernel)) ggX7_asMatron_X7_asBottle
theorem dX7_asMatron_0 : decode cX7_asMatron 0 = .ok (.aload_n 0, 1) := by decide +kernel
theorem dX7_asMatron_1 : decode cX7_asMatron 1 = .ok (.dup, 1) := by decide +kernel
theorem dX7_asMatron_2 : decode cX7_asMatron 2 = .ok (.getfield 210, 3) := by decide +kernel
theorem dX7_asMatron_5 : decode cX7_asMatron 5 = .ok (.ldc2_w 222, 3) := by decide +kernel
theorem dX7_asMatron_8 : decode cX7_asMatron 8 = .ok (.ladd, 1) := by decide +kernel
theorem dX7_asMatron_9 : decode cX7_asMatron 9 = .ok (.putfield 210, 3) := by decide +kernel
theorem dX7_asMatron_12 : decode cX7_asMatron 12 = .ok (.aload_n 0, 1) := by decide +kernel
theorem dX7_asMatron_13 : decode cX7_asMatron 13 = .ok (.iload_n 1, 1) := by decide +kernel
theorem dX7_asMatron_14 : decode cX7_asMatron 14 = .ok (.invokevirtual 192, 3) := by decide +kernel
theorem dX7_asMatron_17 : decode cX7_asMatron 17 = .ok (.aload_n 0, 1) := by decide +kernel
theorem dX7_asMatron_18 : decode cX7_asMatron 18 = .ok (.getfield 26, 3) := by decide +kernel
theorem dX7_asMatron_21 : decode cX7_asMatron 21 = .ok (.getfield 125, 3) := by decide +kernel
theorem dX7_asMatron_24 : decode cX7_asMatron 24 = .ok (.iadd, 1) := by decide +kernel
theorem dX7_asMatron_25 : decode cX7_asMatron 25 = .ok (.ireturn, 1) := by decide +kernel
set_option maxRecDepth 20000 in
theorem ggX7_keep_X0_put : GoodIn wsX7_keep wsX0_put := goodIn_r _ [9, 10, 11, 12, 13, 14, 15, 16, 17, 18, 19, 20, 36, 37, 30, 31, 32, 33, 34, 35] (by decide +kernel) (by decide +kernel)
set_option maxRecDepth 20000 in
theorem gX7_keep_X0_put : GoodIn wsX7_keep (wsV RX7 224 RX0 yX0_put wsX0_put) := goodIn_app (goodIn_of _ (by decide +kernel)) ggX7_keep_X0_put
theorem dX7_keep_0 : decode cX7_keep 0 = .ok (.iload_n 1, 1) := by decide +kernel
theorem dX7_keep_1 : decode cX7_keep 1 = .ok (.ifCond .lt 12, 3) := by decide +kernel
theorem dX7_keep_4 : decode cX7_keep 4 = .ok (.iload_n 1, 1) := by decide +kernel
theorem dX7_keep_5 : decode cX7_keep 5 = .ok (.aload_n 0, 1) := by decide +kernel
theorem dX7_keep_6 : decode cX7_keep 6 = .ok (.getfield 46, 3) := by decide +kernel
theorem dX7_keep_9 : decode cX7_keep 9 = .ok (.arraylength, 1) := by decide +kernel
theorem dX7_keep_10 : decode cX7_keep 10 = .ok (.if_icmp .lt 5, 3) := by decide +kernel
theorem dX7_keep_13 : decode cX7_keep 13 = .ok (.iconst (-1), 1) := by decide +kernel
theorem dX7_keep_14 : decode cX7_keep 14 = .ok (.ireturn, 1) := by decide +kernel
theorem dX7_keep_15 : decode cX7_keep 15 = .ok (.aload_n 0, 1) := by decide +kernel
theorem dX7_keep_16 : decode cX7_keep 16 = .ok (.getfield 42, 3) := by decide +kernel
theorem dX7_keep_19 : decode cX7_keep 19 = .ok (.iload_n 1, 1) := by decide +kernel
theorem dX7_keep_20 : decode cX7_keep 20 = .ok (.aload_n 0, 1) := by decide +kernel
theorem dX7_keep_21 : decode cX7_keep 21 = .ok (.getfield 26, 3) := by decide +kernel
theorem dX7_keep_24 : decode cX7_keep 24 = .ok (.invokevirtual 224, 3) := by decide +kernel
theorem dX7_keep_27 : decode cX7_keep 27 = .ok (.aload_n 0, 1) := by decide +kernel
theorem dX7_keep_28 : decode cX7_keep 28 = .ok (.getfield 46, 3) := by decide +kernel
theorem dX7_keep_31 : decode cX7_keep 31 = .ok (.iload_n 1, 1) := by decide +kernel
theorem dX7_keep_32 : decode cX7_keep 32 = .ok (.iconst 1, 1) := by decide +kernel
theorem dX7_keep_33 : decode cX7_keep 33 = .ok (.bastore, 1) := by decide +kernel
theorem dX7_keep_34 : decode cX7_keep 34 = .ok (.aload_n 0, 1) := by decide +kernel
theorem dX7_keep_35 : decode cX7_keep 35 = .ok (.getfield 26, 3) := by decide +kernel
theorem dX7_keep_38 : decode cX7_keep 38 = .ok (.getfield 119, 3) := by decide +kernel
theorem dX7_keep_41 : decode cX7_keep 41 = .ok (.ireturn, 1) := by decide +kernel
set_option maxRecDepth 20000 in
theorem ggX7_back_X0_take : GoodIn wsX7_back wsX0_take := goodIn_r _ [11, 12, 13, 14, 15, 16, 17, 18, 19, 20, 21, 22, 41, 42, 35, 36, 37, 38, 39, 40] (by decide +kernel) (by decide +kernel)
set_option maxRecDepth 20000 in
theorem gX7_back_X0_take : GoodIn wsX7_back (wsV RX7 228 RX0 yX0_take wsX0_take) := goodIn_app (goodIn_of _ (by decide +kernel)) ggX7_back_X0_take
theorem dX7_back_0 : decode cX7_back 0 = .ok (.iload_n 1, 1) := by decide +kernel
theorem dX7_back_1 : decode cX7_back 1 = .ok (.ifCond .lt 12, 3) := by decide +kernel
theorem dX7_back_4 : decode cX7_back 4 = .ok (.iload_n 1, 1) := by decide +kernel
theorem dX7_back_5 : decode cX7_back 5 = .ok (.aload_n 0, 1) := by decide +kernel
theorem dX7_back_6 : decode cX7_back 6 = .ok (.getfield 46, 3) := by decide +kernel
theorem dX7_back_9 : decode cX7_back 9 = .ok (.arraylength, 1) := by decide +kernel
theorem dX7_back_10 : decode cX7_back 10 = .ok (.if_icmp .lt 5, 3) := by decide +kernel
theorem dX7_back_13 : decode cX7_back 13 = .ok (.iconst (-1), 1) := by decide +kernel
theorem dX7_back_14 : decode cX7_back 14 = .ok (.ireturn, 1) := by decide +kernel
theorem dX7_back_15 : decode cX7_back 15 = .ok (.aload_n 0, 1) := by decide +kernel
theorem dX7_back_16 : decode cX7_back 16 = .ok (.getfield 46, 3) := by decide +kernel
theorem dX7_back_19 : decode cX7_back 19 = .ok (.iload_n 1, 1) := by decide +kernel
theorem dX7_back_20 : decode cX7_back 20 = .ok (.baload, 1) := by decide +kernel
theorem dX7_back_21 : decode cX7_back 21 = .ok (.ifCond .ne 6, 3) := by decide +kernel
theorem dX7_back_24 : decode cX7_back 24 = .ok (.bipush (-2), 2) := by decide +kernel
theorem dX7_back_26 : decode cX7_back 26 = .ok (.ireturn, 1) := by decide +kernel
theorem dX7_back_27 : decode cX7_back 27 = .ok (.aload_n 0, 1) := by decide +kernel
theorem dX7_back_28 : decode cX7_back 28 = .ok (.getfield 42, 3) := by decide +kernel
theorem dX7_back_31 : decode cX7_back 31 = .ok (.iload_n 1, 1) := by decide +kernel
theorem dX7_back_32 : decode cX7_back 32 = .ok (.aload_n 0, 1) := by decide +kernel
theorem dX7_back_33 : decode cX7_back 33 = .ok (.getfield 26, 3) := by decide +kernel
theorem dX7_back_36 : decode cX7_back 36 = .ok (.invokevirtual 228, 3) := by decide +kernel
theorem dX7_back_39 : decode cX7_back 39 = .ok (.aload_n 0, 1) := by decide +kernel
theorem dX7_back_40 : decode cX7_back 40 = .ok (.getfield 33, 3) := by decide +kernel
theorem dX7_back_43 : decode cX7_back 43 = .ok (.iconst 0, 1) := by decide +kernel
theorem dX7_back_44 : decode cX7_back 44 = .ok (.putfield 88, 3) := by decide +kernel
theorem dX7_back_47 : decode cX7_back 47 = .ok (.aload_n 0, 1) := by decide +kernel
theorem dX7_back_48 : decode cX7_back 48 = .ok (.getfield 26, 3) := by decide +kernel
theorem dX7_back_51 : decode cX7_back 51 = .ok (.getfield 119, 3) := by decide +kernel
theorem dX7_back_54 : decode cX7_back 54 = .ok (.ireturn, 1) := by decide +kernel
theorem dX7_count_0 : decode cX7_count 0 = .ok (.iload_n 1, 1) := by decide +kernel
theorem dX7_count_1 : decode cX7_count 1 = .ok (.tableswitch 84 0 4 #[35, 46, 57, 68, 76], 35) := by decide +kernel
theorem dX7_count_36 : decode cX7_count 36 = .ok (.aload_n 0, 1) := by decide +kernel
theorem dX7_count_37 : decode cX7_count 37 = .ok (.getfield 26, 3) := by decide +kernel
theorem dX7_count_40 : decode cX7_count 40 = .ok (.getfield 78, 3) := by decide +kernel
theorem dX7_count_43 : decode cX7_count 43 = .ok (.getfield 128, 3) := by decide +kernel
theorem dX7_count_46 : decode cX7_count 46 = .ok (.ireturn, 1) := by decide +kernel
theorem dX7_count_47 : decode cX7_count 47 = .ok (.aload_n 0, 1) := by decide +kernel
theorem dX7_count_48 : decode cX7_count 48 = .ok (.getfield 26, 3) := by decide +kernel
theorem dX7_count_51 : decode cX7_count 51 = .ok (.getfield 78, 3) := by decide +kernel
theorem dX7_count_54 : decode cX7_count 54 = .ok (.getfield 148, 3) := by decide +kernel
theorem dX7_count_57 : decode cX7_count 57 = .ok (.ireturn, 1) := by decide +kernel
theorem dX7_count_58 : decode cX7_count 58 = .ok (.aload_n 0, 1) := by decide +kernel
theorem dX7_count_59 : decode cX7_count 59 = .ok (.getfield 26, 3) := by decide +kernel
theorem dX7_count_62 : decode cX7_count 62 = .ok (.getfield 78, 3) := by decide +kernel
theorem dX7_count_65 : decode cX7_count 65 = .ok (.getfield 231, 3) := by decide +kernel
theorem dX7_count_68 : decode cX7_count 68 = .ok (.ireturn, 1) := by decide +kernel
theorem dX7_count_69 : decode cX7_count 69 = .ok (.aload_n 0, 1) := by decide +kernel
theorem dX7_count_70 : decode cX7_count 70 = .ok (.getfield 53, 3) := by decide +kernel
theorem dX7_count_73 : decode cX7_count 73 = .ok (.getfield 91, 3) := by decide +kernel
theorem dX7_count_76 : decode cX7_count 76 = .ok (.ireturn, 1) := by decide +kernel
theorem dX7_count_77 : decode cX7_count 77 = .ok (.aload_n 0, 1) := by decide +kernel
theorem dX7_count_78 : decode cX7_count 78 = .ok (.getfield 10, 3) := by decide +kernel
theorem dX7_count_81 : decode cX7_count 81 = .ok (.getfield 66, 3) := by decide +kernel
theorem dX7_count_84 : decode cX7_count 84 = .ok (.ireturn, 1) := by decide +kernel
theorem dX7_count_85 : decode cX7_count 85 = .ok (.iconst (-1), 1) := by decide +kernel
theorem dX7_count_86 : decode cX7_count 86 = .ok (.ireturn, 1) := by decide +kernel
theorem dX7_trace_0 : decode cX7_trace 0 = .ok (.aload_n 0, 1) := by decide +kernel
theorem dX7_trace_1 : decode cX7_trace 1 = .ok (.getfield 210, 3) := by decide +kernel
theorem dX7_trace_4 : decode cX7_trace 4 = .ok (.lreturn, 1) := by decide +kernel
set_option maxRecDepth 20000 in
theorem ggX8_init_X8_reads : GoodIn wsX8_init wsX8_reads := goodIn_r _ [21, 7, 22, 23, 24, 25, 26, 20, 27, 28, 29, 5, 30, 31, 32, 33, 34, 35, 36, 37, 38, 39, 40, 41, 42, 43, 44, 45, 46, 47, 48, 49, 50, 51, 52, 59, 60, 61, 62, 63, 64, 65, 66, 67, 68, 69, 70, 71, 72, 73, 74, 75, 76, 77] (by decide +kernel) (by decide +kernel)
set_option maxRecDepth 20000 in
theorem gX8_init_X8_reads : GoodIn wsX8_init (wsV RX8 44 RX8 yX8_reads wsX8_reads) := goodIn_app (goodIn_of _ (by decide +kernel)) ggX8_init_X8_reads
set_option maxRecDepth 20000 in
theorem ggX8_init_X8_begins : GoodIn wsX8_init wsX8_begins := goodIn_r _ [56, 6, 7, 8, 57, 58, 12, 59, 60, 61, 62, 63, 64, 65, 66, 67, 68, 69, 70, 71, 72, 73, 74, 75, 76, 77] (by decide +kernel) (by decide +kernel)
set_option maxRecDepth 20000 in
theorem gX8_init_X8_begins : GoodIn wsX8_init (wsV RX8 48 RX8 yX8_begins wsX8_begins) := goodIn_app (goodIn_of _ (by decide +kernel)) ggX8_init_X8_begins
theorem dX8_init_0 : decode cX8_init 0 = .ok (.aload_n 0, 1) := by decide +kernel
theorem dX8_init_1 : decode cX8_init 1 = .ok (.invokespecial 1, 3) := by decide +kernel
theorem dX8_init_4 : decode cX8_init 4 = .ok (.aload_n 0, 1) := by decide +kernel
theorem dX8_init_5 : decode cX8_init 5 = .ok (.bipush 120, 2) := by decide +kernel
theorem dX8_init_7 : decode cX8_init 7 = .ok (.newarray .int, 2) := by decide +kernel
theorem dX8_init_9 : decode cX8_init 9 = .ok (.putfield 7, 3) := by decide +kernel
theorem dX8_init_12 : decode cX8_init 12 = .ok (.aload_n 0, 1) := by decide +kernel
theorem dX8_init_13 : decode cX8_init 13 = .ok (.bipush 23, 2) := by decide +kernel
theorem dX8_init_15 : decode cX8_init 15 = .ok (.newarray .int, 2) := by decide +kernel
theorem dX8_init_17 : decode cX8_init 17 = .ok (.putfield 13, 3) := by decide +kernel
theorem dX8_init_20 : decode cX8_init 20 = .ok (.aload_n 0, 1) := by decide +kernel
theorem dX8_init_21 : decode cX8_init 21 = .ok (.bipush 23, 2) := by decide +kernel
theorem dX8_init_23 : decode cX8_init 23 = .ok (.newarray .int, 2) := by decide +kernel
theorem dX8_init_25 : decode cX8_init 25 = .ok (.putfield 16, 3) := by decide +kernel
theorem dX8_init_28 : decode cX8_init 28 = .ok (.aload_n 0, 1) := by decide +kernel
theorem dX8_init_29 : decode cX8_init 29 = .ok (.bipush 15, 2) := by decide +kernel
theorem dX8_init_31 : decode cX8_init 31 = .ok (.newarray .int, 2) := by decide +kernel
theorem dX8_init_33 : decode cX8_init 33 = .ok (.putfield 19, 3) := by decide +kernel
theorem dX8_init_36 : decode cX8_init 36 = .ok (.aload_n 0, 1) := by decide +kernel
theorem dX8_init_37 : decode cX8_init 37 = .ok (.sipush 150, 3) := by decide +kernel
theorem dX8_init_40 : decode cX8_init 40 = .ok (.newarray .int, 2) := by decide +kernel
theorem dX8_init_42 : decode cX8_init 42 = .ok (.putfield 22, 3) := by decide +kernel
theorem dX8_init_45 : decode cX8_init 45 = .ok (.aload_n 0, 1) := by decide +kernel
theorem dX8_init_46 : decode cX8_init 46 = .ok (.bipush 30, 2) := by decide +kernel
theorem dX8_init_48 : decode cX8_init 48 = .ok (.newarray .int, 2) := by decide +kernel
theorem dX8_init_50 : decode cX8_init 50 = .ok (.putfield 25, 3) := by decide +kernel
theorem dX8_init_53 : decode cX8_init 53 = .ok (.aload_n 0, 1) := by decide +kernel
theorem dX8_init_54 : decode cX8_init 54 = .ok (.iconst 2, 1) := by decide +kernel
theorem dX8_init_55 : decode cX8_init 55 = .ok (.newarray .boolean, 2) := by decide +kernel
theorem dX8_init_57 : decode cX8_init 57 = .ok (.putfield 28, 3) := by decide +kernel
theorem dX8_init_60 : decode cX8_init 60 = .ok (.aload_n 0, 1) := by decide +kernel
theorem dX8_init_61 : decode cX8_init 61 = .ok (.bipush 12, 2) := by decide +kernel
theorem dX8_init_63 : decode cX8_init 63 = .ok (.newarray .int, 2) := by decide +kernel
theorem dX8_init_65 : decode cX8_init 65 = .ok (.putfield 32, 3) := by decide +kernel
theorem dX8_init_68 : decode cX8_init 68 = .ok (.aload_n 0, 1) := by decide +kernel
theorem dX8_init_69 : decode cX8_init 69 = .ok (.bipush 15, 2) := by decide +kernel
theorem dX8_init_71 : decode cX8_init 71 = .ok (.newarray .int, 2) := by decide +kernel
theorem dX8_init_73 : decode cX8_init 73 = .ok (.putfield 35, 3) := by decide +kernel
theorem dX8_init_76 : decode cX8_init 76 = .ok (.aload_n 0, 1) := by decide +kernel
theorem dX8_init_77 : decode cX8_init 77 = .ok (.bipush 6, 2) := by decide +kernel
theorem dX8_init_79 : decode cX8_init 79 = .ok (.newarray .int, 2) := by decide +kernel
theorem dX8_init_81 : decode cX8_init 81 = .ok (.putfield 38, 3) := by decide +kernel
theorem dX8_init_84 : decode cX8_init 84 = .ok (.aload_n 0, 1) := by decide +kernel
theorem dX8_init_85 : decode cX8_init 85 = .ok (.bipush 6, 2) := by decide +kernel
theorem dX8_init_87 : decode cX8_init 87 = .ok (.newarray .int, 2) := by decide +kernel
theorem dX8_init_89 : decode cX8_init 89 = .ok (.putfield 41, 3) := by decide +kernel
theorem dX8_init_92 : decode cX8_init 92 = .ok (.aload_n 0, 1) := by decide +kernel
theorem dX8_init_93 : decode cX8_init 93 = .ok (.invokevirtual 44, 3) := by decide +kernel
theorem dX8_init_96 : decode cX8_init 96 = .ok (.pop, 1) := by decide +kernel
theorem dX8_init_97 : decode cX8_init 97 = .ok (.aload_n 0, 1) := by decide +kernel
theorem dX8_init_98 : decode cX8_init 98 = .ok (.invokevirtual 48, 3) := by decide +kernel
theorem dX8_init_101 : decode cX8_init 101 = .ok (.return_, 1) := by decide +kernel
theorem dX8_in_0 : decode cX8_in 0 = .ok (.iload_n 0, 1) := by decide +kernel
theorem dX8_in_1 : decode cX8_in 1 = .ok (.iload_n 1, 1) := by decide +kernel
theorem dX8_in_2 : decode cX8_in 2 = .ok (.if_icmp .lt 12, 3) := by decide +kernel
theorem dX8_in_5 : decode cX8_in 5 = .ok (.iload_n 0, 1) := by decide +kernel
theorem dX8_in_6 : decode cX8_in 6 = .ok (.iload_n 2, 1) := by decide +kernel
theorem dX8_in_7 : decode cX8_in 7 = .ok (.if_icmp .gt 7, 3) := by decide +kernel
theorem dX8_in_10 : decode cX8_in 10 = .ok (.iconst 1, 1) := by decide +kernel
theorem dX8_in_11 : decode cX8_in 11 = .ok (.goto 4, 3) := by decide +kernel
theorem dX8_in_14 : decode cX8_in 14 = .ok (.iconst 0, 1) := by decide +kernel
theorem dX8_in_15 : decode cX8_in 15 = .ok (.ireturn, 1) := by decide +kernel
set_option maxRecDepth 20000 in
theorem ggX8_isBottle_X8_in : GoodIn wsX8_isBottle wsX8_in := goodIn_r _ [5] (by decide +kernel) (by decide +kernel)
set_option maxRecDepth 20000 in
theorem gX8_isBottle_X8_in : GoodIn wsX8_isBottle (va_wsS RX8 51 yX8_in wsX8_in) := goodIn_app (goodIn_of _ (by decide +kernel)) ggX8_isBottle_X8_in
theorem dX8_isBottle_0 : decode cX8_isBottle 0 = .ok (.iload_n 1, 1) := by decide +kernel
theorem dX8_isBottle_1 : decode cX8_isBottle 1 = .ok (.iconst 0, 1) := by decide +kernel
theorem dX8_isBottle_2 : decode cX8_isBottle 2 = .ok (.aload_n 0, 1) := by decide +kernel
theorem dX8_isBottle_3 : decode cX8_isBottle 3 = .ok (.getfield 13, 3) := by decide +kernel
theorem dX8_isBottle_6 : decode cX8_isBottle 6 = .ok (.iconst 0, 1) := by decide +kernel
theorem dX8_isBottle_7 : decode cX8_isBottle 7 = .ok (.iaload, 1) := by decide +kernel
theorem dX8_isBottle_8 : decode cX8_isBottle 8 = .ok (.iconst 1, 1) := by decide +kernel
theorem dX8_isBottle_9 : decode cX8_isBottle 9 = .ok (.isub, 1) := by decide +kernel
theorem dX8_isBottle_10 : decode cX8_isBottle 10 = .ok (.invokestatic 51, 3) := by decide +kernel
theorem dX8_isBottle_13 : decode cX8_isBottle 13 = .ok (.ireturn, 1) := by decide +kernel
set_option maxRecDepth 20000 in
theorem ggX8_type_X8_in : GoodIn wsX8_type wsX8_in := goodIn_r _ [6] (by decide +kernel) (by decide +kernel)
set_option maxRecDepth 20000 in
theorem gX8_type_X8_in : GoodIn wsX8_type (va_wsS RX8 51 yX8_in wsX8_in) := goodIn_app (goodIn_of _ (by decide +kernel)) ggX8_type_X8_in
theorem dX8_type_0 : decode cX8_type 0 = .ok (.iload_n 1, 1) := by decide +kernel
theorem dX8_type_1 : decode cX8_type 1 = .ok (.iconst 0, 1) := by decide +kernel
theorem dX8_type_2 : decode cX8_type 2 = .ok (.sipush 255, 3) := by decide +kernel
theorem dX8_type_5 : decode cX8_type 5 = .ok (.invokestatic 51, 3) := by decide +kernel
theorem dX8_type_8 : decode cX8_type 8 = .ok (.ifCond .ne 5, 3) := by decide +kernel
theorem dX8_type_11 : decode cX8_type 11 = .ok (.iconst (-1), 1) := by decide +kernel
theorem dX8_type_12 : decode cX8_type 12 = .ok (.ireturn, 1) := by decide +kernel
theorem dX8_type_13 : decode cX8_type 13 = .ok (.aload_n 0, 1) := by decide +kernel
theorem dX8_type_14 : decode cX8_type 14 = .ok (.getfield 55, 3) := by decide +kernel
theorem dX8_type_17 : decode cX8_type 17 = .ok (.bipush 120, 2) := by decide +kernel
theorem dX8_type_19 : decode cX8_type 19 = .ok (.if_icmp .ne 6, 3) := by decide +kernel
theorem dX8_type_22 : decode cX8_type 22 = .ok (.bipush (-3), 2) := by decide +kernel
theorem dX8_type_24 : decode cX8_type 24 = .ok (.ireturn, 1) := by decide +kernel
theorem dX8_type_25 : decode cX8_type 25 = .ok (.aload_n 0, 1) := by decide +kernel
theorem dX8_type_26 : decode cX8_type 26 = .ok (.getfield 7, 3) := by decide +kernel
theorem dX8_type_29 : decode cX8_type 29 = .ok (.aload_n 0, 1) := by decide +kernel
theorem dX8_type_30 : decode cX8_type 30 = .ok (.getfield 55, 3) := by decide +kernel
theorem dX8_type_33 : decode cX8_type 33 = .ok (.iload_n 1, 1) := by decide +kernel
theorem dX8_type_34 : decode cX8_type 34 = .ok (.iastore, 1) := by decide +kernel
theorem dX8_type_35 : decode cX8_type 35 = .ok (.aload_n 0, 1) := by decide +kernel
theorem dX8_type_36 : decode cX8_type 36 = .ok (.dup, 1) := by decide +kernel
theorem dX8_type_37 : decode cX8_type 37 = .ok (.getfield 55, 3) := by decide +kernel
theorem dX8_type_40 : decode cX8_type 40 = .ok (.iconst 1, 1) := by decide +kernel
theorem dX8_type_41 : decode cX8_type 41 = .ok (.iadd, 1) := by decide +kernel
theorem dX8_type_42 : decode cX8_type 42 = .ok (.putfield 55, 3) := by decide +kernel
theorem dX8_type_45 : decode cX8_type 45 = .ok (.aload_n 0, 1) := by decide +kernel
theorem dX8_type_46 : decode cX8_type 46 = .ok (.getfield 55, 3) := by decide +kernel
theorem dX8_type_49 : decode cX8_type 49 = .ok (.ireturn, 1) := by decide +kernel
theorem dX8_clear_0 : decode cX8_clear 0 = .ok (.aload_n 0, 1) := by decide +kernel
theorem dX8_clear_1 : decode cX8_clear 1 = .ok (.getfield 55, 3) := by decide +kernel
theorem dX8_clear_4 : decode cX8_clear 4 = .ok (.istore_n 1, 1) := by decide +kernel
theorem dX8_clear_5 : decode cX8_clear 5 = .ok (.aload_n 0, 1) := by decide +kernel
theorem dX8_clear_6 : decode cX8_clear 6 = .ok (.iconst 0, 1) := by decide +kernel
theorem dX8_clear_7 : decode cX8_clear 7 = .ok (.putfield 55, 3) := by decide +kernel
theorem dX8_clear_10 : decode cX8_clear 10 = .ok (.iload_n 1, 1) := by decide +kernel
theorem dX8_clear_11 : decode cX8_clear 11 = .ok (.ireturn, 1) := by decide +kernel
theorem dX8_letterAt_0 : decode cX8_letterAt 0 = .ok (.iload_n 1, 1) := by decide +kernel
theorem dX8_letterAt_1 : decode cX8_letterAt 1 = .ok (.aload_n 0, 1) := by decide +kernel
theorem dX8_letterAt_2 : decode cX8_letterAt 2 = .ok (.getfield 55, 3) := by decide +kernel
theorem dX8_letterAt_5 : decode cX8_letterAt 5 = .ok (.if_icmp .ge 12, 3) := by decide +kernel
theorem dX8_letterAt_8 : decode cX8_letterAt 8 = .ok (.aload_n 0, 1) := by decide +kernel
theorem dX8_letterAt_9 : decode cX8_letterAt 9 = .ok (.getfield 7, 3) := by decide +kernel
theorem dX8_letterAt_12 : decode cX8_letterAt 12 = .ok (.iload_n 1, 1) := by decide +kernel
theorem dX8_letterAt_13 : decode cX8_letterAt 13 = .ok (.iaload, 1) := by decide +kernel
theorem dX8_letterAt_14 : decode cX8_letterAt 14 = .ok (.goto 4, 3) := by decide +kernel
theorem dX8_letterAt_17 : decode cX8_letterAt 17 = .ok (.iconst (-1), 1) := by decide +kernel
theorem dX8_letterAt_18 : decode cX8_letterAt 18 = .ok (.ireturn, 1) := by decide +kernel
set_option maxRecDepth 20000 in
theorem ggX8_isDigit_X8_in : GoodIn wsX8_isDigit wsX8_in := goodIn_r _ [4] (by decide +kernel) (by decide +kernel)
set_option maxRecDepth 20000 in
theorem gX8_isDigit_X8_in : GoodIn wsX8_isDigit (va_wsS RX8 51 yX8_in wsX8_in) := goodIn_app (goodIn_of _ (by decide +kernel)) ggX8_isDigit_X8_in
theorem dX8_isDigit_0 : decode cX8_isDigit 0 = .ok (.iload_n 0, 1) := by decide +kernel
theorem dX8_isDigit_1 : decode cX8_isDigit 1 = .ok (.bipush 48, 2) := by decide +kernel
theorem dX8_isDigit_3 : decode cX8_isDigit 3 = .ok (.bipush 57, 2) := by decide +kernel
theorem dX8_isDigit_5 : decode cX8_isDigit 5 = .ok (.invokestatic 51, 3) := by decide +kernel
theorem dX8_isDigit_8 : decode cX8_isDigit 8 = .ok (.ireturn, 1) := by decide +kernel
set_option maxRecDepth 20000 in
theorem ggX8_token_X8_letterAt : GoodIn wsX8_token wsX8_letterAt := goodIn_r _ [10, 11, 5, 18, 19, 20, 21, 22, 23, 24, 25, 26, 27, 28, 29, 30, 31, 32, 33, 34, 35, 36] (by decide +kernel) (by decide +kernel)
set_option maxRecDepth 20000 in
theorem gX8_token_X8_letterAt : GoodIn wsX8_token (wsV RX8 62 RX8 yX8_letterAt wsX8_letterAt) := goodIn_app (goodIn_of _ (by decide +kernel)) ggX8_token_X8_letterAt
set_option maxRecDepth 20000 in
theorem ggX8_token_X8_isDigit : GoodIn wsX8_token wsX8_isDigit := goodIn_r _ [14, 15, 16, 9, 17] (by decide +kernel) (by decide +kernel)
set_option maxRecDepth 20000 in
theorem gX8_token_X8_isDigit : GoodIn wsX8_token (va_wsS RX8 69 yX8_isDigit wsX8_isDigit) := goodIn_app (goodIn_of _ (by decide +kernel)) ggX8_token_X8_isDigit
theorem dX8_token_0 : decode cX8_token 0 = .ok (.aload_n 0, 1) := by decide +kernel
theorem dX8_token_1 : decode cX8_token 1 = .ok (.aload_n 0, 1) := by decide +kernel
theorem dX8_token_2 : decode cX8_token 2 = .ok (.getfield 59, 3) := by decide +kernel
theorem dX8_token_5 : decode cX8_token 5 = .ok (.invokevirtual 62, 3) := by decide +kernel
theorem dX8_token_8 : decode cX8_token 8 = .ok (.bipush 32, 2) := by decide +kernel
theorem dX8_token_10 : decode cX8_token 10 = .ok (.if_icmp .ne 16, 3) := by decide +kernel
theorem dX8_token_13 : decode cX8_token 13 = .ok (.aload_n 0, 1) := by decide +kernel
theorem dX8_token_14 : decode cX8_token 14 = .ok (.dup, 1) := by decide +kernel
theorem dX8_token_15 : decode cX8_token 15 = .ok (.getfield 59, 3) := by decide +kernel
theorem dX8_token_18 : decode cX8_token 18 = .ok (.iconst 1, 1) := by decide +kernel
theorem dX8_token_19 : decode cX8_token 19 = .ok (.iadd, 1) := by decide +kernel
theorem dX8_token_20 : decode cX8_token 20 = .ok (.putfield 59, 3) := by decide +kernel
theorem dX8_token_23 : decode cX8_token 23 = .ok (.goto (-23), 3) := by decide +kernel
theorem dX8_token_26 : decode cX8_token 26 = .ok (.aload_n 0, 1) := by decide +kernel
theorem dX8_token_27 : decode cX8_token 27 = .ok (.aload_n 0, 1) := by decide +kernel
theorem dX8_token_28 : decode cX8_token 28 = .ok (.getfield 59, 3) := by decide +kernel
theorem dX8_token_31 : decode cX8_token 31 = .ok (.putfield 66, 3) := by decide +kernel
theorem dX8_token_34 : decode cX8_token 34 = .ok (.aload_n 0, 1) := by decide +kernel
theorem dX8_token_35 : decode cX8_token 35 = .ok (.aload_n 0, 1) := by decide +kernel
theorem dX8_token_36 : decode cX8_token 36 = .ok (.getfield 59, 3) := by decide +kernel
theorem dX8_token_39 : decode cX8_token 39 = .ok (.invokevirtual 62, 3) := by decide +kernel
theorem dX8_token_42 : decode cX8_token 42 = .ok (.istore_n 1, 1) := by decide +kernel
theorem dX8_token_43 : decode cX8_token 43 = .ok (.aload_n 0, 1) := by decide +kernel
theorem dX8_token_44 : decode cX8_token 44 = .ok (.iload_n 1, 1) := by decide +kernel
theorem dX8_token_45 : decode cX8_token 45 = .ok (.ifCond .ge 7, 3) := by decide +kernel
theorem dX8_token_48 : decode cX8_token 48 = .ok (.iconst 0, 1) := by decide +kernel
theorem dX8_token_49 : decode cX8_token 49 = .ok (.goto 47, 3) := by decide +kernel
theorem dX8_token_52 : decode cX8_token 52 = .ok (.iload_n 1, 1) := by decide +kernel
theorem dX8_token_53 : decode cX8_token 53 = .ok (.bipush 98, 2) := by decide +kernel
theorem dX8_token_55 : decode cX8_token 55 = .ok (.if_icmp .eq 15, 3) := by decide +kernel
theorem dX8_token_58 : decode cX8_token 58 = .ok (.iload_n 1, 1) := by decide +kernel
theorem dX8_token_59 : decode cX8_token 59 = .ok (.bipush 107, 2) := by decide +kernel
theorem dX8_token_61 : decode cX8_token 61 = .ok (.if_icmp .eq 9, 3) := by decide +kernel
theorem dX8_token_64 : decode cX8_token 64 = .ok (.iload_n 1, 1) := by decide +kernel
theorem dX8_token_65 : decode cX8_token 65 = .ok (.bipush 112, 2) := by decide +kernel
theorem dX8_token_67 : decode cX8_token 67 = .ok (.if_icmp .ne 7, 3) := by decide +kernel
theorem dX8_token_70 : decode cX8_token 70 = .ok (.iconst 1, 1) := by decide +kernel
theorem dX8_token_71 : decode cX8_token 71 = .ok (.goto 25, 3) := by decide +kernel
theorem dX8_token_74 : decode cX8_token 74 = .ok (.iload_n 1, 1) := by decide +kernel
theorem dX8_token_75 : decode cX8_token 75 = .ok (.invokestatic 69, 3) := by decide +kernel
theorem dX8_token_78 : decode cX8_token 78 = .ok (.ifCond .eq 7, 3) := by decide +kernel
theorem dX8_token_81 : decode cX8_token 81 = .ok (.iconst 2, 1) := by decide +kernel
theorem dX8_token_82 : decode cX8_token 82 = .ok (.goto 14, 3) := by decide +kernel
theorem dX8_token_85 : decode cX8_token 85 = .ok (.iload_n 1, 1) := by decide +kernel
theorem dX8_token_86 : decode cX8_token 86 = .ok (.bipush 59, 2) := by decide +kernel
theorem dX8_token_88 : decode cX8_token 88 = .ok (.if_icmp .ne 7, 3) := by decide +kernel
theorem dX8_token_91 : decode cX8_token 91 = .ok (.iconst 3, 1) := by decide +kernel
theorem dX8_token_92 : decode cX8_token 92 = .ok (.goto 4, 3) := by decide +kernel
theorem dX8_token_95 : decode cX8_token 95 = .ok (.iconst 4, 1) := by decide +kernel
theorem dX8_token_96 : decode cX8_token 96 = .ok (.putfield 73, 3) := by decide +kernel
theorem dX8_token_99 : decode cX8_token 99 = .ok (.aload_n 0, 1) := by decide +kernel
theorem dX8_token_100 : decode cX8_token 100 = .ok (.iload_n 1, 1) := by decide +kernel
theorem dX8_token_101 : decode cX8_token 101 = .ok (.putfield 76, 3) := by decide +kernel
theorem dX8_token_104 : decode cX8_token 104 = .ok (.aload_n 0, 1) := by decide +kernel
theorem dX8_token_105 : decode cX8_token 105 = .ok (.dup, 1) := by decide +kernel
theorem dX8_token_106 : decode cX8_token 106 = .ok (.getfield 59, 3) := by decide +kernel
theorem dX8_token_109 : decode cX8_token 109 = .ok (.aload_n 0, 1) := by decide +kernel
theorem dX8_token_110 : decode cX8_token 110 = .ok (.getfield 73, 3) := by decide +kernel
theorem dX8_token_113 : decode cX8_token 113 = .ok (.ifCond .ne 7, 3) := by decide +kernel
theorem dX8_token_116 : decode cX8_token 116 = .ok (.iconst 0, 1) := by decide +kernel
theorem dX8_token_117 : decode cX8_token 117 = .ok (.goto 4, 3) := by decide +kernel
theorem dX8_token_120 : decode cX8_token 120 = .ok (.iconst 1, 1) := by decide +kernel
theorem dX8_token_121 : decode cX8_token 121 = .ok (.iadd, 1) := by decide +kernel
theorem dX8_token_122 : decode cX8_token 122 = .ok (.putfield 59, 3) := by decide +kernel
theorem dX8_token_125 : decode cX8_token 125 = .ok (.aload_n 0, 1) := by decide +kernel
theorem dX8_token_126 : decode cX8_token 126 = .ok (.getfield 73, 3) := by decide +kernel
theorem dX8_token_129 : decode cX8_token 129 = .ok (.iconst 2, 1) := by decide +kernel
theorem dX8_token_130 : decode cX8_token 130 = .ok (.if_icmp .ne 83, 3) := by decide +kernel
theorem dX8_token_133 : decode cX8_token 133 = .ok (.aload_n 0, 1) := by decide +kernel
theorem dX8_token_134 : decode cX8_token 134 = .ok (.iload_n 1, 1) := by decide +kernel
theorem dX8_token_135 : decode cX8_token 135 = .ok (.bipush 48, 2) := by decide +kernel
theorem dX8_token_137 : decode cX8_token 137 = .ok (.isub, 1) := by decide +kernel
theorem dX8_token_138 : decode cX8_token 138 = .ok (.putfield 76, 3) := by decide +kernel
theorem dX8_token_141 : decode cX8_token 141 = .ok (.aload_n 0, 1) := by decide +kernel
theorem dX8_token_142 : decode cX8_token 142 = .ok (.aload_n 0, 1) := by decide +kernel
theorem dX8_token_143 : decode cX8_token 143 = .ok (.getfield 59, 3) := by decide +kernel
theorem dX8_token_146 : decode cX8_token 146 = .ok (.invokevirtual 62, 3) := by decide +kernel
theorem dX8_token_149 : decode cX8_token 149 = .ok (.invokestatic 69, 3) := by decide +kernel
theorem dX8_token_152 : decode cX8_token 152 = .ok (.ifCond .eq 61, 3) := by decide +kernel
theorem dX8_token_155 : decode cX8_token 155 = .ok (.aload_n 0, 1) := by decide +kernel
theorem dX8_token_156 : decode cX8_token 156 = .ok (.iload_n 1, 1) := by decide +kernel
theorem dX8_token_157 : decode cX8_token 157 = .ok (.bipush 48, 2) := by decide +kernel
theorem dX8_token_159 : decode cX8_token 159 = .ok (.if_icmp .eq 12, 3) := by decide +kernel
theorem dX8_token_162 : decode cX8_token 162 = .ok (.aload_n 0, 1) := by decide +kernel
theorem dX8_token_163 : decode cX8_token 163 = .ok (.getfield 76, 3) := by decide +kernel
theorem dX8_token_166 : decode cX8_token 166 = .ok (.bipush 99, 2) := by decide +kernel
theorem dX8_token_168 : decode cX8_token 168 = .ok (.if_icmp .le 9, 3) := by decide +kernel
theorem dX8_token_171 : decode cX8_token 171 = .ok (.sipush 1000, 3) := by decide +kernel
theorem dX8_token_174 : decode cX8_token 174 = .ok (.goto 23, 3) := by decide +kernel
theorem dX8_token_177 : decode cX8_token 177 = .ok (.bipush 10, 2) := by decide +kernel
theorem dX8_token_179 : decode cX8_token 179 = .ok (.aload_n 0, 1) := by decide +kernel
theorem dX8_token_180 : decode cX8_token 180 = .ok (.getfield 76, 3) := by decide +kernel
theorem dX8_token_183 : decode cX8_token 183 = .ok (.imul, 1) := by decide +kernel
theorem dX8_token_184 : decode cX8_token 184 = .ok (.aload_n 0, 1) := by decide +kernel
theorem dX8_token_185 : decode cX8_token 185 = .ok (.getfield 7, 3) := by decide +kernel
theorem dX8_token_188 : decode cX8_token 188 = .ok (.aload_n 0, 1) := by decide +kernel
theorem dX8_token_189 : decode cX8_token 189 = .ok (.getfield 59, 3) := by decide +kernel
theorem dX8_token_192 : decode cX8_token 192 = .ok (.iaload, 1) := by decide +kernel
theorem dX8_token_193 : decode cX8_token 193 = .ok (.iadd, 1) := by decide +kernel
theorem dX8_token_194 : decode cX8_token 194 = .ok (.bipush 48, 2) := by decide +kernel
theorem dX8_token_196 : decode cX8_token 196 = .ok (.isub, 1) := by decide +kernel
theorem dX8_token_197 : decode cX8_token 197 = .ok (.putfield 76, 3) := by decide +kernel
theorem dX8_token_200 : decode cX8_token 200 = .ok (.aload_n 0, 1) := by decide +kernel
theorem dX8_token_201 : decode cX8_token 201 = .ok (.dup, 1) := by decide +kernel
theorem dX8_token_202 : decode cX8_token 202 = .ok (.getfield 59, 3) := by decide +kernel
theorem dX8_token_205 : decode cX8_token 205 = .ok (.iconst 1, 1) := by decide +kernel
theorem dX8_token_206 : decode cX8_token 206 = .ok (.iadd, 1) := by decide +kernel
theorem dX8_token_207 : decode cX8_token 207 = .ok (.putfield 59, 3) := by decide +kernel
theorem dX8_token_210 : decode cX8_token 210 = .ok (.goto (-69), 3) := by decide +kernel
theorem dX8_token_213 : decode cX8_token 213 = .ok (.return_, 1) := by decide +kernel
set_option maxRecDepth 20000 in
theorem ggX8_number_X8_token : GoodIn wsX8_number wsX8_token := goodIn_r _ [8, 9, 10, 3, 2, 11, 12, 13, 14, 7, 15, 16, 17, 18, 19, 20, 21, 22, 23, 24, 25, 26, 27, 28, 29, 30, 31, 32, 33, 34, 35, 36, 37, 38, 39, 40, 41] (by decide +kernel) (by decide +kernel)
set_option maxRecDepth 20000 in
theorem gX8_number_X8_token : GoodIn wsX8_number (wsV RX8 79 RX8 yX8_token wsX8_token) := goodIn_app (goodIn_of _ (by decide +kernel)) ggX8_number_X8_token
set_option maxRecDepth 20000 in
theorem ggX8_number_X8_in : GoodIn wsX8_number wsX8_in := goodIn_r _ [22] (by decide +kernel) (by decide +kernel)
set_option maxRecDepth 20000 in
theorem gX8_number_X8_in : GoodIn wsX8_number (va_wsS RX8 51 yX8_in wsX8_in) := goodIn_app (goodIn_of _ (by decide +kernel)) ggX8_number_X8_in
theorem dX8_number_0 : decode cX8_number 0 = .ok (.aload_n 0, 1) := by decide +kernel
theorem dX8_number_1 : decode cX8_number 1 = .ok (.invokevirtual 79, 3) := by decide +kernel
theorem dX8_number_4 : decode cX8_number 4 = .ok (.aload_n 0, 1) := by decide +kernel
theorem dX8_number_5 : decode cX8_number 5 = .ok (.getfield 16, 3) := by decide +kernel
theorem dX8_number_8 : decode cX8_number 8 = .ok (.iload_n 1, 1) := by decide +kernel
theorem dX8_number_9 : decode cX8_number 9 = .ok (.aload_n 0, 1) := by decide +kernel
theorem dX8_number_10 : decode cX8_number 10 = .ok (.getfield 76, 3) := by decide +kernel
theorem dX8_number_13 : decode cX8_number 13 = .ok (.iastore, 1) := by decide +kernel
theorem dX8_number_14 : decode cX8_number 14 = .ok (.aload_n 0, 1) := by decide +kernel
theorem dX8_number_15 : decode cX8_number 15 = .ok (.getfield 73, 3) := by decide +kernel
theorem dX8_number_18 : decode cX8_number 18 = .ok (.iconst 2, 1) := by decide +kernel
theorem dX8_number_19 : decode cX8_number 19 = .ok (.if_icmp .ne 19, 3) := by decide +kernel
theorem dX8_number_22 : decode cX8_number 22 = .ok (.aload_n 0, 1) := by decide +kernel
theorem dX8_number_23 : decode cX8_number 23 = .ok (.getfield 76, 3) := by decide +kernel
theorem dX8_number_26 : decode cX8_number 26 = .ok (.iload_n 2, 1) := by decide +kernel
theorem dX8_number_27 : decode cX8_number 27 = .ok (.iload_n 3, 1) := by decide +kernel
theorem dX8_number_28 : decode cX8_number 28 = .ok (.invokestatic 51, 3) := by decide +kernel
theorem dX8_number_31 : decode cX8_number 31 = .ok (.ifCond .eq 7, 3) := by decide +kernel
theorem dX8_number_34 : decode cX8_number 34 = .ok (.iconst 1, 1) := by decide +kernel
theorem dX8_number_35 : decode cX8_number 35 = .ok (.goto 4, 3) := by decide +kernel
theorem dX8_number_38 : decode cX8_number 38 = .ok (.iconst 0, 1) := by decide +kernel
theorem dX8_number_39 : decode cX8_number 39 = .ok (.ireturn, 1) := by decide +kernel
set_option maxRecDepth 20000 in
theorem ggX8_once_X8_number : GoodIn wsX8_once wsX8_number := goodIn_r _ [6, 1, 7, 8, 9, 10, 11, 5, 12, 13, 14, 15, 16, 17, 18, 19, 20, 21, 22, 23, 24, 25, 26, 27, 28, 29, 30, 31, 32, 33, 34, 35, 36, 37, 38, 39, 40, 41, 42, 43, 44, 45] (by decide +kernel) (by decide +kernel)
set_option maxRecDepth 20000 in
theorem gX8_once_X8_number : GoodIn wsX8_once (wsV RX8 82 RX8 yX8_number wsX8_number) := goodIn_app (goodIn_of _ (by decide +kernel)) ggX8_once_X8_number
theorem dX8_once_0 : decode cX8_once 0 = .ok (.aload_n 0, 1) := by decide +kernel
theorem dX8_once_1 : decode cX8_once 1 = .ok (.getfield 16, 3) := by decide +kernel
theorem dX8_once_4 : decode cX8_once 4 = .ok (.iconst 4, 1) := by decide +kernel
theorem dX8_once_5 : decode cX8_once 5 = .ok (.iaload, 1) := by decide +kernel
theorem dX8_once_6 : decode cX8_once 6 = .ok (.iload_n 1, 1) := by decide +kernel
theorem dX8_once_7 : decode cX8_once 7 = .ok (.iand, 1) := by decide +kernel
theorem dX8_once_8 : decode cX8_once 8 = .ok (.ifCond .eq 5, 3) := by decide +kernel
theorem dX8_once_11 : decode cX8_once 11 = .ok (.iconst 0, 1) := by decide +kernel
theorem dX8_once_12 : decode cX8_once 12 = .ok (.ireturn, 1) := by decide +kernel
theorem dX8_once_13 : decode cX8_once 13 = .ok (.aload_n 0, 1) := by decide +kernel
theorem dX8_once_14 : decode cX8_once 14 = .ok (.getfield 16, 3) := by decide +kernel
theorem dX8_once_17 : decode cX8_once 17 = .ok (.iconst 4, 1) := by decide +kernel
theorem dX8_once_18 : decode cX8_once 18 = .ok (.dup2, 1) := by decide +kernel
theorem dX8_once_19 : decode cX8_once 19 = .ok (.iaload, 1) := by decide +kernel
theorem dX8_once_20 : decode cX8_once 20 = .ok (.iload_n 1, 1) := by decide +kernel
theorem dX8_once_21 : decode cX8_once 21 = .ok (.ior, 1) := by decide +kernel
theorem dX8_once_22 : decode cX8_once 22 = .ok (.iastore, 1) := by decide +kernel
theorem dX8_once_23 : decode cX8_once 23 = .ok (.aload_n 0, 1) := by decide +kernel
theorem dX8_once_24 : decode cX8_once 24 = .ok (.iload_n 2, 1) := by decide +kernel
theorem dX8_once_25 : decode cX8_once 25 = .ok (.iload_n 3, 1) := by decide +kernel
theorem dX8_once_26 : decode cX8_once 26 = .ok (.iload 4, 2) := by decide +kernel
theorem dX8_once_28 : decode cX8_once 28 = .ok (.invokevirtual 82, 3) := by decide +kernel
theorem dX8_once_31 : decode cX8_once 31 = .ok (.ireturn, 1) := by decide +kernel
set_option maxRecDepth 20000 in
theorem ggX8_readsItem_X8_number : GoodIn wsX8_readsItem wsX8_number := goodIn_r _ [8, 3, 2, 1, 9, 10, 11, 7, 12, 13, 14, 15, 16, 17, 18, 19, 20, 21, 22, 23, 24, 25, 26, 31, 32, 33, 34, 35, 36, 37, 38, 39, 40, 41, 42, 43, 44, 45, 46, 47, 48, 49] (by decide +kernel) (by decide +kernel)
set_option maxRecDepth 20000 in
theorem gX8_readsItem_X8_number : GoodIn wsX8_readsItem (wsV RX8 82 RX8 yX8_number wsX8_number) := goodIn_app (goodIn_of _ (by decide +kernel)) ggX8_readsItem_X8_number
set_option maxRecDepth 20000 in
theorem ggX8_readsItem_X8_once : GoodIn wsX8_readsItem wsX8_once := goodIn_r _ [30, 3, 4, 5, 6, 7, 8, 2, 1, 9, 10, 11, 12, 13, 14, 15, 16, 17, 18, 19, 20, 21, 22, 23, 24, 25, 26, 31, 32, 33, 34, 35, 36, 37, 38, 39, 40, 41, 42, 43, 44, 45, 46, 47, 48, 49] (by decide +kernel) (by decide +kernel)
set_option maxRecDepth 20000 in
theorem gX8_readsItem_X8_once : GoodIn wsX8_readsItem (wsV RX8 85 RX8 yX8_once wsX8_once) := goodIn_app (goodIn_of _ (by decide +kernel)) ggX8_readsItem_X8_once
theorem dX8_readsItem_0 : decode cX8_readsItem 0 = .ok (.aload_n 0, 1) := by decide +kernel
theorem dX8_readsItem_1 : decode cX8_readsItem 1 = .ok (.getfield 73, 3) := by decide +kernel
theorem dX8_readsItem_4 : decode cX8_readsItem 4 = .ok (.iconst 1, 1) := by decide +kernel
theorem dX8_readsItem_5 : decode cX8_readsItem 5 = .ok (.if_icmp .ne 10, 3) := by decide +kernel
theorem dX8_readsItem_8 : decode cX8_readsItem 8 = .ok (.aload_n 0, 1) := by decide +kernel
theorem dX8_readsItem_9 : decode cX8_readsItem 9 = .ok (.getfield 76, 3) := by decide +kernel
theorem dX8_readsItem_12 : decode cX8_readsItem 12 = .ok (.goto 4, 3) := by decide +kernel
theorem dX8_readsItem_15 : decode cX8_readsItem 15 = .ok (.iconst 0, 1) := by decide +kernel
theorem dX8_readsItem_16 : decode cX8_readsItem 16 = .ok (.istore_n 1, 1) := by decide +kernel
theorem dX8_readsItem_17 : decode cX8_readsItem 17 = .ok (.aload_n 0, 1) := by decide +kernel
theorem dX8_readsItem_18 : decode cX8_readsItem 18 = .ok (.getfield 16, 3) := by decide +kernel
theorem dX8_readsItem_21 : decode cX8_readsItem 21 = .ok (.iconst 0, 1) := by decide +kernel
theorem dX8_readsItem_22 : decode cX8_readsItem 22 = .ok (.iaload, 1) := by decide +kernel
theorem dX8_readsItem_23 : decode cX8_readsItem 23 = .ok (.istore_n 2, 1) := by decide +kernel
theorem dX8_readsItem_24 : decode cX8_readsItem 24 = .ok (.iload_n 1, 1) := by decide +kernel
theorem dX8_readsItem_25 : decode cX8_readsItem 25 = .ok (.lookupswitch 116 #[(98, 35), (107, 96), (112, 106)], 35) := by decide +kernel
theorem dX8_readsItem_60 : decode cX8_readsItem 60 = .ok (.iload_n 2, 1) := by decide +kernel
theorem dX8_readsItem_61 : decode cX8_readsItem 61 = .ok (.bipush 6, 2) := by decide +kernel
theorem dX8_readsItem_63 : decode cX8_readsItem 63 = .ok (.if_icmp .eq 44, 3) := by decide +kernel
theorem dX8_readsItem_66 : decode cX8_readsItem 66 = .ok (.aload_n 0, 1) := by decide +kernel
theorem dX8_readsItem_67 : decode cX8_readsItem 67 = .ok (.iconst 5, 1) := by decide +kernel
theorem dX8_readsItem_68 : decode cX8_readsItem 68 = .ok (.iload_n 2, 1) := by decide +kernel
theorem dX8_readsItem_69 : decode cX8_readsItem 69 = .ok (.iadd, 1) := by decide +kernel
theorem dX8_readsItem_70 : decode cX8_readsItem 70 = .ok (.iconst 0, 1) := by decide +kernel
theorem dX8_readsItem_71 : decode cX8_readsItem 71 = .ok (.bipush 99, 2) := by decide +kernel
theorem dX8_readsItem_73 : decode cX8_readsItem 73 = .ok (.invokevirtual 82, 3) := by decide +kernel
theorem dX8_readsItem_76 : decode cX8_readsItem 76 = .ok (.ifCond .eq 31, 3) := by decide +kernel
theorem dX8_readsItem_79 : decode cX8_readsItem 79 = .ok (.aload_n 0, 1) := by decide +kernel
theorem dX8_readsItem_80 : decode cX8_readsItem 80 = .ok (.bipush 11, 2) := by decide +kernel
theorem dX8_readsItem_82 : decode cX8_readsItem 82 = .ok (.iload_n 2, 1) := by decide +kernel
theorem dX8_readsItem_83 : decode cX8_readsItem 83 = .ok (.iadd, 1) := by decide +kernel
theorem dX8_readsItem_84 : decode cX8_readsItem 84 = .ok (.iconst 1, 1) := by decide +kernel
theorem dX8_readsItem_85 : decode cX8_readsItem 85 = .ok (.bipush 9, 2) := by decide +kernel
theorem dX8_readsItem_87 : decode cX8_readsItem 87 = .ok (.invokevirtual 82, 3) := by decide +kernel
theorem dX8_readsItem_90 : decode cX8_readsItem 90 = .ok (.ifCond .eq 17, 3) := by decide +kernel
theorem dX8_readsItem_93 : decode cX8_readsItem 93 = .ok (.aload_n 0, 1) := by decide +kernel
theorem dX8_readsItem_94 : decode cX8_readsItem 94 = .ok (.bipush 17, 2) := by decide +kernel
theorem dX8_readsItem_96 : decode cX8_readsItem 96 = .ok (.iload_n 2, 1) := by decide +kernel
theorem dX8_readsItem_97 : decode cX8_readsItem 97 = .ok (.iadd, 1) := by decide +kernel
theorem dX8_readsItem_98 : decode cX8_readsItem 98 = .ok (.iconst 0, 1) := by decide +kernel
theorem dX8_readsItem_99 : decode cX8_readsItem 99 = .ok (.bipush 99, 2) := by decide +kernel
theorem dX8_readsItem_101 : decode cX8_readsItem 101 = .ok (.invokevirtual 82, 3) := by decide +kernel
theorem dX8_readsItem_104 : decode cX8_readsItem 104 = .ok (.ifCond .ne 5, 3) := by decide +kernel
theorem dX8_readsItem_107 : decode cX8_readsItem 107 = .ok (.iconst 0, 1) := by decide +kernel
theorem dX8_readsItem_108 : decode cX8_readsItem 108 = .ok (.ireturn, 1) := by decide +kernel
theorem dX8_readsItem_109 : decode cX8_readsItem 109 = .ok (.aload_n 0, 1) := by decide +kernel
theorem dX8_readsItem_110 : decode cX8_readsItem 110 = .ok (.getfield 16, 3) := by decide +kernel
theorem dX8_readsItem_113 : decode cX8_readsItem 113 = .ok (.iconst 0, 1) := by decide +kernel
theorem dX8_readsItem_114 : decode cX8_readsItem 114 = .ok (.dup2, 1) := by decide +kernel
theorem dX8_readsItem_115 : decode cX8_readsItem 115 = .ok (.iaload, 1) := by decide +kernel
theorem dX8_readsItem_116 : decode cX8_readsItem 116 = .ok (.iconst 1, 1) := by decide +kernel
theorem dX8_readsItem_117 : decode cX8_readsItem 117 = .ok (.iadd, 1) := by decide +kernel
theorem dX8_readsItem_118 : decode cX8_readsItem 118 = .ok (.iastore, 1) := by decide +kernel
theorem dX8_readsItem_119 : decode cX8_readsItem 119 = .ok (.iconst 1, 1) := by decide +kernel
theorem dX8_readsItem_120 : decode cX8_readsItem 120 = .ok (.ireturn, 1) := by decide +kernel
theorem dX8_readsItem_121 : decode cX8_readsItem 121 = .ok (.aload_n 0, 1) := by decide +kernel
theorem dX8_readsItem_122 : decode cX8_readsItem 122 = .ok (.iconst 1, 1) := by decide +kernel
theorem dX8_readsItem_123 : decode cX8_readsItem 123 = .ok (.iconst 1, 1) := by decide +kernel
theorem dX8_readsItem_124 : decode cX8_readsItem 124 = .ok (.iconst 0, 1) := by decide +kernel
theorem dX8_readsItem_125 : decode cX8_readsItem 125 = .ok (.bipush 60, 2) := by decide +kernel
theorem dX8_readsItem_127 : decode cX8_readsItem 127 = .ok (.invokevirtual 85, 3) := by decide +kernel
theorem dX8_readsItem_130 : decode cX8_readsItem 130 = .ok (.ireturn, 1) := by decide +kernel
theorem dX8_readsItem_131 : decode cX8_readsItem 131 = .ok (.aload_n 0, 1) := by decide +kernel
theorem dX8_readsItem_132 : decode cX8_readsItem 132 = .ok (.iconst 2, 1) := by decide +kernel
theorem dX8_readsItem_133 : decode cX8_readsItem 133 = .ok (.iconst 2, 1) := by decide +kernel
theorem dX8_readsItem_134 : decode cX8_readsItem 134 = .ok (.iconst 1, 1) := by decide +kernel
theorem dX8_readsItem_135 : decode cX8_readsItem 135 = .ok (.bipush 30, 2) := by decide +kernel
theorem dX8_readsItem_137 : decode cX8_readsItem 137 = .ok (.invokevirtual 85, 3) := by decide +kernel
theorem dX8_readsItem_140 : decode cX8_readsItem 140 = .ok (.ireturn, 1) := by decide +kernel
theorem dX8_readsItem_141 : decode cX8_readsItem 141 = .ok (.iconst 0, 1) := by decide +kernel
theorem dX8_readsItem_142 : decode cX8_readsItem 142 = .ok (.ireturn, 1) := by decide +kernel
set_option maxRecDepth 20000 in
theorem ggX8_reads_X8_token : GoodIn wsX8_reads wsX8_token := goodIn_r _ [8, 2, 9, 3, 10, 11, 12, 13, 14, 7, 15, 16, 17, 18, 19, 20, 21, 22, 35, 36, 37, 38, 39, 40, 41, 42, 43, 44, 45, 46, 47, 48, 49, 50, 51, 52, 53] (by decide +kernel) (by decide +kernel)
set_option maxRecDepth 20000 in
theorem gX8_reads_X8_token : GoodIn wsX8_reads (wsV RX8 79 RX8 yX8_token wsX8_token) := goodIn_app (goodIn_of _ (by decide +kernel)) ggX8_reads_X8_token
set_option maxRecDepth 20000 in
theorem ggX8_reads_X8_readsItem : GoodIn wsX8_reads wsX8_readsItem := goodIn_r _ [26, 3, 10, 1, 27, 28, 29, 7, 30, 4, 5, 6, 8, 2, 9, 11, 12, 13, 14, 15, 16, 17, 18, 19, 20, 21, 22, 31, 32, 33, 34, 35, 36, 37, 38, 39, 40, 41, 42, 43, 44, 45, 46, 47, 48, 49, 50, 51, 52, 53] (by decide +kernel) (by decide +kernel)
set_option maxRecDepth 20000 in
theorem gX8_reads_X8_readsItem : GoodIn wsX8_reads (wsV RX8 89 RX8 yX8_readsItem wsX8_readsItem) := goodIn_app (goodIn_of _ (by decide +kernel)) ggX8_reads_X8_readsItem
theorem dX8_reads_0 : decode cX8_reads 0 = .ok (.iconst 0, 1) := by decide +kernel
theorem dX8_reads_1 : decode cX8_reads 1 = .ok (.istore_n 1, 1) := by decide +kernel
theorem dX8_reads_2 : decode cX8_reads 2 = .ok (.iload_n 1, 1) := by decide +kernel
theorem dX8_reads_3 : decode cX8_reads 3 = .ok (.bipush 23, 2) := by decide +kernel
theorem dX8_reads_5 : decode cX8_reads 5 = .ok (.if_icmp .ge 16, 3) := by decide +kernel
theorem dX8_reads_8 : decode cX8_reads 8 = .ok (.aload_n 0, 1) := by decide +kernel
theorem dX8_reads_9 : decode cX8_reads 9 = .ok (.getfield 16, 3) := by decide +kernel
theorem dX8_reads_12 : decode cX8_reads 12 = .ok (.iload_n 1, 1) := by decide +kernel
theorem dX8_reads_13 : decode cX8_reads 13 = .ok (.iconst 0, 1) := by decide +kernel
theorem dX8_reads_14 : decode cX8_reads 14 = .ok (.iastore, 1) := by decide +kernel
theorem dX8_reads_15 : decode cX8_reads 15 = .ok (.iinc 1 1, 3) := by decide +kernel
theorem dX8_reads_18 : decode cX8_reads 18 = .ok (.goto (-16), 3) := by decide +kernel
theorem dX8_reads_21 : decode cX8_reads 21 = .ok (.aload_n 0, 1) := by decide +kernel
theorem dX8_reads_22 : decode cX8_reads 22 = .ok (.getfield 16, 3) := by decide +kernel
theorem dX8_reads_25 : decode cX8_reads 25 = .ok (.iconst 1, 1) := by decide +kernel
theorem dX8_reads_26 : decode cX8_reads 26 = .ok (.bipush 10, 2) := by decide +kernel
theorem dX8_reads_28 : decode cX8_reads 28 = .ok (.iastore, 1) := by decide +kernel
theorem dX8_reads_29 : decode cX8_reads 29 = .ok (.aload_n 0, 1) := by decide +kernel
theorem dX8_reads_30 : decode cX8_reads 30 = .ok (.getfield 16, 3) := by decide +kernel
theorem dX8_reads_33 : decode cX8_reads 33 = .ok (.iconst 2, 1) := by decide +kernel
theorem dX8_reads_34 : decode cX8_reads 34 = .ok (.bipush 10, 2) := by decide +kernel
theorem dX8_reads_36 : decode cX8_reads 36 = .ok (.iastore, 1) := by decide +kernel
theorem dX8_reads_37 : decode cX8_reads 37 = .ok (.aload_n 0, 1) := by decide +kernel
theorem dX8_reads_38 : decode cX8_reads 38 = .ok (.iconst 0, 1) := by decide +kernel
theorem dX8_reads_39 : decode cX8_reads 39 = .ok (.putfield 59, 3) := by decide +kernel
theorem dX8_reads_42 : decode cX8_reads 42 = .ok (.aload_n 0, 1) := by decide +kernel
theorem dX8_reads_43 : decode cX8_reads 43 = .ok (.invokevirtual 79, 3) := by decide +kernel
theorem dX8_reads_46 : decode cX8_reads 46 = .ok (.aload_n 0, 1) := by decide +kernel
theorem dX8_reads_47 : decode cX8_reads 47 = .ok (.getfield 73, 3) := by decide +kernel
theorem dX8_reads_50 : decode cX8_reads 50 = .ok (.ifCond .eq 43, 3) := by decide +kernel
theorem dX8_reads_53 : decode cX8_reads 53 = .ok (.aload_n 0, 1) := by decide +kernel
theorem dX8_reads_54 : decode cX8_reads 54 = .ok (.invokevirtual 89, 3) := by decide +kernel
theorem dX8_reads_57 : decode cX8_reads 57 = .ok (.ifCond .ne 5, 3) := by decide +kernel
theorem dX8_reads_60 : decode cX8_reads 60 = .ok (.iconst 0, 1) := by decide +kernel
theorem dX8_reads_61 : decode cX8_reads 61 = .ok (.ireturn, 1) := by decide +kernel
theorem dX8_reads_62 : decode cX8_reads 62 = .ok (.aload_n 0, 1) := by decide +kernel
theorem dX8_reads_63 : decode cX8_reads 63 = .ok (.invokevirtual 79, 3) := by decide +kernel
theorem dX8_reads_66 : decode cX8_reads 66 = .ok (.aload_n 0, 1) := by decide +kernel
theorem dX8_reads_67 : decode cX8_reads 67 = .ok (.getfield 73, 3) := by decide +kernel
theorem dX8_reads_70 : decode cX8_reads 70 = .ok (.iconst 3, 1) := by decide +kernel
theorem dX8_reads_71 : decode cX8_reads 71 = .ok (.if_icmp .eq 5, 3) := by decide +kernel
theorem dX8_reads_74 : decode cX8_reads 74 = .ok (.iconst 0, 1) := by decide +kernel
theorem dX8_reads_75 : decode cX8_reads 75 = .ok (.ireturn, 1) := by decide +kernel
theorem dX8_reads_76 : decode cX8_reads 76 = .ok (.aload_n 0, 1) := by decide +kernel
theorem dX8_reads_77 : decode cX8_reads 77 = .ok (.getfield 16, 3) := by decide +kernel
theorem dX8_reads_80 : decode cX8_reads 80 = .ok (.iconst 3, 1) := by decide +kernel
theorem dX8_reads_81 : decode cX8_reads 81 = .ok (.dup2, 1) := by decide +kernel
theorem dX8_reads_82 : decode cX8_reads 82 = .ok (.iaload, 1) := by decide +kernel
theorem dX8_reads_83 : decode cX8_reads 83 = .ok (.iconst 1, 1) := by decide +kernel
theorem dX8_reads_84 : decode cX8_reads 84 = .ok (.iadd, 1) := by decide +kernel
theorem dX8_reads_85 : decode cX8_reads 85 = .ok (.iastore, 1) := by decide +kernel
theorem dX8_reads_86 : decode cX8_reads 86 = .ok (.aload_n 0, 1) := by decide +kernel
theorem dX8_reads_87 : decode cX8_reads 87 = .ok (.invokevirtual 79, 3) := by decide +kernel
theorem dX8_reads_90 : decode cX8_reads 90 = .ok (.goto (-44), 3) := by decide +kernel
theorem dX8_reads_93 : decode cX8_reads 93 = .ok (.iconst 1, 1) := by decide +kernel
theorem dX8_reads_94 : decode cX8_reads 94 = .ok (.ireturn, 1) := by decide +kernel
theorem dX8_begins_0 : decode cX8_begins 0 = .ok (.iconst 0, 1) := by decide +kernel
theorem dX8_begins_1 : decode cX8_begins 1 = .ok (.istore_n 1, 1) := by decide +kernel
theorem dX8_begins_2 : decode cX8_begins 2 = .ok (.iload_n 1, 1) := by decide +kernel
theorem dX8_begins_3 : decode cX8_begins 3 = .ok (.bipush 23, 2) := by decide +kernel
theorem dX8_begins_5 : decode cX8_begins 5 = .ok (.if_icmp .ge 21, 3) := by decide +kernel
theorem dX8_begins_8 : decode cX8_begins 8 = .ok (.aload_n 0, 1) := by decide +kernel
theorem dX8_begins_9 : decode cX8_begins 9 = .ok (.getfield 13, 3) := by decide +kernel
theorem dX8_begins_12 : decode cX8_begins 12 = .ok (.iload_n 1, 1) := by decide +kernel
theorem dX8_begins_13 : decode cX8_begins 13 = .ok (.aload_n 0, 1) := by decide +kernel
theorem dX8_begins_14 : decode cX8_begins 14 = .ok (.getfield 16, 3) := by decide +kernel
theorem dX8_begins_17 : decode cX8_begins 17 = .ok (.iload_n 1, 1) := by decide +kernel
theorem dX8_begins_18 : decode cX8_begins 18 = .ok (.iaload, 1) := by decide +kernel
end
section
theorem dX8_begins_19 : decode cX8_begins 19 = .ok (.iastore, 1) := by decide +kernel
theorem dX8_begins_20 : decode cX8_begins 20 = .ok (.iinc 1 1, 3) := by decide +kernel
theorem dX8_begins_23 : decode cX8_begins 23 = .ok (.goto (-21), 3) := by decide +kernel
theorem dX8_begins_26 : decode cX8_begins 26 = .ok (.aload_n 0, 1) := by decide +kernel
theorem dX8_begins_27 : decode cX8_begins 27 = .ok (.getfield 19, 3) := by decide +kernel
theorem dX8_begins_30 : decode cX8_begins 30 = .ok (.iconst 0, 1) := by decide +kernel
theorem dX8_begins_31 : decode cX8_begins 31 = .ok (.iconst 0, 1) := by decide +kernel
theorem dX8_begins_32 : decode cX8_begins 32 = .ok (.iastore, 1) := by decide +kernel
theorem dX8_begins_33 : decode cX8_begins 33 = .ok (.aload_n 0, 1) := by decide +kernel
theorem dX8_begins_34 : decode cX8_begins 34 = .ok (.getfield 19, 3) := by decide +kernel
theorem dX8_begins_37 : decode cX8_begins 37 = .ok (.iconst 1, 1) := by decide +kernel
theorem dX8_begins_38 : decode cX8_begins 38 = .ok (.iconst 0, 1) := by decide +kernel
theorem dX8_begins_39 : decode cX8_begins 39 = .ok (.iastore, 1) := by decide +kernel
theorem dX8_begins_40 : decode cX8_begins 40 = .ok (.aload_n 0, 1) := by decide +kernel
theorem dX8_begins_41 : decode cX8_begins 41 = .ok (.getfield 19, 3) := by decide +kernel
theorem dX8_begins_44 : decode cX8_begins 44 = .ok (.iconst 2, 1) := by decide +kernel
theorem dX8_begins_45 : decode cX8_begins 45 = .ok (.aload_n 0, 1) := by decide +kernel
theorem dX8_begins_46 : decode cX8_begins 46 = .ok (.getfield 13, 3) := by decide +kernel
theorem dX8_begins_49 : decode cX8_begins 49 = .ok (.iconst 1, 1) := by decide +kernel
theorem dX8_begins_50 : decode cX8_begins 50 = .ok (.iaload, 1) := by decide +kernel
theorem dX8_begins_51 : decode cX8_begins 51 = .ok (.iastore, 1) := by decide +kernel
theorem dX8_begins_52 : decode cX8_begins 52 = .ok (.iconst 0, 1) := by decide +kernel
theorem dX8_begins_53 : decode cX8_begins 53 = .ok (.istore_n 1, 1) := by decide +kernel
theorem dX8_begins_54 : decode cX8_begins 54 = .ok (.iload_n 1, 1) := by decide +kernel
theorem dX8_begins_55 : decode cX8_begins 55 = .ok (.bipush 6, 2) := by decide +kernel
theorem dX8_begins_57 : decode cX8_begins 57 = .ok (.if_icmp .ge 49, 3) := by decide +kernel
theorem dX8_begins_60 : decode cX8_begins 60 = .ok (.aload_n 0, 1) := by decide +kernel
theorem dX8_begins_61 : decode cX8_begins 61 = .ok (.getfield 19, 3) := by decide +kernel
theorem dX8_begins_64 : decode cX8_begins 64 = .ok (.iconst 3, 1) := by decide +kernel
theorem dX8_begins_65 : decode cX8_begins 65 = .ok (.iload_n 1, 1) := by decide +kernel
theorem dX8_begins_66 : decode cX8_begins 66 = .ok (.iadd, 1) := by decide +kernel
theorem dX8_begins_67 : decode cX8_begins 67 = .ok (.iload_n 1, 1) := by decide +kernel
theorem dX8_begins_68 : decode cX8_begins 68 = .ok (.aload_n 0, 1) := by decide +kernel
theorem dX8_begins_69 : decode cX8_begins 69 = .ok (.getfield 13, 3) := by decide +kernel
theorem dX8_begins_72 : decode cX8_begins 72 = .ok (.iconst 0, 1) := by decide +kernel
theorem dX8_begins_73 : decode cX8_begins 73 = .ok (.iaload, 1) := by decide +kernel
theorem dX8_begins_74 : decode cX8_begins 74 = .ok (.if_icmp .ge 14, 3) := by decide +kernel
theorem dX8_begins_77 : decode cX8_begins 77 = .ok (.aload_n 0, 1) := by decide +kernel
theorem dX8_begins_78 : decode cX8_begins 78 = .ok (.getfield 13, 3) := by decide +kernel
theorem dX8_begins_81 : decode cX8_begins 81 = .ok (.iconst 5, 1) := by decide +kernel
theorem dX8_begins_82 : decode cX8_begins 82 = .ok (.iload_n 1, 1) := by decide +kernel
theorem dX8_begins_83 : decode cX8_begins 83 = .ok (.iadd, 1) := by decide +kernel
theorem dX8_begins_84 : decode cX8_begins 84 = .ok (.iaload, 1) := by decide +kernel
theorem dX8_begins_85 : decode cX8_begins 85 = .ok (.goto 4, 3) := by decide +kernel
theorem dX8_begins_88 : decode cX8_begins 88 = .ok (.iconst 0, 1) := by decide +kernel
theorem dX8_begins_89 : decode cX8_begins 89 = .ok (.iastore, 1) := by decide +kernel
theorem dX8_begins_90 : decode cX8_begins 90 = .ok (.aload_n 0, 1) := by decide +kernel
theorem dX8_begins_91 : decode cX8_begins 91 = .ok (.getfield 19, 3) := by decide +kernel
theorem dX8_begins_94 : decode cX8_begins 94 = .ok (.bipush 9, 2) := by decide +kernel
theorem dX8_begins_96 : decode cX8_begins 96 = .ok (.iload_n 1, 1) := by decide +kernel
theorem dX8_begins_97 : decode cX8_begins 97 = .ok (.iadd, 1) := by decide +kernel
theorem dX8_begins_98 : decode cX8_begins 98 = .ok (.iload_n 1, 1) := by decide +kernel
theorem dX8_begins_99 : decode cX8_begins 99 = .ok (.iastore, 1) := by decide +kernel
theorem dX8_begins_100 : decode cX8_begins 100 = .ok (.iinc 1 1, 3) := by decide +kernel
theorem dX8_begins_103 : decode cX8_begins 103 = .ok (.goto (-49), 3) := by decide +kernel
theorem dX8_begins_106 : decode cX8_begins 106 = .ok (.aload_n 0, 1) := by decide +kernel
theorem dX8_begins_107 : decode cX8_begins 107 = .ok (.iconst 0, 1) := by decide +kernel
theorem dX8_begins_108 : decode cX8_begins 108 = .ok (.putfield 92, 3) := by decide +kernel
theorem dX8_begins_111 : decode cX8_begins 111 = .ok (.aload_n 0, 1) := by decide +kernel
theorem dX8_begins_112 : decode cX8_begins 112 = .ok (.iconst 0, 1) := by decide +kernel
theorem dX8_begins_113 : decode cX8_begins 113 = .ok (.putfield 95, 3) := by decide +kernel
theorem dX8_begins_116 : decode cX8_begins 116 = .ok (.aload_n 0, 1) := by decide +kernel
theorem dX8_begins_117 : decode cX8_begins 117 = .ok (.getfield 28, 3) := by decide +kernel
theorem dX8_begins_120 : decode cX8_begins 120 = .ok (.iconst 0, 1) := by decide +kernel
theorem dX8_begins_121 : decode cX8_begins 121 = .ok (.iconst 0, 1) := by decide +kernel
theorem dX8_begins_122 : decode cX8_begins 122 = .ok (.bastore, 1) := by decide +kernel
theorem dX8_begins_123 : decode cX8_begins 123 = .ok (.aload_n 0, 1) := by decide +kernel
theorem dX8_begins_124 : decode cX8_begins 124 = .ok (.getfield 28, 3) := by decide +kernel
theorem dX8_begins_127 : decode cX8_begins 127 = .ok (.iconst 1, 1) := by decide +kernel
theorem dX8_begins_128 : decode cX8_begins 128 = .ok (.iconst 0, 1) := by decide +kernel
theorem dX8_begins_129 : decode cX8_begins 129 = .ok (.bastore, 1) := by decide +kernel
theorem dX8_begins_130 : decode cX8_begins 130 = .ok (.return_, 1) := by decide +kernel
set_option maxRecDepth 20000 in
theorem ggX8_ward_X8_reads : GoodIn wsX8_ward wsX8_reads := goodIn_r _ [8, 9, 10, 11, 12, 13, 14, 7, 15, 1, 16, 17, 18, 19, 20, 21, 2, 22, 23, 24, 25, 26, 27, 28, 29, 30, 31, 32, 33, 34, 35, 36, 37, 38, 39, 48, 49, 50, 51, 52, 53, 54, 55, 56, 57, 58, 59, 60, 61, 62, 63, 64, 65, 66] (by decide +kernel) (by decide +kernel)
set_option maxRecDepth 20000 in
theorem gX8_ward_X8_reads : GoodIn wsX8_ward (wsV RX8 44 RX8 yX8_reads wsX8_reads) := goodIn_app (goodIn_of _ (by decide +kernel)) ggX8_ward_X8_reads
set_option maxRecDepth 20000 in
theorem ggX8_ward_X8_begins : GoodIn wsX8_ward wsX8_begins := goodIn_r _ [43, 3, 9, 44, 45, 46, 47, 48, 49, 50, 51, 52, 53, 54, 55, 56, 57, 58, 59, 60, 61, 62, 63, 64, 65, 66] (by decide +kernel) (by decide +kernel)
set_option maxRecDepth 20000 in
theorem gX8_ward_X8_begins : GoodIn wsX8_ward (wsV RX8 48 RX8 yX8_begins wsX8_begins) := goodIn_app (goodIn_of _ (by decide +kernel)) ggX8_ward_X8_begins
theorem dX8_ward_0 : decode cX8_ward 0 = .ok (.aload_n 0, 1) := by decide +kernel
theorem dX8_ward_1 : decode cX8_ward 1 = .ok (.invokevirtual 44, 3) := by decide +kernel
theorem dX8_ward_4 : decode cX8_ward 4 = .ok (.ifCond .ne 11, 3) := by decide +kernel
theorem dX8_ward_7 : decode cX8_ward 7 = .ok (.bipush (-10), 2) := by decide +kernel
theorem dX8_ward_9 : decode cX8_ward 9 = .ok (.aload_n 0, 1) := by decide +kernel
theorem dX8_ward_10 : decode cX8_ward 10 = .ok (.getfield 66, 3) := by decide +kernel
theorem dX8_ward_13 : decode cX8_ward 13 = .ok (.isub, 1) := by decide +kernel
theorem dX8_ward_14 : decode cX8_ward 14 = .ok (.ireturn, 1) := by decide +kernel
theorem dX8_ward_15 : decode cX8_ward 15 = .ok (.aload_n 0, 1) := by decide +kernel
theorem dX8_ward_16 : decode cX8_ward 16 = .ok (.invokevirtual 48, 3) := by decide +kernel
theorem dX8_ward_19 : decode cX8_ward 19 = .ok (.aload_n 0, 1) := by decide +kernel
theorem dX8_ward_20 : decode cX8_ward 20 = .ok (.iconst 0, 1) := by decide +kernel
theorem dX8_ward_21 : decode cX8_ward 21 = .ok (.putfield 55, 3) := by decide +kernel
theorem dX8_ward_24 : decode cX8_ward 24 = .ok (.aload_n 0, 1) := by decide +kernel
theorem dX8_ward_25 : decode cX8_ward 25 = .ok (.getfield 13, 3) := by decide +kernel
theorem dX8_ward_28 : decode cX8_ward 28 = .ok (.iconst 3, 1) := by decide +kernel
theorem dX8_ward_29 : decode cX8_ward 29 = .ok (.iaload, 1) := by decide +kernel
theorem dX8_ward_30 : decode cX8_ward 30 = .ok (.ireturn, 1) := by decide +kernel
theorem dX8_cools_0 : decode cX8_cools 0 = .ok (.iconst (-1), 1) := by decide +kernel
theorem dX8_cools_1 : decode cX8_cools 1 = .ok (.istore_n 3, 1) := by decide +kernel
theorem dX8_cools_2 : decode cX8_cools 2 = .ok (.iconst 0, 1) := by decide +kernel
theorem dX8_cools_3 : decode cX8_cools 3 = .ok (.istore 4, 2) := by decide +kernel
theorem dX8_cools_5 : decode cX8_cools 5 = .ok (.iload 4, 2) := by decide +kernel
theorem dX8_cools_7 : decode cX8_cools 7 = .ok (.aload_n 0, 1) := by decide +kernel
theorem dX8_cools_8 : decode cX8_cools 8 = .ok (.getfield 13, 3) := by decide +kernel
theorem dX8_cools_11 : decode cX8_cools 11 = .ok (.iconst 0, 1) := by decide +kernel
theorem dX8_cools_12 : decode cX8_cools 12 = .ok (.iaload, 1) := by decide +kernel
theorem dX8_cools_13 : decode cX8_cools 13 = .ok (.if_icmp .ge 39, 3) := by decide +kernel
theorem dX8_cools_16 : decode cX8_cools 16 = .ok (.iload_n 3, 1) := by decide +kernel
theorem dX8_cools_17 : decode cX8_cools 17 = .ok (.aload_n 0, 1) := by decide +kernel
theorem dX8_cools_18 : decode cX8_cools 18 = .ok (.getfield 19, 3) := by decide +kernel
theorem dX8_cools_21 : decode cX8_cools 21 = .ok (.bipush 9, 2) := by decide +kernel
theorem dX8_cools_23 : decode cX8_cools 23 = .ok (.iload 4, 2) := by decide +kernel
theorem dX8_cools_25 : decode cX8_cools 25 = .ok (.iadd, 1) := by decide +kernel
theorem dX8_cools_26 : decode cX8_cools 26 = .ok (.iaload, 1) := by decide +kernel
theorem dX8_cools_27 : decode cX8_cools 27 = .ok (.aload_n 0, 1) := by decide +kernel
theorem dX8_cools_28 : decode cX8_cools 28 = .ok (.getfield 19, 3) := by decide +kernel
theorem dX8_cools_31 : decode cX8_cools 31 = .ok (.bipush 9, 2) := by decide +kernel
theorem dX8_cools_33 : decode cX8_cools 33 = .ok (.iload_n 1, 1) := by decide +kernel
theorem dX8_cools_34 : decode cX8_cools 34 = .ok (.iadd, 1) := by decide +kernel
theorem dX8_cools_35 : decode cX8_cools 35 = .ok (.iaload, 1) := by decide +kernel
theorem dX8_cools_36 : decode cX8_cools 36 = .ok (.if_icmp .ne 7, 3) := by decide +kernel
theorem dX8_cools_39 : decode cX8_cools 39 = .ok (.iconst 1, 1) := by decide +kernel
theorem dX8_cools_40 : decode cX8_cools 40 = .ok (.goto 4, 3) := by decide +kernel
theorem dX8_cools_43 : decode cX8_cools 43 = .ok (.iconst 0, 1) := by decide +kernel
theorem dX8_cools_44 : decode cX8_cools 44 = .ok (.iadd, 1) := by decide +kernel
theorem dX8_cools_45 : decode cX8_cools 45 = .ok (.istore_n 3, 1) := by decide +kernel
theorem dX8_cools_46 : decode cX8_cools 46 = .ok (.iinc 4 1, 3) := by decide +kernel
theorem dX8_cools_49 : decode cX8_cools 49 = .ok (.goto (-44), 3) := by decide +kernel
theorem dX8_cools_52 : decode cX8_cools 52 = .ok (.aload_n 0, 1) := by decide +kernel
theorem dX8_cools_53 : decode cX8_cools 53 = .ok (.getfield 13, 3) := by decide +kernel
theorem dX8_cools_56 : decode cX8_cools 56 = .ok (.bipush 11, 2) := by decide +kernel
theorem dX8_cools_58 : decode cX8_cools 58 = .ok (.iload_n 1, 1) := by decide +kernel
theorem dX8_cools_59 : decode cX8_cools 59 = .ok (.iadd, 1) := by decide +kernel
theorem dX8_cools_60 : decode cX8_cools 60 = .ok (.iaload, 1) := by decide +kernel
theorem dX8_cools_61 : decode cX8_cools 61 = .ok (.iload_n 2, 1) := by decide +kernel
theorem dX8_cools_62 : decode cX8_cools 62 = .ok (.iadd, 1) := by decide +kernel
theorem dX8_cools_63 : decode cX8_cools 63 = .ok (.iconst 2, 1) := by decide +kernel
theorem dX8_cools_64 : decode cX8_cools 64 = .ok (.iload_n 3, 1) := by decide +kernel
theorem dX8_cools_65 : decode cX8_cools 65 = .ok (.imul, 1) := by decide +kernel
theorem dX8_cools_66 : decode cX8_cools 66 = .ok (.isub, 1) := by decide +kernel
theorem dX8_cools_67 : decode cX8_cools 67 = .ok (.istore 4, 2) := by decide +kernel
theorem dX8_cools_69 : decode cX8_cools 69 = .ok (.iload 4, 2) := by decide +kernel
theorem dX8_cools_71 : decode cX8_cools 71 = .ok (.iconst 1, 1) := by decide +kernel
theorem dX8_cools_72 : decode cX8_cools 72 = .ok (.if_icmp .ge 7, 3) := by decide +kernel
theorem dX8_cools_75 : decode cX8_cools 75 = .ok (.iconst 1, 1) := by decide +kernel
theorem dX8_cools_76 : decode cX8_cools 76 = .ok (.goto 5, 3) := by decide +kernel
theorem dX8_cools_79 : decode cX8_cools 79 = .ok (.iload 4, 2) := by decide +kernel
theorem dX8_cools_81 : decode cX8_cools 81 = .ok (.ireturn, 1) := by decide +kernel
theorem dX8_less_0 : decode cX8_less 0 = .ok (.iload_n 0, 1) := by decide +kernel
theorem dX8_less_1 : decode cX8_less 1 = .ok (.iload_n 1, 1) := by decide +kernel
theorem dX8_less_2 : decode cX8_less 2 = .ok (.if_icmp .le 9, 3) := by decide +kernel
theorem dX8_less_5 : decode cX8_less 5 = .ok (.iload_n 0, 1) := by decide +kernel
theorem dX8_less_6 : decode cX8_less 6 = .ok (.iload_n 1, 1) := by decide +kernel
theorem dX8_less_7 : decode cX8_less 7 = .ok (.isub, 1) := by decide +kernel
theorem dX8_less_8 : decode cX8_less 8 = .ok (.goto 4, 3) := by decide +kernel
theorem dX8_less_11 : decode cX8_less 11 = .ok (.iconst 0, 1) := by decide +kernel
theorem dX8_less_12 : decode cX8_less 12 = .ok (.ireturn, 1) := by decide +kernel
set_option maxRecDepth 20000 in
theorem ggX8_lasts_X8_cools : GoodIn wsX8_lasts wsX8_cools := goodIn_r _ [6, 7, 1, 8, 9, 10, 11, 12, 13, 14, 15, 16, 17, 18, 19, 20, 21, 22, 23, 24, 25, 26] (by decide +kernel) (by decide +kernel)
set_option maxRecDepth 20000 in
theorem gX8_lasts_X8_cools : GoodIn wsX8_lasts (wsV RX8 98 RX8 yX8_cools wsX8_cools) := goodIn_app (goodIn_of _ (by decide +kernel)) ggX8_lasts_X8_cools
theorem dX8_lasts_0 : decode cX8_lasts 0 = .ok (.aload_n 0, 1) := by decide +kernel
theorem dX8_lasts_1 : decode cX8_lasts 1 = .ok (.iload_n 1, 1) := by decide +kernel
theorem dX8_lasts_2 : decode cX8_lasts 2 = .ok (.aload_n 0, 1) := by decide +kernel
theorem dX8_lasts_3 : decode cX8_lasts 3 = .ok (.getfield 19, 3) := by decide +kernel
theorem dX8_lasts_6 : decode cX8_lasts 6 = .ok (.iconst 1, 1) := by decide +kernel
theorem dX8_lasts_7 : decode cX8_lasts 7 = .ok (.iaload, 1) := by decide +kernel
theorem dX8_lasts_8 : decode cX8_lasts 8 = .ok (.invokevirtual 98, 3) := by decide +kernel
theorem dX8_lasts_11 : decode cX8_lasts 11 = .ok (.istore_n 2, 1) := by decide +kernel
theorem dX8_lasts_12 : decode cX8_lasts 12 = .ok (.aload_n 0, 1) := by decide +kernel
theorem dX8_lasts_13 : decode cX8_lasts 13 = .ok (.getfield 19, 3) := by decide +kernel
theorem dX8_lasts_16 : decode cX8_lasts 16 = .ok (.iconst 3, 1) := by decide +kernel
theorem dX8_lasts_17 : decode cX8_lasts 17 = .ok (.iload_n 1, 1) := by decide +kernel
theorem dX8_lasts_18 : decode cX8_lasts 18 = .ok (.iadd, 1) := by decide +kernel
theorem dX8_lasts_19 : decode cX8_lasts 19 = .ok (.iaload, 1) := by decide +kernel
theorem dX8_lasts_20 : decode cX8_lasts 20 = .ok (.iload_n 2, 1) := by decide +kernel
theorem dX8_lasts_21 : decode cX8_lasts 21 = .ok (.iadd, 1) := by decide +kernel
theorem dX8_lasts_22 : decode cX8_lasts 22 = .ok (.iconst 1, 1) := by decide +kernel
theorem dX8_lasts_23 : decode cX8_lasts 23 = .ok (.isub, 1) := by decide +kernel
theorem dX8_lasts_24 : decode cX8_lasts 24 = .ok (.iload_n 2, 1) := by decide +kernel
theorem dX8_lasts_25 : decode cX8_lasts 25 = .ok (.idiv, 1) := by decide +kernel
theorem dX8_lasts_26 : decode cX8_lasts 26 = .ok (.ireturn, 1) := by decide +kernel
set_option maxRecDepth 20000 in
theorem ggX8_allLast_X8_lasts : GoodIn wsX8_allLast wsX8_lasts := goodIn_r _ [6, 7, 8, 9, 10, 5, 11, 1, 12, 13, 14, 15, 16, 17, 18, 19, 20, 21, 22, 23, 24, 25, 26, 27, 28, 29, 30] (by decide +kernel) (by decide +kernel)
set_option maxRecDepth 20000 in
theorem gX8_allLast_X8_lasts : GoodIn wsX8_allLast (wsV RX8 102 RX8 yX8_lasts wsX8_lasts) := goodIn_app (goodIn_of _ (by decide +kernel)) ggX8_allLast_X8_lasts
theorem dX8_allLast_0 : decode cX8_allLast 0 = .ok (.bipush (-9), 2) := by decide +kernel
theorem dX8_allLast_2 : decode cX8_allLast 2 = .ok (.istore_n 1, 1) := by decide +kernel
theorem dX8_allLast_3 : decode cX8_allLast 3 = .ok (.iconst 0, 1) := by decide +kernel
theorem dX8_allLast_4 : decode cX8_allLast 4 = .ok (.istore_n 2, 1) := by decide +kernel
theorem dX8_allLast_5 : decode cX8_allLast 5 = .ok (.iload_n 2, 1) := by decide +kernel
theorem dX8_allLast_6 : decode cX8_allLast 6 = .ok (.aload_n 0, 1) := by decide +kernel
theorem dX8_allLast_7 : decode cX8_allLast 7 = .ok (.getfield 13, 3) := by decide +kernel
theorem dX8_allLast_10 : decode cX8_allLast 10 = .ok (.iconst 0, 1) := by decide +kernel
theorem dX8_allLast_11 : decode cX8_allLast 11 = .ok (.iaload, 1) := by decide +kernel
theorem dX8_allLast_12 : decode cX8_allLast 12 = .ok (.if_icmp .ge 34, 3) := by decide +kernel
theorem dX8_allLast_15 : decode cX8_allLast 15 = .ok (.iload_n 1, 1) := by decide +kernel
theorem dX8_allLast_16 : decode cX8_allLast 16 = .ok (.bipush (-9), 2) := by decide +kernel
theorem dX8_allLast_18 : decode cX8_allLast 18 = .ok (.if_icmp .eq 12, 3) := by decide +kernel
theorem dX8_allLast_21 : decode cX8_allLast 21 = .ok (.aload_n 0, 1) := by decide +kernel
theorem dX8_allLast_22 : decode cX8_allLast 22 = .ok (.iload_n 2, 1) := by decide +kernel
theorem dX8_allLast_23 : decode cX8_allLast 23 = .ok (.invokevirtual 102, 3) := by decide +kernel
theorem dX8_allLast_26 : decode cX8_allLast 26 = .ok (.iload_n 1, 1) := by decide +kernel
theorem dX8_allLast_27 : decode cX8_allLast 27 = .ok (.if_icmp .ge 11, 3) := by decide +kernel
theorem dX8_allLast_30 : decode cX8_allLast 30 = .ok (.aload_n 0, 1) := by decide +kernel
theorem dX8_allLast_31 : decode cX8_allLast 31 = .ok (.iload_n 2, 1) := by decide +kernel
theorem dX8_allLast_32 : decode cX8_allLast 32 = .ok (.invokevirtual 102, 3) := by decide +kernel
theorem dX8_allLast_35 : decode cX8_allLast 35 = .ok (.goto 4, 3) := by decide +kernel
theorem dX8_allLast_38 : decode cX8_allLast 38 = .ok (.iload_n 1, 1) := by decide +kernel
theorem dX8_allLast_39 : decode cX8_allLast 39 = .ok (.istore_n 1, 1) := by decide +kernel
theorem dX8_allLast_40 : decode cX8_allLast 40 = .ok (.iinc 2 1, 3) := by decide +kernel
theorem dX8_allLast_43 : decode cX8_allLast 43 = .ok (.goto (-38), 3) := by decide +kernel
theorem dX8_allLast_46 : decode cX8_allLast 46 = .ok (.iload_n 1, 1) := by decide +kernel
theorem dX8_allLast_47 : decode cX8_allLast 47 = .ok (.ireturn, 1) := by decide +kernel
theorem dX8_soundOf_0 : decode cX8_soundOf 0 = .ok (.iload_n 2, 1) := by decide +kernel
theorem dX8_soundOf_1 : decode cX8_soundOf 1 = .ok (.ifCond .ne 7, 3) := by decide +kernel
theorem dX8_soundOf_4 : decode cX8_soundOf 4 = .ok (.iconst 0, 1) := by decide +kernel
theorem dX8_soundOf_5 : decode cX8_soundOf 5 = .ok (.goto 21, 3) := by decide +kernel
theorem dX8_soundOf_8 : decode cX8_soundOf 8 = .ok (.iload_n 2, 1) := by decide +kernel
theorem dX8_soundOf_9 : decode cX8_soundOf 9 = .ok (.aload_n 0, 1) := by decide +kernel
theorem dX8_soundOf_10 : decode cX8_soundOf 10 = .ok (.getfield 13, 3) := by decide +kernel
theorem dX8_soundOf_13 : decode cX8_soundOf 13 = .ok (.bipush 17, 2) := by decide +kernel
theorem dX8_soundOf_15 : decode cX8_soundOf 15 = .ok (.iload_n 1, 1) := by decide +kernel
theorem dX8_soundOf_16 : decode cX8_soundOf 16 = .ok (.iadd, 1) := by decide +kernel
theorem dX8_soundOf_17 : decode cX8_soundOf 17 = .ok (.iaload, 1) := by decide +kernel
theorem dX8_soundOf_18 : decode cX8_soundOf 18 = .ok (.if_icmp .lt 7, 3) := by decide +kernel
theorem dX8_soundOf_21 : decode cX8_soundOf 21 = .ok (.iconst 2, 1) := by decide +kernel
theorem dX8_soundOf_22 : decode cX8_soundOf 22 = .ok (.goto 4, 3) := by decide +kernel
theorem dX8_soundOf_25 : decode cX8_soundOf 25 = .ok (.iconst 1, 1) := by decide +kernel
theorem dX8_soundOf_26 : decode cX8_soundOf 26 = .ok (.ireturn, 1) := by decide +kernel
set_option maxRecDepth 20000 in
theorem ggX8_bottle_X8_isBottle : GoodIn wsX8_bottle wsX8_isBottle := goodIn_r _ [7, 2, 8, 9, 6, 10, 23, 24, 25, 26, 27, 28, 29, 30, 31, 32, 33, 34, 35, 36, 37, 38, 39, 40, 41] (by decide +kernel) (by decide +kernel)
set_option maxRecDepth 20000 in
theorem gX8_bottle_X8_isBottle : GoodIn wsX8_bottle (wsV RX8 105 RX8 yX8_isBottle wsX8_isBottle) := goodIn_app (goodIn_of _ (by decide +kernel)) ggX8_bottle_X8_isBottle
set_option maxRecDepth 20000 in
theorem ggX8_bottle_X8_soundOf : GoodIn wsX8_bottle wsX8_soundOf := goodIn_r _ [14, 2, 23, 24, 25, 26, 27, 28, 29, 30, 31, 32, 33, 34, 35, 36, 37, 38, 39, 40, 41] (by decide +kernel) (by decide +kernel)
set_option maxRecDepth 20000 in
theorem gX8_bottle_X8_soundOf : GoodIn wsX8_bottle (wsV RX8 108 RX8 yX8_soundOf wsX8_soundOf) := goodIn_app (goodIn_of _ (by decide +kernel)) ggX8_bottle_X8_soundOf
set_option maxRecDepth 20000 in
theorem ggX8_bottle_X8_lasts : GoodIn wsX8_bottle wsX8_lasts := goodIn_r _ [18, 1, 19, 20, 21, 6, 22, 2, 23, 24, 25, 26, 27, 28, 29, 30, 31, 32, 33, 34, 35, 36, 37, 38, 39, 40, 41] (by decide +kernel) (by decide +kernel)
set_option maxRecDepth 20000 in
theorem gX8_bottle_X8_lasts : GoodIn wsX8_bottle (wsV RX8 102 RX8 yX8_lasts wsX8_lasts) := goodIn_app (goodIn_of _ (by decide +kernel)) ggX8_bottle_X8_lasts
theorem dX8_bottle_0 : decode cX8_bottle 0 = .ok (.aload_n 0, 1) := by decide +kernel
theorem dX8_bottle_1 : decode cX8_bottle 1 = .ok (.iload_n 1, 1) := by decide +kernel
theorem dX8_bottle_2 : decode cX8_bottle 2 = .ok (.invokevirtual 105, 3) := by decide +kernel
theorem dX8_bottle_5 : decode cX8_bottle 5 = .ok (.ifCond .ne 5, 3) := by decide +kernel
theorem dX8_bottle_8 : decode cX8_bottle 8 = .ok (.iconst (-1), 1) := by decide +kernel
theorem dX8_bottle_9 : decode cX8_bottle 9 = .ok (.ireturn, 1) := by decide +kernel
theorem dX8_bottle_10 : decode cX8_bottle 10 = .ok (.iload_n 2, 1) := by decide +kernel
theorem dX8_bottle_11 : decode cX8_bottle 11 = .ok (.tableswitch 96 0 5 #[37, 46, 56, 66, 76, 90], 37) := by decide +kernel
theorem dX8_bottle_48 : decode cX8_bottle 48 = .ok (.aload_n 0, 1) := by decide +kernel
theorem dX8_bottle_49 : decode cX8_bottle 49 = .ok (.getfield 19, 3) := by decide +kernel
theorem dX8_bottle_52 : decode cX8_bottle 52 = .ok (.iconst 3, 1) := by decide +kernel
theorem dX8_bottle_53 : decode cX8_bottle 53 = .ok (.iload_n 1, 1) := by decide +kernel
theorem dX8_bottle_54 : decode cX8_bottle 54 = .ok (.iadd, 1) := by decide +kernel
theorem dX8_bottle_55 : decode cX8_bottle 55 = .ok (.iaload, 1) := by decide +kernel
theorem dX8_bottle_56 : decode cX8_bottle 56 = .ok (.ireturn, 1) := by decide +kernel
theorem dX8_bottle_57 : decode cX8_bottle 57 = .ok (.aload_n 0, 1) := by decide +kernel
theorem dX8_bottle_58 : decode cX8_bottle 58 = .ok (.getfield 13, 3) := by decide +kernel
theorem dX8_bottle_61 : decode cX8_bottle 61 = .ok (.bipush 11, 2) := by decide +kernel
theorem dX8_bottle_63 : decode cX8_bottle 63 = .ok (.iload_n 1, 1) := by decide +kernel
theorem dX8_bottle_64 : decode cX8_bottle 64 = .ok (.iadd, 1) := by decide +kernel
theorem dX8_bottle_65 : decode cX8_bottle 65 = .ok (.iaload, 1) := by decide +kernel
theorem dX8_bottle_66 : decode cX8_bottle 66 = .ok (.ireturn, 1) := by decide +kernel
theorem dX8_bottle_67 : decode cX8_bottle 67 = .ok (.aload_n 0, 1) := by decide +kernel
theorem dX8_bottle_68 : decode cX8_bottle 68 = .ok (.getfield 13, 3) := by decide +kernel
theorem dX8_bottle_71 : decode cX8_bottle 71 = .ok (.bipush 17, 2) := by decide +kernel
theorem dX8_bottle_73 : decode cX8_bottle 73 = .ok (.iload_n 1, 1) := by decide +kernel
theorem dX8_bottle_74 : decode cX8_bottle 74 = .ok (.iadd, 1) := by decide +kernel
theorem dX8_bottle_75 : decode cX8_bottle 75 = .ok (.iaload, 1) := by decide +kernel
theorem dX8_bottle_76 : decode cX8_bottle 76 = .ok (.ireturn, 1) := by decide +kernel
theorem dX8_bottle_77 : decode cX8_bottle 77 = .ok (.aload_n 0, 1) := by decide +kernel
theorem dX8_bottle_78 : decode cX8_bottle 78 = .ok (.getfield 19, 3) := by decide +kernel
theorem dX8_bottle_81 : decode cX8_bottle 81 = .ok (.bipush 9, 2) := by decide +kernel
theorem dX8_bottle_83 : decode cX8_bottle 83 = .ok (.iload_n 1, 1) := by decide +kernel
theorem dX8_bottle_84 : decode cX8_bottle 84 = .ok (.iadd, 1) := by decide +kernel
theorem dX8_bottle_85 : decode cX8_bottle 85 = .ok (.iaload, 1) := by decide +kernel
theorem dX8_bottle_86 : decode cX8_bottle 86 = .ok (.ireturn, 1) := by decide +kernel
theorem dX8_bottle_87 : decode cX8_bottle 87 = .ok (.aload_n 0, 1) := by decide +kernel
theorem dX8_bottle_88 : decode cX8_bottle 88 = .ok (.iload_n 1, 1) := by decide +kernel
theorem dX8_bottle_89 : decode cX8_bottle 89 = .ok (.aload_n 0, 1) := by decide +kernel
theorem dX8_bottle_90 : decode cX8_bottle 90 = .ok (.getfield 19, 3) := by decide +kernel
theorem dX8_bottle_93 : decode cX8_bottle 93 = .ok (.iconst 3, 1) := by decide +kernel
theorem dX8_bottle_94 : decode cX8_bottle 94 = .ok (.iload_n 1, 1) := by decide +kernel
theorem dX8_bottle_95 : decode cX8_bottle 95 = .ok (.iadd, 1) := by decide +kernel
theorem dX8_bottle_96 : decode cX8_bottle 96 = .ok (.iaload, 1) := by decide +kernel
theorem dX8_bottle_97 : decode cX8_bottle 97 = .ok (.invokevirtual 108, 3) := by decide +kernel
theorem dX8_bottle_100 : decode cX8_bottle 100 = .ok (.ireturn, 1) := by decide +kernel
theorem dX8_bottle_101 : decode cX8_bottle 101 = .ok (.aload_n 0, 1) := by decide +kernel
theorem dX8_bottle_102 : decode cX8_bottle 102 = .ok (.iload_n 1, 1) := by decide +kernel
theorem dX8_bottle_103 : decode cX8_bottle 103 = .ok (.invokevirtual 102, 3) := by decide +kernel
theorem dX8_bottle_106 : decode cX8_bottle 106 = .ok (.ireturn, 1) := by decide +kernel
theorem dX8_bottle_107 : decode cX8_bottle 107 = .ok (.iconst (-1), 1) := by decide +kernel
theorem dX8_bottle_108 : decode cX8_bottle 108 = .ok (.ireturn, 1) := by decide +kernel
theorem dX8_manyWarm_0 : decode cX8_manyWarm 0 = .ok (.iconst 0, 1) := by decide +kernel
theorem dX8_manyWarm_1 : decode cX8_manyWarm 1 = .ok (.istore_n 1, 1) := by decide +kernel
theorem dX8_manyWarm_2 : decode cX8_manyWarm 2 = .ok (.iconst 0, 1) := by decide +kernel
theorem dX8_manyWarm_3 : decode cX8_manyWarm 3 = .ok (.istore_n 2, 1) := by decide +kernel
theorem dX8_manyWarm_4 : decode cX8_manyWarm 4 = .ok (.iload_n 2, 1) := by decide +kernel
theorem dX8_manyWarm_5 : decode cX8_manyWarm 5 = .ok (.aload_n 0, 1) := by decide +kernel
theorem dX8_manyWarm_6 : decode cX8_manyWarm 6 = .ok (.getfield 13, 3) := by decide +kernel
theorem dX8_manyWarm_9 : decode cX8_manyWarm 9 = .ok (.iconst 0, 1) := by decide +kernel
theorem dX8_manyWarm_10 : decode cX8_manyWarm 10 = .ok (.iaload, 1) := by decide +kernel
theorem dX8_manyWarm_11 : decode cX8_manyWarm 11 = .ok (.if_icmp .ge 28, 3) := by decide +kernel
theorem dX8_manyWarm_14 : decode cX8_manyWarm 14 = .ok (.iload_n 1, 1) := by decide +kernel
theorem dX8_manyWarm_15 : decode cX8_manyWarm 15 = .ok (.aload_n 0, 1) := by decide +kernel
theorem dX8_manyWarm_16 : decode cX8_manyWarm 16 = .ok (.getfield 19, 3) := by decide +kernel
theorem dX8_manyWarm_19 : decode cX8_manyWarm 19 = .ok (.iconst 3, 1) := by decide +kernel
theorem dX8_manyWarm_20 : decode cX8_manyWarm 20 = .ok (.iload_n 2, 1) := by decide +kernel
theorem dX8_manyWarm_21 : decode cX8_manyWarm 21 = .ok (.iadd, 1) := by decide +kernel
theorem dX8_manyWarm_22 : decode cX8_manyWarm 22 = .ok (.iaload, 1) := by decide +kernel
theorem dX8_manyWarm_23 : decode cX8_manyWarm 23 = .ok (.ifCond .le 7, 3) := by decide +kernel
theorem dX8_manyWarm_26 : decode cX8_manyWarm 26 = .ok (.iconst 1, 1) := by decide +kernel
theorem dX8_manyWarm_27 : decode cX8_manyWarm 27 = .ok (.goto 4, 3) := by decide +kernel
theorem dX8_manyWarm_30 : decode cX8_manyWarm 30 = .ok (.iconst 0, 1) := by decide +kernel
theorem dX8_manyWarm_31 : decode cX8_manyWarm 31 = .ok (.iadd, 1) := by decide +kernel
theorem dX8_manyWarm_32 : decode cX8_manyWarm 32 = .ok (.istore_n 1, 1) := by decide +kernel
theorem dX8_manyWarm_33 : decode cX8_manyWarm 33 = .ok (.iinc 2 1, 3) := by decide +kernel
theorem dX8_manyWarm_36 : decode cX8_manyWarm 36 = .ok (.goto (-32), 3) := by decide +kernel
theorem dX8_manyWarm_39 : decode cX8_manyWarm 39 = .ok (.iload_n 1, 1) := by decide +kernel
theorem dX8_manyWarm_40 : decode cX8_manyWarm 40 = .ok (.ireturn, 1) := by decide +kernel
set_option maxRecDepth 20000 in
theorem ggX8_now_X8_allLast : GoodIn wsX8_now wsX8_allLast := goodIn_r _ [7, 8, 9, 10, 11, 6, 12, 1, 13, 14, 15, 16, 21, 22, 23, 24, 25, 26, 27, 28, 29, 30, 31, 32, 33, 34, 35, 36, 37, 38, 39] (by decide +kernel) (by decide +kernel)
set_option maxRecDepth 20000 in
theorem gX8_now_X8_allLast : GoodIn wsX8_now (wsV RX8 111 RX8 yX8_allLast wsX8_allLast) := goodIn_app (goodIn_of _ (by decide +kernel)) ggX8_now_X8_allLast
set_option maxRecDepth 20000 in
theorem ggX8_now_X8_manyWarm : GoodIn wsX8_now wsX8_manyWarm := goodIn_r _ [20, 8, 1, 21, 22, 23, 24, 25, 26, 27, 28, 29, 30, 31, 32, 33, 34, 35, 36, 37, 38, 39] (by decide +kernel) (by decide +kernel)
set_option maxRecDepth 20000 in
theorem gX8_now_X8_manyWarm : GoodIn wsX8_now (wsV RX8 115 RX8 yX8_manyWarm wsX8_manyWarm) := goodIn_app (goodIn_of _ (by decide +kernel)) ggX8_now_X8_manyWarm
theorem dX8_now_0 : decode cX8_now 0 = .ok (.iload_n 1, 1) := by decide +kernel
theorem dX8_now_1 : decode cX8_now 1 = .ok (.tableswitch 75 0 5 #[39, 46, 53, 60, 65, 70], 39) := by decide +kernel
theorem dX8_now_40 : decode cX8_now 40 = .ok (.aload_n 0, 1) := by decide +kernel
theorem dX8_now_41 : decode cX8_now 41 = .ok (.getfield 19, 3) := by decide +kernel
theorem dX8_now_44 : decode cX8_now 44 = .ok (.iconst 0, 1) := by decide +kernel
theorem dX8_now_45 : decode cX8_now 45 = .ok (.iaload, 1) := by decide +kernel
theorem dX8_now_46 : decode cX8_now 46 = .ok (.ireturn, 1) := by decide +kernel
theorem dX8_now_47 : decode cX8_now 47 = .ok (.aload_n 0, 1) := by decide +kernel
theorem dX8_now_48 : decode cX8_now 48 = .ok (.getfield 19, 3) := by decide +kernel
theorem dX8_now_51 : decode cX8_now 51 = .ok (.iconst 1, 1) := by decide +kernel
theorem dX8_now_52 : decode cX8_now 52 = .ok (.iaload, 1) := by decide +kernel
theorem dX8_now_53 : decode cX8_now 53 = .ok (.ireturn, 1) := by decide +kernel
theorem dX8_now_54 : decode cX8_now 54 = .ok (.aload_n 0, 1) := by decide +kernel
theorem dX8_now_55 : decode cX8_now 55 = .ok (.getfield 19, 3) := by decide +kernel
theorem dX8_now_58 : decode cX8_now 58 = .ok (.iconst 2, 1) := by decide +kernel
theorem dX8_now_59 : decode cX8_now 59 = .ok (.iaload, 1) := by decide +kernel
theorem dX8_now_60 : decode cX8_now 60 = .ok (.ireturn, 1) := by decide +kernel
theorem dX8_now_61 : decode cX8_now 61 = .ok (.aload_n 0, 1) := by decide +kernel
theorem dX8_now_62 : decode cX8_now 62 = .ok (.invokevirtual 111, 3) := by decide +kernel
theorem dX8_now_65 : decode cX8_now 65 = .ok (.ireturn, 1) := by decide +kernel
theorem dX8_now_66 : decode cX8_now 66 = .ok (.aload_n 0, 1) := by decide +kernel
theorem dX8_now_67 : decode cX8_now 67 = .ok (.invokevirtual 115, 3) := by decide +kernel
theorem dX8_now_70 : decode cX8_now 70 = .ok (.ireturn, 1) := by decide +kernel
theorem dX8_now_71 : decode cX8_now 71 = .ok (.aload_n 0, 1) := by decide +kernel
theorem dX8_now_72 : decode cX8_now 72 = .ok (.getfield 92, 3) := by decide +kernel
theorem dX8_now_75 : decode cX8_now 75 = .ok (.ireturn, 1) := by decide +kernel
theorem dX8_now_76 : decode cX8_now 76 = .ok (.iconst (-1), 1) := by decide +kernel
theorem dX8_now_77 : decode cX8_now 77 = .ok (.ireturn, 1) := by decide +kernel
theorem dX8_keeps_0 : decode cX8_keeps 0 = .ok (.aload_n 0, 1) := by decide +kernel
theorem dX8_keeps_1 : decode cX8_keeps 1 = .ok (.getfield 92, 3) := by decide +kernel
theorem dX8_keeps_4 : decode cX8_keeps 4 = .ok (.bipush 10, 2) := by decide +kernel
theorem dX8_keeps_6 : decode cX8_keeps 6 = .ok (.if_icmp .ne 43, 3) := by decide +kernel
theorem dX8_keeps_9 : decode cX8_keeps 9 = .ok (.iconst 0, 1) := by decide +kernel
theorem dX8_keeps_10 : decode cX8_keeps 10 = .ok (.istore_n 1, 1) := by decide +kernel
theorem dX8_keeps_11 : decode cX8_keeps 11 = .ok (.iload_n 1, 1) := by decide +kernel
theorem dX8_keeps_12 : decode cX8_keeps 12 = .ok (.sipush 135, 3) := by decide +kernel
theorem dX8_keeps_15 : decode cX8_keeps 15 = .ok (.if_icmp .ge 24, 3) := by decide +kernel
theorem dX8_keeps_18 : decode cX8_keeps 18 = .ok (.aload_n 0, 1) := by decide +kernel
theorem dX8_keeps_19 : decode cX8_keeps 19 = .ok (.getfield 22, 3) := by decide +kernel
theorem dX8_keeps_22 : decode cX8_keeps 22 = .ok (.iload_n 1, 1) := by decide +kernel
theorem dX8_keeps_23 : decode cX8_keeps 23 = .ok (.aload_n 0, 1) := by decide +kernel
theorem dX8_keeps_24 : decode cX8_keeps 24 = .ok (.getfield 22, 3) := by decide +kernel
theorem dX8_keeps_27 : decode cX8_keeps 27 = .ok (.iload_n 1, 1) := by decide +kernel
theorem dX8_keeps_28 : decode cX8_keeps 28 = .ok (.bipush 15, 2) := by decide +kernel
theorem dX8_keeps_30 : decode cX8_keeps 30 = .ok (.iadd, 1) := by decide +kernel
theorem dX8_keeps_31 : decode cX8_keeps 31 = .ok (.iaload, 1) := by decide +kernel
theorem dX8_keeps_32 : decode cX8_keeps 32 = .ok (.iastore, 1) := by decide +kernel
theorem dX8_keeps_33 : decode cX8_keeps 33 = .ok (.iinc 1 1, 3) := by decide +kernel
theorem dX8_keeps_36 : decode cX8_keeps 36 = .ok (.goto (-25), 3) := by decide +kernel
theorem dX8_keeps_39 : decode cX8_keeps 39 = .ok (.aload_n 0, 1) := by decide +kernel
theorem dX8_keeps_40 : decode cX8_keeps 40 = .ok (.dup, 1) := by decide +kernel
theorem dX8_keeps_41 : decode cX8_keeps 41 = .ok (.getfield 92, 3) := by decide +kernel
theorem dX8_keeps_44 : decode cX8_keeps 44 = .ok (.iconst 1, 1) := by decide +kernel
theorem dX8_keeps_45 : decode cX8_keeps 45 = .ok (.isub, 1) := by decide +kernel
theorem dX8_keeps_46 : decode cX8_keeps 46 = .ok (.putfield 92, 3) := by decide +kernel
theorem dX8_keeps_49 : decode cX8_keeps 49 = .ok (.iconst 0, 1) := by decide +kernel
theorem dX8_keeps_50 : decode cX8_keeps 50 = .ok (.istore_n 1, 1) := by decide +kernel
theorem dX8_keeps_51 : decode cX8_keeps 51 = .ok (.iload_n 1, 1) := by decide +kernel
theorem dX8_keeps_52 : decode cX8_keeps 52 = .ok (.bipush 15, 2) := by decide +kernel
theorem dX8_keeps_54 : decode cX8_keeps 54 = .ok (.if_icmp .ge 29, 3) := by decide +kernel
theorem dX8_keeps_57 : decode cX8_keeps 57 = .ok (.aload_n 0, 1) := by decide +kernel
theorem dX8_keeps_58 : decode cX8_keeps 58 = .ok (.getfield 22, 3) := by decide +kernel
theorem dX8_keeps_61 : decode cX8_keeps 61 = .ok (.bipush 15, 2) := by decide +kernel
theorem dX8_keeps_63 : decode cX8_keeps 63 = .ok (.aload_n 0, 1) := by decide +kernel
theorem dX8_keeps_64 : decode cX8_keeps 64 = .ok (.getfield 92, 3) := by decide +kernel
theorem dX8_keeps_67 : decode cX8_keeps 67 = .ok (.imul, 1) := by decide +kernel
theorem dX8_keeps_68 : decode cX8_keeps 68 = .ok (.iload_n 1, 1) := by decide +kernel
theorem dX8_keeps_69 : decode cX8_keeps 69 = .ok (.iadd, 1) := by decide +kernel
theorem dX8_keeps_70 : decode cX8_keeps 70 = .ok (.aload_n 0, 1) := by decide +kernel
theorem dX8_keeps_71 : decode cX8_keeps 71 = .ok (.getfield 19, 3) := by decide +kernel
theorem dX8_keeps_74 : decode cX8_keeps 74 = .ok (.iload_n 1, 1) := by decide +kernel
theorem dX8_keeps_75 : decode cX8_keeps 75 = .ok (.iaload, 1) := by decide +kernel
theorem dX8_keeps_76 : decode cX8_keeps 76 = .ok (.iastore, 1) := by decide +kernel
theorem dX8_keeps_77 : decode cX8_keeps 77 = .ok (.iinc 1 1, 3) := by decide +kernel
theorem dX8_keeps_80 : decode cX8_keeps 80 = .ok (.goto (-29), 3) := by decide +kernel
theorem dX8_keeps_83 : decode cX8_keeps 83 = .ok (.aload_n 0, 1) := by decide +kernel
theorem dX8_keeps_84 : decode cX8_keeps 84 = .ok (.dup, 1) := by decide +kernel
theorem dX8_keeps_85 : decode cX8_keeps 85 = .ok (.getfield 92, 3) := by decide +kernel
theorem dX8_keeps_88 : decode cX8_keeps 88 = .ok (.iconst 1, 1) := by decide +kernel
theorem dX8_keeps_89 : decode cX8_keeps 89 = .ok (.iadd, 1) := by decide +kernel
theorem dX8_keeps_90 : decode cX8_keeps 90 = .ok (.putfield 92, 3) := by decide +kernel
theorem dX8_keeps_93 : decode cX8_keeps 93 = .ok (.return_, 1) := by decide +kernel
set_option maxRecDepth 20000 in
theorem ggX8_passes_X8_cools : GoodIn wsX8_passes wsX8_cools := goodIn_r _ [7, 1, 2, 11, 12, 13, 14, 15, 16, 17, 18, 19, 20, 21, 22, 23, 24, 25, 26, 27, 28, 29] (by decide +kernel) (by decide +kernel)
set_option maxRecDepth 20000 in
theorem gX8_passes_X8_cools : GoodIn wsX8_passes (wsV RX8 98 RX8 yX8_cools wsX8_cools) := goodIn_app (goodIn_of _ (by decide +kernel)) ggX8_passes_X8_cools
set_option maxRecDepth 20000 in
theorem ggX8_passes_X8_less : GoodIn wsX8_passes wsX8_less := goodIn_r _ [10] (by decide +kernel) (by decide +kernel)
set_option maxRecDepth 20000 in
theorem gX8_passes_X8_less : GoodIn wsX8_passes (va_wsS RX8 118 yX8_less wsX8_less) := goodIn_app (goodIn_of _ (by decide +kernel)) ggX8_passes_X8_less
theorem dX8_passes_0 : decode cX8_passes 0 = .ok (.iconst 0, 1) := by decide +kernel
theorem dX8_passes_1 : decode cX8_passes 1 = .ok (.istore_n 1, 1) := by decide +kernel
theorem dX8_passes_2 : decode cX8_passes 2 = .ok (.iload_n 1, 1) := by decide +kernel
theorem dX8_passes_3 : decode cX8_passes 3 = .ok (.aload_n 0, 1) := by decide +kernel
theorem dX8_passes_4 : decode cX8_passes 4 = .ok (.getfield 13, 3) := by decide +kernel
theorem dX8_passes_7 : decode cX8_passes 7 = .ok (.iconst 0, 1) := by decide +kernel
theorem dX8_passes_8 : decode cX8_passes 8 = .ok (.iaload, 1) := by decide +kernel
theorem dX8_passes_9 : decode cX8_passes 9 = .ok (.if_icmp .ge 39, 3) := by decide +kernel
theorem dX8_passes_12 : decode cX8_passes 12 = .ok (.aload_n 0, 1) := by decide +kernel
theorem dX8_passes_13 : decode cX8_passes 13 = .ok (.getfield 19, 3) := by decide +kernel
theorem dX8_passes_16 : decode cX8_passes 16 = .ok (.iconst 3, 1) := by decide +kernel
theorem dX8_passes_17 : decode cX8_passes 17 = .ok (.iload_n 1, 1) := by decide +kernel
theorem dX8_passes_18 : decode cX8_passes 18 = .ok (.iadd, 1) := by decide +kernel
theorem dX8_passes_19 : decode cX8_passes 19 = .ok (.aload_n 0, 1) := by decide +kernel
theorem dX8_passes_20 : decode cX8_passes 20 = .ok (.getfield 19, 3) := by decide +kernel
theorem dX8_passes_23 : decode cX8_passes 23 = .ok (.iconst 3, 1) := by decide +kernel
theorem dX8_passes_24 : decode cX8_passes 24 = .ok (.iload_n 1, 1) := by decide +kernel
theorem dX8_passes_25 : decode cX8_passes 25 = .ok (.iadd, 1) := by decide +kernel
theorem dX8_passes_26 : decode cX8_passes 26 = .ok (.iaload, 1) := by decide +kernel
theorem dX8_passes_27 : decode cX8_passes 27 = .ok (.aload_n 0, 1) := by decide +kernel
theorem dX8_passes_28 : decode cX8_passes 28 = .ok (.iload_n 1, 1) := by decide +kernel
theorem dX8_passes_29 : decode cX8_passes 29 = .ok (.aload_n 0, 1) := by decide +kernel
theorem dX8_passes_30 : decode cX8_passes 30 = .ok (.getfield 19, 3) := by decide +kernel
theorem dX8_passes_33 : decode cX8_passes 33 = .ok (.iconst 1, 1) := by decide +kernel
theorem dX8_passes_34 : decode cX8_passes 34 = .ok (.iaload, 1) := by decide +kernel
theorem dX8_passes_35 : decode cX8_passes 35 = .ok (.invokevirtual 98, 3) := by decide +kernel
theorem dX8_passes_38 : decode cX8_passes 38 = .ok (.invokestatic 118, 3) := by decide +kernel
theorem dX8_passes_41 : decode cX8_passes 41 = .ok (.iastore, 1) := by decide +kernel
theorem dX8_passes_42 : decode cX8_passes 42 = .ok (.iinc 1 1, 3) := by decide +kernel
theorem dX8_passes_45 : decode cX8_passes 45 = .ok (.goto (-43), 3) := by decide +kernel
theorem dX8_passes_48 : decode cX8_passes 48 = .ok (.aload_n 0, 1) := by decide +kernel
theorem dX8_passes_49 : decode cX8_passes 49 = .ok (.getfield 19, 3) := by decide +kernel
theorem dX8_passes_52 : decode cX8_passes 52 = .ok (.iconst 0, 1) := by decide +kernel
theorem dX8_passes_53 : decode cX8_passes 53 = .ok (.dup2, 1) := by decide +kernel
theorem dX8_passes_54 : decode cX8_passes 54 = .ok (.iaload, 1) := by decide +kernel
theorem dX8_passes_55 : decode cX8_passes 55 = .ok (.iconst 1, 1) := by decide +kernel
theorem dX8_passes_56 : decode cX8_passes 56 = .ok (.iadd, 1) := by decide +kernel
theorem dX8_passes_57 : decode cX8_passes 57 = .ok (.iastore, 1) := by decide +kernel
theorem dX8_passes_58 : decode cX8_passes 58 = .ok (.return_, 1) := by decide +kernel
set_option maxRecDepth 20000 in
theorem ggX8_hour_X8_keeps : GoodIn wsX8_hour wsX8_keeps := goodIn_r _ [6, 7, 8, 1, 25, 26, 27, 28, 29, 30, 31, 32, 33, 34, 35, 36, 37, 38, 39, 40, 41, 42, 43] (by decide +kernel) (by decide +kernel)
set_option maxRecDepth 20000 in
theorem gX8_hour_X8_keeps : GoodIn wsX8_hour (wsV RX8 121 RX8 yX8_keeps wsX8_keeps) := goodIn_app (goodIn_of _ (by decide +kernel)) ggX8_hour_X8_keeps
set_option maxRecDepth 20000 in
theorem ggX8_hour_X8_passes : GoodIn wsX8_hour wsX8_passes := goodIn_r _ [12, 13, 1, 14, 15, 16, 5, 17, 18, 19, 20, 25, 26, 27, 28, 29, 30, 31, 32, 33, 34, 35, 36, 37, 38, 39, 40, 41, 42, 43] (by decide +kernel) (by decide +kernel)
set_option maxRecDepth 20000 in
theorem gX8_hour_X8_passes : GoodIn wsX8_hour (wsV RX8 124 RX8 yX8_passes wsX8_passes) := goodIn_app (goodIn_of _ (by decide +kernel)) ggX8_hour_X8_passes
set_option maxRecDepth 20000 in
theorem ggX8_hour_X8_manyWarm : GoodIn wsX8_hour wsX8_manyWarm := goodIn_r _ [24, 13, 1, 25, 26, 27, 28, 29, 30, 31, 32, 33, 34, 35, 36, 37, 38, 39, 40, 41, 42, 43] (by decide +kernel) (by decide +kernel)
set_option maxRecDepth 20000 in
theorem gX8_hour_X8_manyWarm : GoodIn wsX8_hour (wsV RX8 115 RX8 yX8_manyWarm wsX8_manyWarm) := goodIn_app (goodIn_of _ (by decide +kernel)) ggX8_hour_X8_manyWarm
theorem dX8_hour_0 : decode cX8_hour 0 = .ok (.aload_n 0, 1) := by decide +kernel
theorem dX8_hour_1 : decode cX8_hour 1 = .ok (.getfield 19, 3) := by decide +kernel
theorem dX8_hour_4 : decode cX8_hour 4 = .ok (.iconst 0, 1) := by decide +kernel
theorem dX8_hour_5 : decode cX8_hour 5 = .ok (.iaload, 1) := by decide +kernel
theorem dX8_hour_6 : decode cX8_hour 6 = .ok (.sipush 999, 3) := by decide +kernel
theorem dX8_hour_9 : decode cX8_hour 9 = .ok (.if_icmp .ne 6, 3) := by decide +kernel
theorem dX8_hour_12 : decode cX8_hour 12 = .ok (.bipush (-2), 2) := by decide +kernel
theorem dX8_hour_14 : decode cX8_hour 14 = .ok (.ireturn, 1) := by decide +kernel
theorem dX8_hour_15 : decode cX8_hour 15 = .ok (.aload_n 0, 1) := by decide +kernel
theorem dX8_hour_16 : decode cX8_hour 16 = .ok (.invokevirtual 121, 3) := by decide +kernel
theorem dX8_hour_19 : decode cX8_hour 19 = .ok (.aload_n 0, 1) := by decide +kernel
theorem dX8_hour_20 : decode cX8_hour 20 = .ok (.invokevirtual 124, 3) := by decide +kernel
theorem dX8_hour_23 : decode cX8_hour 23 = .ok (.aload_n 0, 1) := by decide +kernel
theorem dX8_hour_24 : decode cX8_hour 24 = .ok (.invokevirtual 115, 3) := by decide +kernel
theorem dX8_hour_27 : decode cX8_hour 27 = .ok (.ireturn, 1) := by decide +kernel
theorem dX8_filled_0 : decode cX8_filled 0 = .ok (.aload_n 0, 1) := by decide +kernel
theorem dX8_filled_1 : decode cX8_filled 1 = .ok (.getfield 19, 3) := by decide +kernel
theorem dX8_filled_4 : decode cX8_filled 4 = .ok (.iconst 3, 1) := by decide +kernel
theorem dX8_filled_5 : decode cX8_filled 5 = .ok (.iload_n 1, 1) := by decide +kernel
theorem dX8_filled_6 : decode cX8_filled 6 = .ok (.iadd, 1) := by decide +kernel
theorem dX8_filled_7 : decode cX8_filled 7 = .ok (.iaload, 1) := by decide +kernel
theorem dX8_filled_8 : decode cX8_filled 8 = .ok (.iload_n 2, 1) := by decide +kernel
theorem dX8_filled_9 : decode cX8_filled 9 = .ok (.aload_n 0, 1) := by decide +kernel
theorem dX8_filled_10 : decode cX8_filled 10 = .ok (.getfield 13, 3) := by decide +kernel
theorem dX8_filled_13 : decode cX8_filled 13 = .ok (.iconst 2, 1) := by decide +kernel
theorem dX8_filled_14 : decode cX8_filled 14 = .ok (.iaload, 1) := by decide +kernel
theorem dX8_filled_15 : decode cX8_filled 15 = .ok (.imul, 1) := by decide +kernel
theorem dX8_filled_16 : decode cX8_filled 16 = .ok (.iadd, 1) := by decide +kernel
theorem dX8_filled_17 : decode cX8_filled 17 = .ok (.istore_n 3, 1) := by decide +kernel
theorem dX8_filled_18 : decode cX8_filled 18 = .ok (.iload_n 3, 1) := by decide +kernel
theorem dX8_filled_19 : decode cX8_filled 19 = .ok (.bipush 99, 2) := by decide +kernel
theorem dX8_filled_21 : decode cX8_filled 21 = .ok (.if_icmp .le 8, 3) := by decide +kernel
theorem dX8_filled_24 : decode cX8_filled 24 = .ok (.bipush 99, 2) := by decide +kernel
theorem dX8_filled_26 : decode cX8_filled 26 = .ok (.goto 4, 3) := by decide +kernel
theorem dX8_filled_29 : decode cX8_filled 29 = .ok (.iload_n 3, 1) := by decide +kernel
theorem dX8_filled_30 : decode cX8_filled 30 = .ok (.ireturn, 1) := by decide +kernel
set_option maxRecDepth 20000 in
theorem ggX8_fills_X8_isBottle : GoodIn wsX8_fills wsX8_isBottle := goodIn_r _ [6, 7, 8, 9, 5, 10, 21, 22, 23, 24, 25, 26, 27, 28, 29, 30, 31, 32, 33, 34, 35, 36, 37, 38, 39] (by decide +kernel) (by decide +kernel)
set_option maxRecDepth 20000 in
theorem gX8_fills_X8_isBottle : GoodIn wsX8_fills (wsV RX8 105 RX8 yX8_isBottle wsX8_isBottle) := goodIn_app (goodIn_of _ (by decide +kernel)) ggX8_fills_X8_isBottle
set_option maxRecDepth 20000 in
theorem ggX8_fills_X8_in : GoodIn wsX8_fills wsX8_in := goodIn_r _ [10] (by decide +kernel) (by decide +kernel)
set_option maxRecDepth 20000 in
theorem gX8_fills_X8_in : GoodIn wsX8_fills (va_wsS RX8 51 yX8_in wsX8_in) := goodIn_app (goodIn_of _ (by decide +kernel)) ggX8_fills_X8_in
set_option maxRecDepth 20000 in
theorem ggX8_fills_X8_keeps : GoodIn wsX8_fills wsX8_keeps := goodIn_r _ [14, 15, 16, 1, 21, 22, 23, 24, 25, 26, 27, 28, 29, 30, 31, 32, 33, 34, 35, 36, 37, 38, 39] (by decide +kernel) (by decide +kernel)
set_option maxRecDepth 20000 in
theorem gX8_fills_X8_keeps : GoodIn wsX8_fills (wsV RX8 121 RX8 yX8_keeps wsX8_keeps) := goodIn_app (goodIn_of _ (by decide +kernel)) ggX8_fills_X8_keeps
set_option maxRecDepth 20000 in
theorem ggX8_fills_X8_filled : GoodIn wsX8_fills wsX8_filled := goodIn_r _ [20, 1, 7, 21, 22, 23, 24, 25, 26, 27, 28, 29, 30, 31, 32, 33, 34, 35, 36, 37, 38, 39] (by decide +kernel) (by decide +kernel)
set_option maxRecDepth 20000 in
theorem gX8_fills_X8_filled : GoodIn wsX8_fills (wsV RX8 127 RX8 yX8_filled wsX8_filled) := goodIn_app (goodIn_of _ (by decide +kernel)) ggX8_fills_X8_filled
theorem dX8_fills_0 : decode cX8_fills 0 = .ok (.aload_n 0, 1) := by decide +kernel
theorem dX8_fills_1 : decode cX8_fills 1 = .ok (.iload_n 1, 1) := by decide +kernel
theorem dX8_fills_2 : decode cX8_fills 2 = .ok (.invokevirtual 105, 3) := by decide +kernel
theorem dX8_fills_5 : decode cX8_fills 5 = .ok (.ifCond .eq 13, 3) := by decide +kernel
theorem dX8_fills_8 : decode cX8_fills 8 = .ok (.iload_n 2, 1) := by decide +kernel
theorem dX8_fills_9 : decode cX8_fills 9 = .ok (.iconst 1, 1) := by decide +kernel
theorem dX8_fills_10 : decode cX8_fills 10 = .ok (.bipush 9, 2) := by decide +kernel
theorem dX8_fills_12 : decode cX8_fills 12 = .ok (.invokestatic 51, 3) := by decide +kernel
theorem dX8_fills_15 : decode cX8_fills 15 = .ok (.ifCond .ne 5, 3) := by decide +kernel
theorem dX8_fills_18 : decode cX8_fills 18 = .ok (.iconst (-1), 1) := by decide +kernel
theorem dX8_fills_19 : decode cX8_fills 19 = .ok (.ireturn, 1) := by decide +kernel
theorem dX8_fills_20 : decode cX8_fills 20 = .ok (.aload_n 0, 1) := by decide +kernel
theorem dX8_fills_21 : decode cX8_fills 21 = .ok (.getfield 19, 3) := by decide +kernel
theorem dX8_fills_24 : decode cX8_fills 24 = .ok (.iconst 2, 1) := by decide +kernel
theorem dX8_fills_25 : decode cX8_fills 25 = .ok (.iaload, 1) := by decide +kernel
theorem dX8_fills_26 : decode cX8_fills 26 = .ok (.iload_n 2, 1) := by decide +kernel
theorem dX8_fills_27 : decode cX8_fills 27 = .ok (.if_icmp .ge 6, 3) := by decide +kernel
theorem dX8_fills_30 : decode cX8_fills 30 = .ok (.bipush (-2), 2) := by decide +kernel
theorem dX8_fills_32 : decode cX8_fills 32 = .ok (.ireturn, 1) := by decide +kernel
theorem dX8_fills_33 : decode cX8_fills 33 = .ok (.aload_n 0, 1) := by decide +kernel
theorem dX8_fills_34 : decode cX8_fills 34 = .ok (.invokevirtual 121, 3) := by decide +kernel
theorem dX8_fills_37 : decode cX8_fills 37 = .ok (.aload_n 0, 1) := by decide +kernel
theorem dX8_fills_38 : decode cX8_fills 38 = .ok (.getfield 19, 3) := by decide +kernel
theorem dX8_fills_41 : decode cX8_fills 41 = .ok (.iconst 3, 1) := by decide +kernel
theorem dX8_fills_42 : decode cX8_fills 42 = .ok (.iload_n 1, 1) := by decide +kernel
theorem dX8_fills_43 : decode cX8_fills 43 = .ok (.iadd, 1) := by decide +kernel
theorem dX8_fills_44 : decode cX8_fills 44 = .ok (.aload_n 0, 1) := by decide +kernel
theorem dX8_fills_45 : decode cX8_fills 45 = .ok (.iload_n 1, 1) := by decide +kernel
theorem dX8_fills_46 : decode cX8_fills 46 = .ok (.iload_n 2, 1) := by decide +kernel
theorem dX8_fills_47 : decode cX8_fills 47 = .ok (.invokevirtual 127, 3) := by decide +kernel
theorem dX8_fills_50 : decode cX8_fills 50 = .ok (.iastore, 1) := by decide +kernel
theorem dX8_fills_51 : decode cX8_fills 51 = .ok (.aload_n 0, 1) := by decide +kernel
theorem dX8_fills_52 : decode cX8_fills 52 = .ok (.getfield 19, 3) := by decide +kernel
theorem dX8_fills_55 : decode cX8_fills 55 = .ok (.iconst 2, 1) := by decide +kernel
theorem dX8_fills_56 : decode cX8_fills 56 = .ok (.dup2, 1) := by decide +kernel
theorem dX8_fills_57 : decode cX8_fills 57 = .ok (.iaload, 1) := by decide +kernel
theorem dX8_fills_58 : decode cX8_fills 58 = .ok (.iload_n 2, 1) := by decide +kernel
theorem dX8_fills_59 : decode cX8_fills 59 = .ok (.isub, 1) := by decide +kernel
theorem dX8_fills_60 : decode cX8_fills 60 = .ok (.iastore, 1) := by decide +kernel
theorem dX8_fills_61 : decode cX8_fills 61 = .ok (.aload_n 0, 1) := by decide +kernel
theorem dX8_fills_62 : decode cX8_fills 62 = .ok (.getfield 19, 3) := by decide +kernel
theorem dX8_fills_65 : decode cX8_fills 65 = .ok (.iconst 3, 1) := by decide +kernel
theorem dX8_fills_66 : decode cX8_fills 66 = .ok (.iload_n 1, 1) := by decide +kernel
theorem dX8_fills_67 : decode cX8_fills 67 = .ok (.iadd, 1) := by decide +kernel
theorem dX8_fills_68 : decode cX8_fills 68 = .ok (.iaload, 1) := by decide +kernel
theorem dX8_fills_69 : decode cX8_fills 69 = .ok (.ireturn, 1) := by decide +kernel
set_option maxRecDepth 20000 in
theorem ggX8_lays_X8_isBottle : GoodIn wsX8_lays wsX8_isBottle := goodIn_r _ [6, 7, 8, 9, 5, 10, 17, 18, 19, 20, 21, 22, 23, 24, 25, 26, 27, 28, 29, 30, 31, 32, 33, 34, 35] (by decide +kernel) (by decide +kernel)
set_option maxRecDepth 20000 in
theorem gX8_lays_X8_isBottle : GoodIn wsX8_lays (wsV RX8 105 RX8 yX8_isBottle wsX8_isBottle) := goodIn_app (goodIn_of _ (by decide +kernel)) ggX8_lays_X8_isBottle
set_option maxRecDepth 20000 in
theorem ggX8_lays_X8_keeps : GoodIn wsX8_lays wsX8_keeps := goodIn_r _ [14, 15, 16, 1, 17, 18, 19, 20, 21, 22, 23, 24, 25, 26, 27, 28, 29, 30, 31, 32, 33, 34, 35] (by decide +kernel) (by decide +kernel)
set_option maxRecDepth 20000 in
theorem gX8_lays_X8_keeps : GoodIn wsX8_lays (wsV RX8 121 RX8 yX8_keeps wsX8_keeps) := goodIn_app (goodIn_of _ (by decide +kernel)) ggX8_lays_X8_keeps
theorem dX8_lays_0 : decode cX8_lays 0 = .ok (.aload_n 0, 1) := by decide +kernel
theorem dX8_lays_1 : decode cX8_lays 1 = .ok (.iload_n 1, 1) := by decide +kernel
theorem dX8_lays_2 : decode cX8_lays 2 = .ok (.invokevirtual 105, 3) := by decide +kernel
theorem dX8_lays_5 : decode cX8_lays 5 = .ok (.ifCond .eq 11, 3) := by decide +kernel
theorem dX8_lays_8 : decode cX8_lays 8 = .ok (.aload_n 0, 1) := by decide +kernel
theorem dX8_lays_9 : decode cX8_lays 9 = .ok (.iload_n 2, 1) := by decide +kernel
theorem dX8_lays_10 : decode cX8_lays 10 = .ok (.invokevirtual 105, 3) := by decide +kernel
theorem dX8_lays_13 : decode cX8_lays 13 = .ok (.ifCond .ne 5, 3) := by decide +kernel
theorem dX8_lays_16 : decode cX8_lays 16 = .ok (.iconst (-1), 1) := by decide +kernel
theorem dX8_lays_17 : decode cX8_lays 17 = .ok (.ireturn, 1) := by decide +kernel
theorem dX8_lays_18 : decode cX8_lays 18 = .ok (.aload_n 0, 1) := by decide +kernel
theorem dX8_lays_19 : decode cX8_lays 19 = .ok (.getfield 19, 3) := by decide +kernel
theorem dX8_lays_22 : decode cX8_lays 22 = .ok (.bipush 9, 2) := by decide +kernel
theorem dX8_lays_24 : decode cX8_lays 24 = .ok (.iload_n 1, 1) := by decide +kernel
theorem dX8_lays_25 : decode cX8_lays 25 = .ok (.iadd, 1) := by decide +kernel
theorem dX8_lays_26 : decode cX8_lays 26 = .ok (.iaload, 1) := by decide +kernel
theorem dX8_lays_27 : decode cX8_lays 27 = .ok (.iload_n 2, 1) := by decide +kernel
theorem dX8_lays_28 : decode cX8_lays 28 = .ok (.if_icmp .ne 6, 3) := by decide +kernel
theorem dX8_lays_31 : decode cX8_lays 31 = .ok (.bipush (-2), 2) := by decide +kernel
theorem dX8_lays_33 : decode cX8_lays 33 = .ok (.ireturn, 1) := by decide +kernel
theorem dX8_lays_34 : decode cX8_lays 34 = .ok (.aload_n 0, 1) := by decide +kernel
theorem dX8_lays_35 : decode cX8_lays 35 = .ok (.invokevirtual 121, 3) := by decide +kernel
theorem dX8_lays_38 : decode cX8_lays 38 = .ok (.aload_n 0, 1) := by decide +kernel
theorem dX8_lays_39 : decode cX8_lays 39 = .ok (.getfield 19, 3) := by decide +kernel
theorem dX8_lays_42 : decode cX8_lays 42 = .ok (.bipush 9, 2) := by decide +kernel
theorem dX8_lays_44 : decode cX8_lays 44 = .ok (.iload_n 1, 1) := by decide +kernel
theorem dX8_lays_45 : decode cX8_lays 45 = .ok (.iadd, 1) := by decide +kernel
theorem dX8_lays_46 : decode cX8_lays 46 = .ok (.iaload, 1) := by decide +kernel
theorem dX8_lays_47 : decode cX8_lays 47 = .ok (.istore_n 3, 1) := by decide +kernel
theorem dX8_lays_48 : decode cX8_lays 48 = .ok (.aload_n 0, 1) := by decide +kernel
theorem dX8_lays_49 : decode cX8_lays 49 = .ok (.getfield 19, 3) := by decide +kernel
theorem dX8_lays_52 : decode cX8_lays 52 = .ok (.bipush 9, 2) := by decide +kernel
theorem dX8_lays_54 : decode cX8_lays 54 = .ok (.iload_n 1, 1) := by decide +kernel
theorem dX8_lays_55 : decode cX8_lays 55 = .ok (.iadd, 1) := by decide +kernel
theorem dX8_lays_56 : decode cX8_lays 56 = .ok (.iload_n 2, 1) := by decide +kernel
theorem dX8_lays_57 : decode cX8_lays 57 = .ok (.iastore, 1) := by decide +kernel
theorem dX8_lays_58 : decode cX8_lays 58 = .ok (.iload_n 3, 1) := by decide +kernel
theorem dX8_lays_59 : decode cX8_lays 59 = .ok (.ireturn, 1) := by decide +kernel
set_option maxRecDepth 20000 in
theorem ggX8_spills_X8_isBottle : GoodIn wsX8_spills wsX8_isBottle := goodIn_r _ [6, 7, 8, 9, 5, 10, 17, 18, 19, 20, 21, 22, 23, 24, 25, 26, 27, 28, 29, 30, 31, 32, 33, 34, 35] (by decide +kernel) (by decide +kernel)
set_option maxRecDepth 20000 in
theorem gX8_spills_X8_isBottle : GoodIn wsX8_spills (wsV RX8 105 RX8 yX8_isBottle wsX8_isBottle) := goodIn_app (goodIn_of _ (by decide +kernel)) ggX8_spills_X8_isBottle
set_option maxRecDepth 20000 in
theorem ggX8_spills_X8_keeps : GoodIn wsX8_spills wsX8_keeps := goodIn_r _ [14, 15, 16, 1, 17, 18, 19, 20, 21, 22, 23, 24, 25, 26, 27, 28, 29, 30, 31, 32, 33, 34, 35] (by decide +kernel) (by decide +kernel)
set_option maxRecDepth 20000 in
theorem gX8_spills_X8_keeps : GoodIn wsX8_spills (wsV RX8 121 RX8 yX8_keeps wsX8_keeps) := goodIn_app (goodIn_of _ (by decide +kernel)) ggX8_spills_X8_keeps
theorem dX8_spills_0 : decode cX8_spills 0 = .ok (.aload_n 0, 1) := by decide +kernel
theorem dX8_spills_1 : decode cX8_spills 1 = .ok (.iload_n 1, 1) := by decide +kernel
theorem dX8_spills_2 : decode cX8_spills 2 = .ok (.invokevirtual 105, 3) := by decide +kernel
theorem dX8_spills_5 : decode cX8_spills 5 = .ok (.ifCond .ne 5, 3) := by decide +kernel
theorem dX8_spills_8 : decode cX8_spills 8 = .ok (.iconst (-1), 1) := by decide +kernel
theorem dX8_spills_9 : decode cX8_spills 9 = .ok (.ireturn, 1) := by decide +kernel
theorem dX8_spills_10 : decode cX8_spills 10 = .ok (.aload_n 0, 1) := by decide +kernel
theorem dX8_spills_11 : decode cX8_spills 11 = .ok (.getfield 19, 3) := by decide +kernel
theorem dX8_spills_14 : decode cX8_spills 14 = .ok (.iconst 3, 1) := by decide +kernel
theorem dX8_spills_15 : decode cX8_spills 15 = .ok (.iload_n 1, 1) := by decide +kernel
theorem dX8_spills_16 : decode cX8_spills 16 = .ok (.iadd, 1) := by decide +kernel
theorem dX8_spills_17 : decode cX8_spills 17 = .ok (.iaload, 1) := by decide +kernel
theorem dX8_spills_18 : decode cX8_spills 18 = .ok (.ifCond .ne 6, 3) := by decide +kernel
theorem dX8_spills_21 : decode cX8_spills 21 = .ok (.bipush (-2), 2) := by decide +kernel
theorem dX8_spills_23 : decode cX8_spills 23 = .ok (.ireturn, 1) := by decide +kernel
theorem dX8_spills_24 : decode cX8_spills 24 = .ok (.aload_n 0, 1) := by decide +kernel
theorem dX8_spills_25 : decode cX8_spills 25 = .ok (.invokevirtual 121, 3) := by decide +kernel
theorem dX8_spills_28 : decode cX8_spills 28 = .ok (.aload_n 0, 1) := by decide +kernel
theorem dX8_spills_29 : decode cX8_spills 29 = .ok (.getfield 19, 3) := by decide +kernel
theorem dX8_spills_32 : decode cX8_spills 32 = .ok (.iconst 3, 1) := by decide +kernel
theorem dX8_spills_33 : decode cX8_spills 33 = .ok (.iload_n 1, 1) := by decide +kernel
theorem dX8_spills_34 : decode cX8_spills 34 = .ok (.iadd, 1) := by decide +kernel
theorem dX8_spills_35 : decode cX8_spills 35 = .ok (.iaload, 1) := by decide +kernel
theorem dX8_spills_36 : decode cX8_spills 36 = .ok (.istore_n 2, 1) := by decide +kernel
theorem dX8_spills_37 : decode cX8_spills 37 = .ok (.aload_n 0, 1) := by decide +kernel
theorem dX8_spills_38 : decode cX8_spills 38 = .ok (.getfield 19, 3) := by decide +kernel
theorem dX8_spills_41 : decode cX8_spills 41 = .ok (.iconst 3, 1) := by decide +kernel
theorem dX8_spills_42 : decode cX8_spills 42 = .ok (.iload_n 1, 1) := by decide +kernel
theorem dX8_spills_43 : decode cX8_spills 43 = .ok (.iadd, 1) := by decide +kernel
theorem dX8_spills_44 : decode cX8_spills 44 = .ok (.iconst 0, 1) := by decide +kernel
theorem dX8_spills_45 : decode cX8_spills 45 = .ok (.iastore, 1) := by decide +kernel
theorem dX8_spills_46 : decode cX8_spills 46 = .ok (.iload_n 2, 1) := by decide +kernel
theorem dX8_spills_47 : decode cX8_spills 47 = .ok (.ireturn, 1) := by decide +kernel
set_option maxRecDepth 20000 in
theorem ggX8_frosts_X8_in : GoodIn wsX8_frosts wsX8_in := goodIn_r _ [5] (by decide +kernel) (by decide +kernel)
set_option maxRecDepth 20000 in
theorem gX8_frosts_X8_in : GoodIn wsX8_frosts (va_wsS RX8 51 yX8_in wsX8_in) := goodIn_app (goodIn_of _ (by decide +kernel)) ggX8_frosts_X8_in
set_option maxRecDepth 20000 in
theorem ggX8_frosts_X8_keeps : GoodIn wsX8_frosts wsX8_keeps := goodIn_r _ [9, 10, 11, 1, 12, 13, 14, 15, 16, 17, 18, 19, 20, 21, 22, 23, 24, 25, 26, 27, 28, 29, 30] (by decide +kernel) (by decide +kernel)
set_option maxRecDepth 20000 in
theorem gX8_frosts_X8_keeps : GoodIn wsX8_frosts (wsV RX8 121 RX8 yX8_keeps wsX8_keeps) := goodIn_app (goodIn_of _ (by decide +kernel)) ggX8_frosts_X8_keeps
theorem dX8_frosts_0 : decode cX8_frosts 0 = .ok (.iload_n 1, 1) := by decide +kernel
theorem dX8_frosts_1 : decode cX8_frosts 1 = .ok (.iconst 0, 1) := by decide +kernel
theorem dX8_frosts_2 : decode cX8_frosts 2 = .ok (.bipush 9, 2) := by decide +kernel
theorem dX8_frosts_4 : decode cX8_frosts 4 = .ok (.invokestatic 51, 3) := by decide +kernel
theorem dX8_frosts_7 : decode cX8_frosts 7 = .ok (.ifCond .ne 5, 3) := by decide +kernel
theorem dX8_frosts_10 : decode cX8_frosts 10 = .ok (.iconst (-1), 1) := by decide +kernel
theorem dX8_frosts_11 : decode cX8_frosts 11 = .ok (.ireturn, 1) := by decide +kernel
theorem dX8_frosts_12 : decode cX8_frosts 12 = .ok (.aload_n 0, 1) := by decide +kernel
theorem dX8_frosts_13 : decode cX8_frosts 13 = .ok (.getfield 19, 3) := by decide +kernel
theorem dX8_frosts_16 : decode cX8_frosts 16 = .ok (.iconst 1, 1) := by decide +kernel
theorem dX8_frosts_17 : decode cX8_frosts 17 = .ok (.iaload, 1) := by decide +kernel
theorem dX8_frosts_18 : decode cX8_frosts 18 = .ok (.iload_n 1, 1) := by decide +kernel
theorem dX8_frosts_19 : decode cX8_frosts 19 = .ok (.if_icmp .ne 6, 3) := by decide +kernel
theorem dX8_frosts_22 : decode cX8_frosts 22 = .ok (.bipush (-2), 2) := by decide +kernel
theorem dX8_frosts_24 : decode cX8_frosts 24 = .ok (.ireturn, 1) := by decide +kernel
theorem dX8_frosts_25 : decode cX8_frosts 25 = .ok (.aload_n 0, 1) := by decide +kernel
theorem dX8_frosts_26 : decode cX8_frosts 26 = .ok (.invokevirtual 121, 3) := by decide +kernel
theorem dX8_frosts_29 : decode cX8_frosts 29 = .ok (.aload_n 0, 1) := by decide +kernel
theorem dX8_frosts_30 : decode cX8_frosts 30 = .ok (.getfield 19, 3) := by decide +kernel
theorem dX8_frosts_33 : decode cX8_frosts 33 = .ok (.iconst 1, 1) := by decide +kernel
theorem dX8_frosts_34 : decode cX8_frosts 34 = .ok (.iaload, 1) := by decide +kernel
theorem dX8_frosts_35 : decode cX8_frosts 35 = .ok (.istore_n 2, 1) := by decide +kernel
theorem dX8_frosts_36 : decode cX8_frosts 36 = .ok (.aload_n 0, 1) := by decide +kernel
theorem dX8_frosts_37 : decode cX8_frosts 37 = .ok (.getfield 19, 3) := by decide +kernel
theorem dX8_frosts_40 : decode cX8_frosts 40 = .ok (.iconst 1, 1) := by decide +kernel
theorem dX8_frosts_41 : decode cX8_frosts 41 = .ok (.iload_n 1, 1) := by decide +kernel
theorem dX8_frosts_42 : decode cX8_frosts 42 = .ok (.iastore, 1) := by decide +kernel
theorem dX8_frosts_43 : decode cX8_frosts 43 = .ok (.iload_n 2, 1) := by decide +kernel
theorem dX8_frosts_44 : decode cX8_frosts 44 = .ok (.ireturn, 1) := by decide +kernel
set_option maxRecDepth 20000 in
theorem ggX8_boils_X8_keeps : GoodIn wsX8_boils wsX8_keeps := goodIn_r _ [7, 8, 9, 1, 10, 11, 12, 13, 14, 15, 16, 17, 18, 19, 20, 21, 22, 23, 24, 25, 26, 27, 28] (by decide +kernel) (by decide +kernel)
set_option maxRecDepth 20000 in
theorem gX8_boils_X8_keeps : GoodIn wsX8_boils (wsV RX8 121 RX8 yX8_keeps wsX8_keeps) := goodIn_app (goodIn_of _ (by decide +kernel)) ggX8_boils_X8_keeps
theorem dX8_boils_0 : decode cX8_boils 0 = .ok (.aload_n 0, 1) := by decide +kernel
theorem dX8_boils_1 : decode cX8_boils 1 = .ok (.getfield 19, 3) := by decide +kernel
theorem dX8_boils_4 : decode cX8_boils 4 = .ok (.iconst 2, 1) := by decide +kernel
theorem dX8_boils_5 : decode cX8_boils 5 = .ok (.iaload, 1) := by decide +kernel
theorem dX8_boils_6 : decode cX8_boils 6 = .ok (.aload_n 0, 1) := by decide +kernel
theorem dX8_boils_7 : decode cX8_boils 7 = .ok (.getfield 13, 3) := by decide +kernel
theorem dX8_boils_10 : decode cX8_boils 10 = .ok (.iconst 1, 1) := by decide +kernel
theorem dX8_boils_11 : decode cX8_boils 11 = .ok (.iaload, 1) := by decide +kernel
theorem dX8_boils_12 : decode cX8_boils 12 = .ok (.if_icmp .ne 6, 3) := by decide +kernel
theorem dX8_boils_15 : decode cX8_boils 15 = .ok (.bipush (-2), 2) := by decide +kernel
theorem dX8_boils_17 : decode cX8_boils 17 = .ok (.ireturn, 1) := by decide +kernel
theorem dX8_boils_18 : decode cX8_boils 18 = .ok (.aload_n 0, 1) := by decide +kernel
theorem dX8_boils_19 : decode cX8_boils 19 = .ok (.invokevirtual 121, 3) := by decide +kernel
theorem dX8_boils_22 : decode cX8_boils 22 = .ok (.aload_n 0, 1) := by decide +kernel
theorem dX8_boils_23 : decode cX8_boils 23 = .ok (.getfield 19, 3) := by decide +kernel
theorem dX8_boils_26 : decode cX8_boils 26 = .ok (.iconst 2, 1) := by decide +kernel
theorem dX8_boils_27 : decode cX8_boils 27 = .ok (.iaload, 1) := by decide +kernel
theorem dX8_boils_28 : decode cX8_boils 28 = .ok (.istore_n 1, 1) := by decide +kernel
theorem dX8_boils_29 : decode cX8_boils 29 = .ok (.aload_n 0, 1) := by decide +kernel
theorem dX8_boils_30 : decode cX8_boils 30 = .ok (.getfield 19, 3) := by decide +kernel
theorem dX8_boils_33 : decode cX8_boils 33 = .ok (.iconst 2, 1) := by decide +kernel
theorem dX8_boils_34 : decode cX8_boils 34 = .ok (.aload_n 0, 1) := by decide +kernel
theorem dX8_boils_35 : decode cX8_boils 35 = .ok (.getfield 13, 3) := by decide +kernel
theorem dX8_boils_38 : decode cX8_boils 38 = .ok (.iconst 1, 1) := by decide +kernel
theorem dX8_boils_39 : decode cX8_boils 39 = .ok (.iaload, 1) := by decide +kernel
theorem dX8_boils_40 : decode cX8_boils 40 = .ok (.iastore, 1) := by decide +kernel
theorem dX8_boils_41 : decode cX8_boils 41 = .ok (.iload_n 1, 1) := by decide +kernel
theorem dX8_boils_42 : decode cX8_boils 42 = .ok (.ireturn, 1) := by decide +kernel
theorem dX8_undo_0 : decode cX8_undo 0 = .ok (.aload_n 0, 1) := by decide +kernel
theorem dX8_undo_1 : decode cX8_undo 1 = .ok (.getfield 92, 3) := by decide +kernel
theorem dX8_undo_4 : decode cX8_undo 4 = .ok (.ifCond .ne 6, 3) := by decide +kernel
theorem dX8_undo_7 : decode cX8_undo 7 = .ok (.bipush (-2), 2) := by decide +kernel
theorem dX8_undo_9 : decode cX8_undo 9 = .ok (.ireturn, 1) := by decide +kernel
theorem dX8_undo_10 : decode cX8_undo 10 = .ok (.aload_n 0, 1) := by decide +kernel
theorem dX8_undo_11 : decode cX8_undo 11 = .ok (.dup, 1) := by decide +kernel
theorem dX8_undo_12 : decode cX8_undo 12 = .ok (.getfield 92, 3) := by decide +kernel
theorem dX8_undo_15 : decode cX8_undo 15 = .ok (.iconst 1, 1) := by decide +kernel
theorem dX8_undo_16 : decode cX8_undo 16 = .ok (.isub, 1) := by decide +kernel
theorem dX8_undo_17 : decode cX8_undo 17 = .ok (.putfield 92, 3) := by decide +kernel
theorem dX8_undo_20 : decode cX8_undo 20 = .ok (.iconst 0, 1) := by decide +kernel
theorem dX8_undo_21 : decode cX8_undo 21 = .ok (.istore_n 1, 1) := by decide +kernel
theorem dX8_undo_22 : decode cX8_undo 22 = .ok (.iload_n 1, 1) := by decide +kernel
theorem dX8_undo_23 : decode cX8_undo 23 = .ok (.bipush 15, 2) := by decide +kernel
theorem dX8_undo_25 : decode cX8_undo 25 = .ok (.if_icmp .ge 29, 3) := by decide +kernel
theorem dX8_undo_28 : decode cX8_undo 28 = .ok (.aload_n 0, 1) := by decide +kernel
theorem dX8_undo_29 : decode cX8_undo 29 = .ok (.getfield 19, 3) := by decide +kernel
theorem dX8_undo_32 : decode cX8_undo 32 = .ok (.iload_n 1, 1) := by decide +kernel
theorem dX8_undo_33 : decode cX8_undo 33 = .ok (.aload_n 0, 1) := by decide +kernel
theorem dX8_undo_34 : decode cX8_undo 34 = .ok (.getfield 22, 3) := by decide +kernel
theorem dX8_undo_37 : decode cX8_undo 37 = .ok (.bipush 15, 2) := by decide +kernel
theorem dX8_undo_39 : decode cX8_undo 39 = .ok (.aload_n 0, 1) := by decide +kernel
theorem dX8_undo_40 : decode cX8_undo 40 = .ok (.getfield 92, 3) := by decide +kernel
theorem dX8_undo_43 : decode cX8_undo 43 = .ok (.imul, 1) := by decide +kernel
end
section
theorem dX8_undo_44 : decode cX8_undo 44 = .ok (.iload_n 1, 1) := by decide +kernel
theorem dX8_undo_45 : decode cX8_undo 45 = .ok (.iadd, 1) := by decide +kernel
theorem dX8_undo_46 : decode cX8_undo 46 = .ok (.iaload, 1) := by decide +kernel
theorem dX8_undo_47 : decode cX8_undo 47 = .ok (.iastore, 1) := by decide +kernel
theorem dX8_undo_48 : decode cX8_undo 48 = .ok (.iinc 1 1, 3) := by decide +kernel
theorem dX8_undo_51 : decode cX8_undo 51 = .ok (.goto (-29), 3) := by decide +kernel
theorem dX8_undo_54 : decode cX8_undo 54 = .ok (.aload_n 0, 1) := by decide +kernel
theorem dX8_undo_55 : decode cX8_undo 55 = .ok (.getfield 92, 3) := by decide +kernel
theorem dX8_undo_58 : decode cX8_undo 58 = .ok (.ireturn, 1) := by decide +kernel
set_option maxRecDepth 20000 in
theorem ggX8_pints_X8_filled : GoodIn wsX8_pints wsX8_filled := goodIn_r _ [6, 1, 7, 12, 13, 14, 15, 16, 17, 18, 19, 20, 21, 22, 23, 24, 25, 26, 27, 28, 29, 30] (by decide +kernel) (by decide +kernel)
set_option maxRecDepth 20000 in
theorem gX8_pints_X8_filled : GoodIn wsX8_pints (wsV RX8 127 RX8 yX8_filled wsX8_filled) := goodIn_app (goodIn_of _ (by decide +kernel)) ggX8_pints_X8_filled
set_option maxRecDepth 20000 in
theorem ggX8_pints_X8_cools : GoodIn wsX8_pints wsX8_cools := goodIn_r _ [11, 7, 1, 12, 13, 14, 15, 16, 17, 18, 19, 20, 21, 22, 23, 24, 25, 26, 27, 28, 29, 30] (by decide +kernel) (by decide +kernel)
set_option maxRecDepth 20000 in
theorem gX8_pints_X8_cools : GoodIn wsX8_pints (wsV RX8 98 RX8 yX8_cools wsX8_cools) := goodIn_app (goodIn_of _ (by decide +kernel)) ggX8_pints_X8_cools
theorem dX8_pints_0 : decode cX8_pints 0 = .ok (.bipush (-9), 2) := by decide +kernel
theorem dX8_pints_2 : decode cX8_pints 2 = .ok (.istore_n 3, 1) := by decide +kernel
theorem dX8_pints_3 : decode cX8_pints 3 = .ok (.bipush 9, 2) := by decide +kernel
theorem dX8_pints_5 : decode cX8_pints 5 = .ok (.istore 4, 2) := by decide +kernel
theorem dX8_pints_7 : decode cX8_pints 7 = .ok (.iload 4, 2) := by decide +kernel
theorem dX8_pints_9 : decode cX8_pints 9 = .ok (.ifCond .lt 39, 3) := by decide +kernel
theorem dX8_pints_12 : decode cX8_pints 12 = .ok (.aload_n 0, 1) := by decide +kernel
theorem dX8_pints_13 : decode cX8_pints 13 = .ok (.iload_n 2, 1) := by decide +kernel
theorem dX8_pints_14 : decode cX8_pints 14 = .ok (.iload 4, 2) := by decide +kernel
theorem dX8_pints_16 : decode cX8_pints 16 = .ok (.invokevirtual 127, 3) := by decide +kernel
theorem dX8_pints_19 : decode cX8_pints 19 = .ok (.iload_n 1, 1) := by decide +kernel
theorem dX8_pints_20 : decode cX8_pints 20 = .ok (.aload_n 0, 1) := by decide +kernel
theorem dX8_pints_21 : decode cX8_pints 21 = .ok (.iload_n 2, 1) := by decide +kernel
theorem dX8_pints_22 : decode cX8_pints 22 = .ok (.aload_n 0, 1) := by decide +kernel
theorem dX8_pints_23 : decode cX8_pints 23 = .ok (.getfield 19, 3) := by decide +kernel
theorem dX8_pints_26 : decode cX8_pints 26 = .ok (.iconst 1, 1) := by decide +kernel
theorem dX8_pints_27 : decode cX8_pints 27 = .ok (.iaload, 1) := by decide +kernel
theorem dX8_pints_28 : decode cX8_pints 28 = .ok (.invokevirtual 98, 3) := by decide +kernel
theorem dX8_pints_31 : decode cX8_pints 31 = .ok (.imul, 1) := by decide +kernel
theorem dX8_pints_32 : decode cX8_pints 32 = .ok (.if_icmp .le 8, 3) := by decide +kernel
theorem dX8_pints_35 : decode cX8_pints 35 = .ok (.iload 4, 2) := by decide +kernel
theorem dX8_pints_37 : decode cX8_pints 37 = .ok (.goto 4, 3) := by decide +kernel
theorem dX8_pints_40 : decode cX8_pints 40 = .ok (.iload_n 3, 1) := by decide +kernel
theorem dX8_pints_41 : decode cX8_pints 41 = .ok (.istore_n 3, 1) := by decide +kernel
theorem dX8_pints_42 : decode cX8_pints 42 = .ok (.iinc 4 (-1), 3) := by decide +kernel
theorem dX8_pints_45 : decode cX8_pints 45 = .ok (.goto (-38), 3) := by decide +kernel
theorem dX8_pints_48 : decode cX8_pints 48 = .ok (.iload_n 3, 1) := by decide +kernel
theorem dX8_pints_49 : decode cX8_pints 49 = .ok (.ireturn, 1) := by decide +kernel
set_option maxRecDepth 20000 in
theorem ggX8_morning_X8_in : GoodIn wsX8_morning wsX8_in := goodIn_r _ [5] (by decide +kernel) (by decide +kernel)
set_option maxRecDepth 20000 in
theorem gX8_morning_X8_in : GoodIn wsX8_morning (va_wsS RX8 51 yX8_in wsX8_in) := goodIn_app (goodIn_of _ (by decide +kernel)) ggX8_morning_X8_in
set_option maxRecDepth 20000 in
theorem ggX8_morning_X8_isBottle : GoodIn wsX8_morning wsX8_isBottle := goodIn_r _ [9, 1, 2, 3, 4, 5, 23, 24, 25, 26, 27, 28, 29, 30, 31, 32, 33, 34, 35, 36, 37, 38, 39, 40, 41] (by decide +kernel) (by decide +kernel)
set_option maxRecDepth 20000 in
theorem gX8_morning_X8_isBottle : GoodIn wsX8_morning (wsV RX8 105 RX8 yX8_isBottle wsX8_isBottle) := goodIn_app (goodIn_of _ (by decide +kernel)) ggX8_morning_X8_isBottle
set_option maxRecDepth 20000 in
theorem ggX8_morning_X8_pints : GoodIn wsX8_morning wsX8_pints := goodIn_r _ [13, 14, 15, 16, 17, 4, 18, 1, 19, 20, 21, 22, 23, 24, 25, 26, 27, 28, 29, 30, 31, 32, 33, 34, 35, 36, 37, 38, 39, 40, 41] (by decide +kernel) (by decide +kernel)
set_option maxRecDepth 20000 in
theorem gX8_morning_X8_pints : GoodIn wsX8_morning (wsV RX8 130 RX8 yX8_pints wsX8_pints) := goodIn_app (goodIn_of _ (by decide +kernel)) ggX8_morning_X8_pints
theorem dX8_morning_0 : decode cX8_morning 0 = .ok (.iload_n 1, 1) := by decide +kernel
theorem dX8_morning_1 : decode cX8_morning 1 = .ok (.iconst 1, 1) := by decide +kernel
theorem dX8_morning_2 : decode cX8_morning 2 = .ok (.bipush 40, 2) := by decide +kernel
theorem dX8_morning_4 : decode cX8_morning 4 = .ok (.invokestatic 51, 3) := by decide +kernel
theorem dX8_morning_7 : decode cX8_morning 7 = .ok (.ifCond .eq 16, 3) := by decide +kernel
theorem dX8_morning_10 : decode cX8_morning 10 = .ok (.iload_n 2, 1) := by decide +kernel
theorem dX8_morning_11 : decode cX8_morning 11 = .ok (.iconst (-1), 1) := by decide +kernel
theorem dX8_morning_12 : decode cX8_morning 12 = .ok (.if_icmp .eq 13, 3) := by decide +kernel
theorem dX8_morning_15 : decode cX8_morning 15 = .ok (.aload_n 0, 1) := by decide +kernel
theorem dX8_morning_16 : decode cX8_morning 16 = .ok (.iload_n 2, 1) := by decide +kernel
theorem dX8_morning_17 : decode cX8_morning 17 = .ok (.invokevirtual 105, 3) := by decide +kernel
theorem dX8_morning_20 : decode cX8_morning 20 = .ok (.ifCond .ne 5, 3) := by decide +kernel
theorem dX8_morning_23 : decode cX8_morning 23 = .ok (.iconst (-1), 1) := by decide +kernel
theorem dX8_morning_24 : decode cX8_morning 24 = .ok (.ireturn, 1) := by decide +kernel
theorem dX8_morning_25 : decode cX8_morning 25 = .ok (.iload_n 2, 1) := by decide +kernel
theorem dX8_morning_26 : decode cX8_morning 26 = .ok (.ifCond .lt 10, 3) := by decide +kernel
theorem dX8_morning_29 : decode cX8_morning 29 = .ok (.aload_n 0, 1) := by decide +kernel
theorem dX8_morning_30 : decode cX8_morning 30 = .ok (.iload_n 1, 1) := by decide +kernel
theorem dX8_morning_31 : decode cX8_morning 31 = .ok (.iload_n 2, 1) := by decide +kernel
theorem dX8_morning_32 : decode cX8_morning 32 = .ok (.invokevirtual 130, 3) := by decide +kernel
theorem dX8_morning_35 : decode cX8_morning 35 = .ok (.ireturn, 1) := by decide +kernel
theorem dX8_morning_36 : decode cX8_morning 36 = .ok (.iconst 0, 1) := by decide +kernel
theorem dX8_morning_37 : decode cX8_morning 37 = .ok (.istore_n 3, 1) := by decide +kernel
theorem dX8_morning_38 : decode cX8_morning 38 = .ok (.iconst 0, 1) := by decide +kernel
theorem dX8_morning_39 : decode cX8_morning 39 = .ok (.istore 4, 2) := by decide +kernel
theorem dX8_morning_41 : decode cX8_morning 41 = .ok (.iload 4, 2) := by decide +kernel
theorem dX8_morning_43 : decode cX8_morning 43 = .ok (.aload_n 0, 1) := by decide +kernel
theorem dX8_morning_44 : decode cX8_morning 44 = .ok (.getfield 13, 3) := by decide +kernel
theorem dX8_morning_47 : decode cX8_morning 47 = .ok (.iconst 0, 1) := by decide +kernel
theorem dX8_morning_48 : decode cX8_morning 48 = .ok (.iaload, 1) := by decide +kernel
theorem dX8_morning_49 : decode cX8_morning 49 = .ok (.if_icmp .ge 41, 3) := by decide +kernel
theorem dX8_morning_52 : decode cX8_morning 52 = .ok (.aload_n 0, 1) := by decide +kernel
theorem dX8_morning_53 : decode cX8_morning 53 = .ok (.iload_n 1, 1) := by decide +kernel
theorem dX8_morning_54 : decode cX8_morning 54 = .ok (.iload 4, 2) := by decide +kernel
theorem dX8_morning_56 : decode cX8_morning 56 = .ok (.invokevirtual 130, 3) := by decide +kernel
theorem dX8_morning_59 : decode cX8_morning 59 = .ok (.istore 5, 2) := by decide +kernel
theorem dX8_morning_61 : decode cX8_morning 61 = .ok (.iload 5, 2) := by decide +kernel
theorem dX8_morning_63 : decode cX8_morning 63 = .ok (.bipush (-9), 2) := by decide +kernel
theorem dX8_morning_65 : decode cX8_morning 65 = .ok (.if_icmp .eq 9, 3) := by decide +kernel
theorem dX8_morning_68 : decode cX8_morning 68 = .ok (.iload_n 3, 1) := by decide +kernel
theorem dX8_morning_69 : decode cX8_morning 69 = .ok (.bipush (-9), 2) := by decide +kernel
theorem dX8_morning_71 : decode cX8_morning 71 = .ok (.if_icmp .ne 8, 3) := by decide +kernel
theorem dX8_morning_74 : decode cX8_morning 74 = .ok (.bipush (-9), 2) := by decide +kernel
theorem dX8_morning_76 : decode cX8_morning 76 = .ok (.goto 7, 3) := by decide +kernel
theorem dX8_morning_79 : decode cX8_morning 79 = .ok (.iload_n 3, 1) := by decide +kernel
theorem dX8_morning_80 : decode cX8_morning 80 = .ok (.iload 5, 2) := by decide +kernel
theorem dX8_morning_82 : decode cX8_morning 82 = .ok (.iadd, 1) := by decide +kernel
theorem dX8_morning_83 : decode cX8_morning 83 = .ok (.istore_n 3, 1) := by decide +kernel
theorem dX8_morning_84 : decode cX8_morning 84 = .ok (.iinc 4 1, 3) := by decide +kernel
theorem dX8_morning_87 : decode cX8_morning 87 = .ok (.goto (-46), 3) := by decide +kernel
theorem dX8_morning_90 : decode cX8_morning 90 = .ok (.iload_n 3, 1) := by decide +kernel
theorem dX8_morning_91 : decode cX8_morning 91 = .ok (.ireturn, 1) := by decide +kernel
theorem dX8_holds_0 : decode cX8_holds 0 = .ok (.iconst 0, 1) := by decide +kernel
theorem dX8_holds_1 : decode cX8_holds 1 = .ok (.istore_n 1, 1) := by decide +kernel
theorem dX8_holds_2 : decode cX8_holds 2 = .ok (.iload_n 1, 1) := by decide +kernel
theorem dX8_holds_3 : decode cX8_holds 3 = .ok (.bipush 15, 2) := by decide +kernel
theorem dX8_holds_5 : decode cX8_holds 5 = .ok (.if_icmp .ge 21, 3) := by decide +kernel
theorem dX8_holds_8 : decode cX8_holds 8 = .ok (.aload_n 0, 1) := by decide +kernel
theorem dX8_holds_9 : decode cX8_holds 9 = .ok (.getfield 35, 3) := by decide +kernel
theorem dX8_holds_12 : decode cX8_holds 12 = .ok (.iload_n 1, 1) := by decide +kernel
theorem dX8_holds_13 : decode cX8_holds 13 = .ok (.aload_n 0, 1) := by decide +kernel
theorem dX8_holds_14 : decode cX8_holds 14 = .ok (.getfield 19, 3) := by decide +kernel
theorem dX8_holds_17 : decode cX8_holds 17 = .ok (.iload_n 1, 1) := by decide +kernel
theorem dX8_holds_18 : decode cX8_holds 18 = .ok (.iaload, 1) := by decide +kernel
theorem dX8_holds_19 : decode cX8_holds 19 = .ok (.iastore, 1) := by decide +kernel
theorem dX8_holds_20 : decode cX8_holds 20 = .ok (.iinc 1 1, 3) := by decide +kernel
theorem dX8_holds_23 : decode cX8_holds 23 = .ok (.goto (-21), 3) := by decide +kernel
theorem dX8_holds_26 : decode cX8_holds 26 = .ok (.return_, 1) := by decide +kernel
theorem dX8_lets_0 : decode cX8_lets 0 = .ok (.iconst 0, 1) := by decide +kernel
theorem dX8_lets_1 : decode cX8_lets 1 = .ok (.istore_n 1, 1) := by decide +kernel
theorem dX8_lets_2 : decode cX8_lets 2 = .ok (.iload_n 1, 1) := by decide +kernel
theorem dX8_lets_3 : decode cX8_lets 3 = .ok (.bipush 15, 2) := by decide +kernel
theorem dX8_lets_5 : decode cX8_lets 5 = .ok (.if_icmp .ge 21, 3) := by decide +kernel
theorem dX8_lets_8 : decode cX8_lets 8 = .ok (.aload_n 0, 1) := by decide +kernel
theorem dX8_lets_9 : decode cX8_lets 9 = .ok (.getfield 19, 3) := by decide +kernel
theorem dX8_lets_12 : decode cX8_lets 12 = .ok (.iload_n 1, 1) := by decide +kernel
theorem dX8_lets_13 : decode cX8_lets 13 = .ok (.aload_n 0, 1) := by decide +kernel
theorem dX8_lets_14 : decode cX8_lets 14 = .ok (.getfield 35, 3) := by decide +kernel
theorem dX8_lets_17 : decode cX8_lets 17 = .ok (.iload_n 1, 1) := by decide +kernel
theorem dX8_lets_18 : decode cX8_lets 18 = .ok (.iaload, 1) := by decide +kernel
theorem dX8_lets_19 : decode cX8_lets 19 = .ok (.iastore, 1) := by decide +kernel
theorem dX8_lets_20 : decode cX8_lets 20 = .ok (.iinc 1 1, 3) := by decide +kernel
theorem dX8_lets_23 : decode cX8_lets 23 = .ok (.goto (-21), 3) := by decide +kernel
theorem dX8_lets_26 : decode cX8_lets 26 = .ok (.return_, 1) := by decide +kernel
set_option maxRecDepth 20000 in
theorem ggX8_keptBy_X8_filled : GoodIn wsX8_keptBy wsX8_filled := goodIn_r _ [7, 2, 1, 23, 24, 25, 26, 27, 28, 29, 30, 31, 32, 33, 34, 35, 36, 37, 38, 39, 40, 41] (by decide +kernel) (by decide +kernel)
set_option maxRecDepth 20000 in
theorem gX8_keptBy_X8_filled : GoodIn wsX8_keptBy (wsV RX8 127 RX8 yX8_filled wsX8_filled) := goodIn_app (goodIn_of _ (by decide +kernel)) ggX8_keptBy_X8_filled
set_option maxRecDepth 20000 in
theorem ggX8_keptBy_X8_passes : GoodIn wsX8_keptBy wsX8_passes := goodIn_r _ [11, 1, 2, 12, 13, 14, 6, 15, 16, 17, 18, 23, 24, 25, 26, 27, 28, 29, 30, 31, 32, 33, 34, 35, 36, 37, 38, 39, 40, 41] (by decide +kernel) (by decide +kernel)
set_option maxRecDepth 20000 in
theorem gX8_keptBy_X8_passes : GoodIn wsX8_keptBy (wsV RX8 124 RX8 yX8_passes wsX8_passes) := goodIn_app (goodIn_of _ (by decide +kernel)) ggX8_keptBy_X8_passes
set_option maxRecDepth 20000 in
theorem ggX8_keptBy_X8_manyWarm : GoodIn wsX8_keptBy wsX8_manyWarm := goodIn_r _ [22, 1, 2, 23, 24, 25, 26, 27, 28, 29, 30, 31, 32, 33, 34, 35, 36, 37, 38, 39, 40, 41] (by decide +kernel) (by decide +kernel)
set_option maxRecDepth 20000 in
theorem gX8_keptBy_X8_manyWarm : GoodIn wsX8_keptBy (wsV RX8 115 RX8 yX8_manyWarm wsX8_manyWarm) := goodIn_app (goodIn_of _ (by decide +kernel)) ggX8_keptBy_X8_manyWarm
theorem dX8_keptBy_0 : decode cX8_keptBy 0 = .ok (.iload_n 1, 1) := by decide +kernel
theorem dX8_keptBy_1 : decode cX8_keptBy 1 = .ok (.istore_n 2, 1) := by decide +kernel
theorem dX8_keptBy_2 : decode cX8_keptBy 2 = .ok (.iconst 0, 1) := by decide +kernel
theorem dX8_keptBy_3 : decode cX8_keptBy 3 = .ok (.istore_n 3, 1) := by decide +kernel
theorem dX8_keptBy_4 : decode cX8_keptBy 4 = .ok (.iload_n 3, 1) := by decide +kernel
theorem dX8_keptBy_5 : decode cX8_keptBy 5 = .ok (.iconst 4, 1) := by decide +kernel
theorem dX8_keptBy_6 : decode cX8_keptBy 6 = .ok (.if_icmp .ge 94, 3) := by decide +kernel
theorem dX8_keptBy_9 : decode cX8_keptBy 9 = .ok (.iload_n 2, 1) := by decide +kernel
theorem dX8_keptBy_10 : decode cX8_keptBy 10 = .ok (.bipush 7, 2) := by decide +kernel
theorem dX8_keptBy_12 : decode cX8_keptBy 12 = .ok (.irem, 1) := by decide +kernel
theorem dX8_keptBy_13 : decode cX8_keptBy 13 = .ok (.istore 4, 2) := by decide +kernel
theorem dX8_keptBy_15 : decode cX8_keptBy 15 = .ok (.iload_n 2, 1) := by decide +kernel
theorem dX8_keptBy_16 : decode cX8_keptBy 16 = .ok (.bipush 7, 2) := by decide +kernel
theorem dX8_keptBy_18 : decode cX8_keptBy 18 = .ok (.idiv, 1) := by decide +kernel
theorem dX8_keptBy_19 : decode cX8_keptBy 19 = .ok (.istore_n 2, 1) := by decide +kernel
theorem dX8_keptBy_20 : decode cX8_keptBy 20 = .ok (.iload 4, 2) := by decide +kernel
theorem dX8_keptBy_22 : decode cX8_keptBy 22 = .ok (.bipush 6, 2) := by decide +kernel
theorem dX8_keptBy_24 : decode cX8_keptBy 24 = .ok (.if_icmp .ge 51, 3) := by decide +kernel
theorem dX8_keptBy_27 : decode cX8_keptBy 27 = .ok (.iload 4, 2) := by decide +kernel
theorem dX8_keptBy_29 : decode cX8_keptBy 29 = .ok (.aload_n 0, 1) := by decide +kernel
theorem dX8_keptBy_30 : decode cX8_keptBy 30 = .ok (.getfield 13, 3) := by decide +kernel
theorem dX8_keptBy_33 : decode cX8_keptBy 33 = .ok (.iconst 0, 1) := by decide +kernel
theorem dX8_keptBy_34 : decode cX8_keptBy 34 = .ok (.iaload, 1) := by decide +kernel
theorem dX8_keptBy_35 : decode cX8_keptBy 35 = .ok (.if_icmp .ge 12, 3) := by decide +kernel
theorem dX8_keptBy_38 : decode cX8_keptBy 38 = .ok (.aload_n 0, 1) := by decide +kernel
theorem dX8_keptBy_39 : decode cX8_keptBy 39 = .ok (.getfield 19, 3) := by decide +kernel
theorem dX8_keptBy_42 : decode cX8_keptBy 42 = .ok (.iconst 2, 1) := by decide +kernel
theorem dX8_keptBy_43 : decode cX8_keptBy 43 = .ok (.iaload, 1) := by decide +kernel
theorem dX8_keptBy_44 : decode cX8_keptBy 44 = .ok (.ifCond .ne 5, 3) := by decide +kernel
theorem dX8_keptBy_47 : decode cX8_keptBy 47 = .ok (.iconst (-1), 1) := by decide +kernel
theorem dX8_keptBy_48 : decode cX8_keptBy 48 = .ok (.ireturn, 1) := by decide +kernel
theorem dX8_keptBy_49 : decode cX8_keptBy 49 = .ok (.aload_n 0, 1) := by decide +kernel
theorem dX8_keptBy_50 : decode cX8_keptBy 50 = .ok (.getfield 19, 3) := by decide +kernel
theorem dX8_keptBy_53 : decode cX8_keptBy 53 = .ok (.iconst 3, 1) := by decide +kernel
theorem dX8_keptBy_54 : decode cX8_keptBy 54 = .ok (.iload 4, 2) := by decide +kernel
theorem dX8_keptBy_56 : decode cX8_keptBy 56 = .ok (.iadd, 1) := by decide +kernel
theorem dX8_keptBy_57 : decode cX8_keptBy 57 = .ok (.aload_n 0, 1) := by decide +kernel
theorem dX8_keptBy_58 : decode cX8_keptBy 58 = .ok (.iload 4, 2) := by decide +kernel
theorem dX8_keptBy_60 : decode cX8_keptBy 60 = .ok (.iconst 1, 1) := by decide +kernel
theorem dX8_keptBy_61 : decode cX8_keptBy 61 = .ok (.invokevirtual 127, 3) := by decide +kernel
theorem dX8_keptBy_64 : decode cX8_keptBy 64 = .ok (.iastore, 1) := by decide +kernel
theorem dX8_keptBy_65 : decode cX8_keptBy 65 = .ok (.aload_n 0, 1) := by decide +kernel
theorem dX8_keptBy_66 : decode cX8_keptBy 66 = .ok (.getfield 19, 3) := by decide +kernel
theorem dX8_keptBy_69 : decode cX8_keptBy 69 = .ok (.iconst 2, 1) := by decide +kernel
theorem dX8_keptBy_70 : decode cX8_keptBy 70 = .ok (.dup2, 1) := by decide +kernel
theorem dX8_keptBy_71 : decode cX8_keptBy 71 = .ok (.iaload, 1) := by decide +kernel
theorem dX8_keptBy_72 : decode cX8_keptBy 72 = .ok (.iconst 1, 1) := by decide +kernel
theorem dX8_keptBy_73 : decode cX8_keptBy 73 = .ok (.isub, 1) := by decide +kernel
theorem dX8_keptBy_74 : decode cX8_keptBy 74 = .ok (.iastore, 1) := by decide +kernel
theorem dX8_keptBy_75 : decode cX8_keptBy 75 = .ok (.aload_n 0, 1) := by decide +kernel
theorem dX8_keptBy_76 : decode cX8_keptBy 76 = .ok (.invokevirtual 124, 3) := by decide +kernel
theorem dX8_keptBy_79 : decode cX8_keptBy 79 = .ok (.aload_n 0, 1) := by decide +kernel
theorem dX8_keptBy_80 : decode cX8_keptBy 80 = .ok (.invokevirtual 115, 3) := by decide +kernel
theorem dX8_keptBy_83 : decode cX8_keptBy 83 = .ok (.aload_n 0, 1) := by decide +kernel
theorem dX8_keptBy_84 : decode cX8_keptBy 84 = .ok (.getfield 13, 3) := by decide +kernel
theorem dX8_keptBy_87 : decode cX8_keptBy 87 = .ok (.iconst 0, 1) := by decide +kernel
theorem dX8_keptBy_88 : decode cX8_keptBy 88 = .ok (.iaload, 1) := by decide +kernel
theorem dX8_keptBy_89 : decode cX8_keptBy 89 = .ok (.if_icmp .ge 5, 3) := by decide +kernel
theorem dX8_keptBy_92 : decode cX8_keptBy 92 = .ok (.iload_n 3, 1) := by decide +kernel
theorem dX8_keptBy_93 : decode cX8_keptBy 93 = .ok (.ireturn, 1) := by decide +kernel
theorem dX8_keptBy_94 : decode cX8_keptBy 94 = .ok (.iinc 3 1, 3) := by decide +kernel
theorem dX8_keptBy_97 : decode cX8_keptBy 97 = .ok (.goto (-93), 3) := by decide +kernel
theorem dX8_keptBy_100 : decode cX8_keptBy 100 = .ok (.iconst 4, 1) := by decide +kernel
theorem dX8_keptBy_101 : decode cX8_keptBy 101 = .ok (.ireturn, 1) := by decide +kernel
set_option maxRecDepth 20000 in
theorem ggX8_kept_X8_in : GoodIn wsX8_kept wsX8_in := goodIn_r _ [5] (by decide +kernel) (by decide +kernel)
set_option maxRecDepth 20000 in
theorem gX8_kept_X8_in : GoodIn wsX8_kept (va_wsS RX8 51 yX8_in wsX8_in) := goodIn_app (goodIn_of _ (by decide +kernel)) ggX8_kept_X8_in
set_option maxRecDepth 20000 in
theorem ggX8_kept_X8_holds : GoodIn wsX8_kept wsX8_holds := goodIn_r _ [9, 10, 11, 39, 40, 41, 42, 43, 44, 45, 46, 47, 48, 49, 50, 51, 52, 53, 54, 55, 56, 57] (by decide +kernel) (by decide +kernel)
set_option maxRecDepth 20000 in
theorem gX8_kept_X8_holds : GoodIn wsX8_kept (wsV RX8 133 RX8 yX8_holds wsX8_holds) := goodIn_app (goodIn_of _ (by decide +kernel)) ggX8_kept_X8_holds
set_option maxRecDepth 20000 in
theorem ggX8_kept_X8_keptBy : GoodIn wsX8_kept wsX8_keptBy := goodIn_r _ [15, 1, 11, 16, 17, 18, 4, 19, 20, 21, 22, 23, 24, 25, 26, 27, 28, 29, 30, 31, 32, 33, 34, 39, 40, 41, 42, 43, 44, 45, 46, 47, 48, 49, 50, 51, 52, 53, 54, 55, 56, 57] (by decide +kernel) (by decide +kernel)
set_option maxRecDepth 20000 in
theorem gX8_kept_X8_keptBy : GoodIn wsX8_kept (wsV RX8 136 RX8 yX8_keptBy wsX8_keptBy) := goodIn_app (goodIn_of _ (by decide +kernel)) ggX8_kept_X8_keptBy
set_option maxRecDepth 20000 in
theorem ggX8_kept_X8_lets : GoodIn wsX8_kept wsX8_lets := goodIn_r _ [38, 11, 10, 39, 40, 41, 42, 43, 44, 45, 46, 47, 48, 49, 50, 51, 52, 53, 54, 55, 56, 57] (by decide +kernel) (by decide +kernel)
set_option maxRecDepth 20000 in
theorem gX8_kept_X8_lets : GoodIn wsX8_kept (wsV RX8 139 RX8 yX8_lets wsX8_lets) := goodIn_app (goodIn_of _ (by decide +kernel)) ggX8_kept_X8_lets
theorem dX8_kept_0 : decode cX8_kept 0 = .ok (.iload_n 1, 1) := by decide +kernel
theorem dX8_kept_1 : decode cX8_kept 1 = .ok (.iconst 0, 1) := by decide +kernel
theorem dX8_kept_2 : decode cX8_kept 2 = .ok (.iconst 1, 1) := by decide +kernel
theorem dX8_kept_3 : decode cX8_kept 3 = .ok (.invokestatic 51, 3) := by decide +kernel
theorem dX8_kept_6 : decode cX8_kept 6 = .ok (.ifCond .ne 5, 3) := by decide +kernel
theorem dX8_kept_9 : decode cX8_kept 9 = .ok (.iconst (-1), 1) := by decide +kernel
theorem dX8_kept_10 : decode cX8_kept 10 = .ok (.ireturn, 1) := by decide +kernel
theorem dX8_kept_11 : decode cX8_kept 11 = .ok (.aload_n 0, 1) := by decide +kernel
theorem dX8_kept_12 : decode cX8_kept 12 = .ok (.getfield 13, 3) := by decide +kernel
theorem dX8_kept_15 : decode cX8_kept 15 = .ok (.iconst 0, 1) := by decide +kernel
theorem dX8_kept_16 : decode cX8_kept 16 = .ok (.iaload, 1) := by decide +kernel
theorem dX8_kept_17 : decode cX8_kept 17 = .ok (.ifCond .ne 6, 3) := by decide +kernel
theorem dX8_kept_20 : decode cX8_kept 20 = .ok (.bipush (-9), 2) := by decide +kernel
theorem dX8_kept_22 : decode cX8_kept 22 = .ok (.ireturn, 1) := by decide +kernel
theorem dX8_kept_23 : decode cX8_kept 23 = .ok (.aload_n 0, 1) := by decide +kernel
theorem dX8_kept_24 : decode cX8_kept 24 = .ok (.invokevirtual 133, 3) := by decide +kernel
theorem dX8_kept_27 : decode cX8_kept 27 = .ok (.iconst 0, 1) := by decide +kernel
theorem dX8_kept_28 : decode cX8_kept 28 = .ok (.istore_n 2, 1) := by decide +kernel
theorem dX8_kept_29 : decode cX8_kept 29 = .ok (.bipush 6, 2) := by decide +kernel
theorem dX8_kept_31 : decode cX8_kept 31 = .ok (.istore_n 3, 1) := by decide +kernel
theorem dX8_kept_32 : decode cX8_kept 32 = .ok (.iconst 0, 1) := by decide +kernel
theorem dX8_kept_33 : decode cX8_kept 33 = .ok (.istore 4, 2) := by decide +kernel
theorem dX8_kept_35 : decode cX8_kept 35 = .ok (.iload 4, 2) := by decide +kernel
theorem dX8_kept_37 : decode cX8_kept 37 = .ok (.sipush 2401, 3) := by decide +kernel
theorem dX8_kept_40 : decode cX8_kept 40 = .ok (.if_icmp .ge 51, 3) := by decide +kernel
theorem dX8_kept_43 : decode cX8_kept 43 = .ok (.aload_n 0, 1) := by decide +kernel
theorem dX8_kept_44 : decode cX8_kept 44 = .ok (.iload 4, 2) := by decide +kernel
theorem dX8_kept_46 : decode cX8_kept 46 = .ok (.invokevirtual 136, 3) := by decide +kernel
theorem dX8_kept_49 : decode cX8_kept 49 = .ok (.istore 5, 2) := by decide +kernel
theorem dX8_kept_51 : decode cX8_kept 51 = .ok (.aload_n 0, 1) := by decide +kernel
theorem dX8_kept_52 : decode cX8_kept 52 = .ok (.invokevirtual 139, 3) := by decide +kernel
theorem dX8_kept_55 : decode cX8_kept 55 = .ok (.iload 5, 2) := by decide +kernel
theorem dX8_kept_57 : decode cX8_kept 57 = .ok (.iload_n 2, 1) := by decide +kernel
theorem dX8_kept_58 : decode cX8_kept 58 = .ok (.if_icmp .gt 18, 3) := by decide +kernel
theorem dX8_kept_61 : decode cX8_kept 61 = .ok (.iload 5, 2) := by decide +kernel
theorem dX8_kept_63 : decode cX8_kept 63 = .ok (.iload_n 2, 1) := by decide +kernel
theorem dX8_kept_64 : decode cX8_kept 64 = .ok (.if_icmp .ne 21, 3) := by decide +kernel
theorem dX8_kept_67 : decode cX8_kept 67 = .ok (.iload 4, 2) := by decide +kernel
theorem dX8_kept_69 : decode cX8_kept 69 = .ok (.bipush 7, 2) := by decide +kernel
theorem dX8_kept_71 : decode cX8_kept 71 = .ok (.irem, 1) := by decide +kernel
theorem dX8_kept_72 : decode cX8_kept 72 = .ok (.iload_n 3, 1) := by decide +kernel
theorem dX8_kept_73 : decode cX8_kept 73 = .ok (.if_icmp .ge 12, 3) := by decide +kernel
theorem dX8_kept_76 : decode cX8_kept 76 = .ok (.iload 5, 2) := by decide +kernel
theorem dX8_kept_78 : decode cX8_kept 78 = .ok (.istore_n 2, 1) := by decide +kernel
theorem dX8_kept_79 : decode cX8_kept 79 = .ok (.iload 4, 2) := by decide +kernel
theorem dX8_kept_81 : decode cX8_kept 81 = .ok (.bipush 7, 2) := by decide +kernel
theorem dX8_kept_83 : decode cX8_kept 83 = .ok (.irem, 1) := by decide +kernel
theorem dX8_kept_84 : decode cX8_kept 84 = .ok (.istore_n 3, 1) := by decide +kernel
theorem dX8_kept_85 : decode cX8_kept 85 = .ok (.iinc 4 1, 3) := by decide +kernel
theorem dX8_kept_88 : decode cX8_kept 88 = .ok (.goto (-53), 3) := by decide +kernel
theorem dX8_kept_91 : decode cX8_kept 91 = .ok (.iload_n 1, 1) := by decide +kernel
theorem dX8_kept_92 : decode cX8_kept 92 = .ok (.ifCond .ne 7, 3) := by decide +kernel
theorem dX8_kept_95 : decode cX8_kept 95 = .ok (.iload_n 2, 1) := by decide +kernel
theorem dX8_kept_96 : decode cX8_kept 96 = .ok (.goto 13, 3) := by decide +kernel
theorem dX8_kept_99 : decode cX8_kept 99 = .ok (.iload_n 2, 1) := by decide +kernel
theorem dX8_kept_100 : decode cX8_kept 100 = .ok (.ifCond .ne 8, 3) := by decide +kernel
theorem dX8_kept_103 : decode cX8_kept 103 = .ok (.bipush (-9), 2) := by decide +kernel
theorem dX8_kept_105 : decode cX8_kept 105 = .ok (.goto 4, 3) := by decide +kernel
theorem dX8_kept_108 : decode cX8_kept 108 = .ok (.iload_n 3, 1) := by decide +kernel
theorem dX8_kept_109 : decode cX8_kept 109 = .ok (.ireturn, 1) := by decide +kernel
theorem dX8_isWay_0 : decode cX8_isWay 0 = .ok (.iload_n 1, 1) := by decide +kernel
theorem dX8_isWay_1 : decode cX8_isWay 1 = .ok (.istore_n 2, 1) := by decide +kernel
theorem dX8_isWay_2 : decode cX8_isWay 2 = .ok (.aload_n 0, 1) := by decide +kernel
theorem dX8_isWay_3 : decode cX8_isWay 3 = .ok (.getfield 13, 3) := by decide +kernel
theorem dX8_isWay_6 : decode cX8_isWay 6 = .ok (.iconst 0, 1) := by decide +kernel
theorem dX8_isWay_7 : decode cX8_isWay 7 = .ok (.iaload, 1) := by decide +kernel
theorem dX8_isWay_8 : decode cX8_isWay 8 = .ok (.iconst 1, 1) := by decide +kernel
theorem dX8_isWay_9 : decode cX8_isWay 9 = .ok (.isub, 1) := by decide +kernel
theorem dX8_isWay_10 : decode cX8_isWay 10 = .ok (.istore_n 3, 1) := by decide +kernel
theorem dX8_isWay_11 : decode cX8_isWay 11 = .ok (.iload_n 3, 1) := by decide +kernel
theorem dX8_isWay_12 : decode cX8_isWay 12 = .ok (.ifCond .lt 24, 3) := by decide +kernel
theorem dX8_isWay_15 : decode cX8_isWay 15 = .ok (.aload_n 0, 1) := by decide +kernel
theorem dX8_isWay_16 : decode cX8_isWay 16 = .ok (.getfield 38, 3) := by decide +kernel
theorem dX8_isWay_19 : decode cX8_isWay 19 = .ok (.iload_n 3, 1) := by decide +kernel
theorem dX8_isWay_20 : decode cX8_isWay 20 = .ok (.iload_n 2, 1) := by decide +kernel
theorem dX8_isWay_21 : decode cX8_isWay 21 = .ok (.bipush 6, 2) := by decide +kernel
theorem dX8_isWay_23 : decode cX8_isWay 23 = .ok (.irem, 1) := by decide +kernel
theorem dX8_isWay_24 : decode cX8_isWay 24 = .ok (.iastore, 1) := by decide +kernel
theorem dX8_isWay_25 : decode cX8_isWay 25 = .ok (.iload_n 2, 1) := by decide +kernel
theorem dX8_isWay_26 : decode cX8_isWay 26 = .ok (.bipush 6, 2) := by decide +kernel
theorem dX8_isWay_28 : decode cX8_isWay 28 = .ok (.idiv, 1) := by decide +kernel
theorem dX8_isWay_29 : decode cX8_isWay 29 = .ok (.istore_n 2, 1) := by decide +kernel
theorem dX8_isWay_30 : decode cX8_isWay 30 = .ok (.iinc 3 (-1), 3) := by decide +kernel
theorem dX8_isWay_33 : decode cX8_isWay 33 = .ok (.goto (-22), 3) := by decide +kernel
theorem dX8_isWay_36 : decode cX8_isWay 36 = .ok (.iconst 0, 1) := by decide +kernel
theorem dX8_isWay_37 : decode cX8_isWay 37 = .ok (.istore_n 3, 1) := by decide +kernel
theorem dX8_isWay_38 : decode cX8_isWay 38 = .ok (.iconst 1, 1) := by decide +kernel
theorem dX8_isWay_39 : decode cX8_isWay 39 = .ok (.istore 4, 2) := by decide +kernel
theorem dX8_isWay_41 : decode cX8_isWay 41 = .ok (.iconst 0, 1) := by decide +kernel
theorem dX8_isWay_42 : decode cX8_isWay 42 = .ok (.istore 5, 2) := by decide +kernel
theorem dX8_isWay_44 : decode cX8_isWay 44 = .ok (.iload 5, 2) := by decide +kernel
theorem dX8_isWay_46 : decode cX8_isWay 46 = .ok (.aload_n 0, 1) := by decide +kernel
theorem dX8_isWay_47 : decode cX8_isWay 47 = .ok (.getfield 13, 3) := by decide +kernel
theorem dX8_isWay_50 : decode cX8_isWay 50 = .ok (.iconst 0, 1) := by decide +kernel
theorem dX8_isWay_51 : decode cX8_isWay 51 = .ok (.iaload, 1) := by decide +kernel
theorem dX8_isWay_52 : decode cX8_isWay 52 = .ok (.if_icmp .ge 51, 3) := by decide +kernel
theorem dX8_isWay_55 : decode cX8_isWay 55 = .ok (.iload 4, 2) := by decide +kernel
theorem dX8_isWay_57 : decode cX8_isWay 57 = .ok (.ifCond .eq 18, 3) := by decide +kernel
theorem dX8_isWay_60 : decode cX8_isWay 60 = .ok (.aload_n 0, 1) := by decide +kernel
theorem dX8_isWay_61 : decode cX8_isWay 61 = .ok (.getfield 38, 3) := by decide +kernel
theorem dX8_isWay_64 : decode cX8_isWay 64 = .ok (.iload 5, 2) := by decide +kernel
theorem dX8_isWay_66 : decode cX8_isWay 66 = .ok (.iaload, 1) := by decide +kernel
theorem dX8_isWay_67 : decode cX8_isWay 67 = .ok (.iload_n 3, 1) := by decide +kernel
theorem dX8_isWay_68 : decode cX8_isWay 68 = .ok (.if_icmp .gt 7, 3) := by decide +kernel
theorem dX8_isWay_71 : decode cX8_isWay 71 = .ok (.iconst 1, 1) := by decide +kernel
theorem dX8_isWay_72 : decode cX8_isWay 72 = .ok (.goto 4, 3) := by decide +kernel
theorem dX8_isWay_75 : decode cX8_isWay 75 = .ok (.iconst 0, 1) := by decide +kernel
theorem dX8_isWay_76 : decode cX8_isWay 76 = .ok (.istore 4, 2) := by decide +kernel
theorem dX8_isWay_78 : decode cX8_isWay 78 = .ok (.aload_n 0, 1) := by decide +kernel
theorem dX8_isWay_79 : decode cX8_isWay 79 = .ok (.getfield 38, 3) := by decide +kernel
theorem dX8_isWay_82 : decode cX8_isWay 82 = .ok (.iload 5, 2) := by decide +kernel
theorem dX8_isWay_84 : decode cX8_isWay 84 = .ok (.iaload, 1) := by decide +kernel
theorem dX8_isWay_85 : decode cX8_isWay 85 = .ok (.iload_n 3, 1) := by decide +kernel
theorem dX8_isWay_86 : decode cX8_isWay 86 = .ok (.if_icmp .ne 9, 3) := by decide +kernel
theorem dX8_isWay_89 : decode cX8_isWay 89 = .ok (.iload_n 3, 1) := by decide +kernel
theorem dX8_isWay_90 : decode cX8_isWay 90 = .ok (.iconst 1, 1) := by decide +kernel
theorem dX8_isWay_91 : decode cX8_isWay 91 = .ok (.iadd, 1) := by decide +kernel
theorem dX8_isWay_92 : decode cX8_isWay 92 = .ok (.goto 4, 3) := by decide +kernel
theorem dX8_isWay_95 : decode cX8_isWay 95 = .ok (.iload_n 3, 1) := by decide +kernel
theorem dX8_isWay_96 : decode cX8_isWay 96 = .ok (.istore_n 3, 1) := by decide +kernel
theorem dX8_isWay_97 : decode cX8_isWay 97 = .ok (.iinc 5 1, 3) := by decide +kernel
theorem dX8_isWay_100 : decode cX8_isWay 100 = .ok (.goto (-56), 3) := by decide +kernel
theorem dX8_isWay_103 : decode cX8_isWay 103 = .ok (.iload 4, 2) := by decide +kernel
theorem dX8_isWay_105 : decode cX8_isWay 105 = .ok (.ireturn, 1) := by decide +kernel
set_option maxRecDepth 20000 in
theorem ggX8_beds_X8_isBottle : GoodIn wsX8_beds wsX8_isBottle := goodIn_r _ [9, 1, 10, 11, 8, 12, 38, 39, 40, 41, 42, 43, 44, 45, 46, 47, 48, 49, 50, 51, 52, 53, 54, 55, 56] (by decide +kernel) (by decide +kernel)
set_option maxRecDepth 20000 in
theorem gX8_beds_X8_isBottle : GoodIn wsX8_beds (wsV RX8 105 RX8 yX8_isBottle wsX8_isBottle) := goodIn_app (goodIn_of _ (by decide +kernel)) ggX8_beds_X8_isBottle
set_option maxRecDepth 20000 in
theorem ggX8_beds_X8_holds : GoodIn wsX8_beds wsX8_holds := goodIn_r _ [16, 17, 2, 38, 39, 40, 41, 42, 43, 44, 45, 46, 47, 48, 49, 50, 51, 52, 53, 54, 55, 56] (by decide +kernel) (by decide +kernel)
set_option maxRecDepth 20000 in
theorem gX8_beds_X8_holds : GoodIn wsX8_beds (wsV RX8 133 RX8 yX8_holds wsX8_holds) := goodIn_app (goodIn_of _ (by decide +kernel)) ggX8_beds_X8_holds
set_option maxRecDepth 20000 in
theorem ggX8_beds_X8_isWay : GoodIn wsX8_beds wsX8_isWay := goodIn_r _ [21, 1, 3, 38, 39, 40, 41, 42, 43, 44, 45, 46, 47, 48, 49, 50, 51, 52, 53, 54, 55, 56] (by decide +kernel) (by decide +kernel)
set_option maxRecDepth 20000 in
theorem gX8_beds_X8_isWay : GoodIn wsX8_beds (wsV RX8 142 RX8 yX8_isWay wsX8_isWay) := goodIn_app (goodIn_of _ (by decide +kernel)) ggX8_beds_X8_isWay
set_option maxRecDepth 20000 in
theorem ggX8_beds_X8_allLast : GoodIn wsX8_beds wsX8_allLast := goodIn_r _ [25, 1, 26, 27, 28, 8, 29, 2, 30, 31, 32, 33, 38, 39, 40, 41, 42, 43, 44, 45, 46, 47, 48, 49, 50, 51, 52, 53, 54, 55, 56] (by decide +kernel) (by decide +kernel)
set_option maxRecDepth 20000 in
theorem gX8_beds_X8_allLast : GoodIn wsX8_beds (wsV RX8 111 RX8 yX8_allLast wsX8_allLast) := goodIn_app (goodIn_of _ (by decide +kernel)) ggX8_beds_X8_allLast
set_option maxRecDepth 20000 in
theorem ggX8_beds_X8_lets : GoodIn wsX8_beds wsX8_lets := goodIn_r _ [37, 2, 17, 38, 39, 40, 41, 42, 43, 44, 45, 46, 47, 48, 49, 50, 51, 52, 53, 54, 55, 56] (by decide +kernel) (by decide +kernel)
set_option maxRecDepth 20000 in
theorem gX8_beds_X8_lets : GoodIn wsX8_beds (wsV RX8 139 RX8 yX8_lets wsX8_lets) := goodIn_app (goodIn_of _ (by decide +kernel)) ggX8_beds_X8_lets
theorem dX8_beds_0 : decode cX8_beds 0 = .ok (.iload_n 1, 1) := by decide +kernel
theorem dX8_beds_1 : decode cX8_beds 1 = .ok (.iconst (-1), 1) := by decide +kernel
theorem dX8_beds_2 : decode cX8_beds 2 = .ok (.if_icmp .eq 13, 3) := by decide +kernel
theorem dX8_beds_5 : decode cX8_beds 5 = .ok (.aload_n 0, 1) := by decide +kernel
theorem dX8_beds_6 : decode cX8_beds 6 = .ok (.iload_n 1, 1) := by decide +kernel
theorem dX8_beds_7 : decode cX8_beds 7 = .ok (.invokevirtual 105, 3) := by decide +kernel
theorem dX8_beds_10 : decode cX8_beds 10 = .ok (.ifCond .ne 5, 3) := by decide +kernel
theorem dX8_beds_13 : decode cX8_beds 13 = .ok (.iconst (-1), 1) := by decide +kernel
theorem dX8_beds_14 : decode cX8_beds 14 = .ok (.ireturn, 1) := by decide +kernel
theorem dX8_beds_15 : decode cX8_beds 15 = .ok (.aload_n 0, 1) := by decide +kernel
theorem dX8_beds_16 : decode cX8_beds 16 = .ok (.getfield 13, 3) := by decide +kernel
theorem dX8_beds_19 : decode cX8_beds 19 = .ok (.iconst 0, 1) := by decide +kernel
theorem dX8_beds_20 : decode cX8_beds 20 = .ok (.iaload, 1) := by decide +kernel
theorem dX8_beds_21 : decode cX8_beds 21 = .ok (.ifCond .ne 6, 3) := by decide +kernel
theorem dX8_beds_24 : decode cX8_beds 24 = .ok (.bipush (-9), 2) := by decide +kernel
theorem dX8_beds_26 : decode cX8_beds 26 = .ok (.ireturn, 1) := by decide +kernel
theorem dX8_beds_27 : decode cX8_beds 27 = .ok (.aload_n 0, 1) := by decide +kernel
theorem dX8_beds_28 : decode cX8_beds 28 = .ok (.invokevirtual 133, 3) := by decide +kernel
theorem dX8_beds_31 : decode cX8_beds 31 = .ok (.iconst 1, 1) := by decide +kernel
theorem dX8_beds_32 : decode cX8_beds 32 = .ok (.istore_n 2, 1) := by decide +kernel
theorem dX8_beds_33 : decode cX8_beds 33 = .ok (.iconst 1, 1) := by decide +kernel
theorem dX8_beds_34 : decode cX8_beds 34 = .ok (.istore_n 3, 1) := by decide +kernel
theorem dX8_beds_35 : decode cX8_beds 35 = .ok (.iload_n 3, 1) := by decide +kernel
theorem dX8_beds_36 : decode cX8_beds 36 = .ok (.aload_n 0, 1) := by decide +kernel
theorem dX8_beds_37 : decode cX8_beds 37 = .ok (.getfield 13, 3) := by decide +kernel
theorem dX8_beds_40 : decode cX8_beds 40 = .ok (.iconst 0, 1) := by decide +kernel
theorem dX8_beds_41 : decode cX8_beds 41 = .ok (.iaload, 1) := by decide +kernel
theorem dX8_beds_42 : decode cX8_beds 42 = .ok (.if_icmp .ge 14, 3) := by decide +kernel
theorem dX8_beds_45 : decode cX8_beds 45 = .ok (.iload_n 2, 1) := by decide +kernel
theorem dX8_beds_46 : decode cX8_beds 46 = .ok (.bipush 6, 2) := by decide +kernel
theorem dX8_beds_48 : decode cX8_beds 48 = .ok (.imul, 1) := by decide +kernel
theorem dX8_beds_49 : decode cX8_beds 49 = .ok (.istore_n 2, 1) := by decide +kernel
theorem dX8_beds_50 : decode cX8_beds 50 = .ok (.iinc 3 1, 3) := by decide +kernel
theorem dX8_beds_53 : decode cX8_beds 53 = .ok (.goto (-18), 3) := by decide +kernel
theorem dX8_beds_56 : decode cX8_beds 56 = .ok (.iconst (-1), 1) := by decide +kernel
theorem dX8_beds_57 : decode cX8_beds 57 = .ok (.istore_n 3, 1) := by decide +kernel
theorem dX8_beds_58 : decode cX8_beds 58 = .ok (.iconst 0, 1) := by decide +kernel
theorem dX8_beds_59 : decode cX8_beds 59 = .ok (.istore 4, 2) := by decide +kernel
theorem dX8_beds_61 : decode cX8_beds 61 = .ok (.iload 4, 2) := by decide +kernel
theorem dX8_beds_63 : decode cX8_beds 63 = .ok (.iload_n 2, 1) := by decide +kernel
theorem dX8_beds_64 : decode cX8_beds 64 = .ok (.if_icmp .ge 104, 3) := by decide +kernel
theorem dX8_beds_67 : decode cX8_beds 67 = .ok (.aload_n 0, 1) := by decide +kernel
theorem dX8_beds_68 : decode cX8_beds 68 = .ok (.iload 4, 2) := by decide +kernel
theorem dX8_beds_70 : decode cX8_beds 70 = .ok (.invokevirtual 142, 3) := by decide +kernel
theorem dX8_beds_73 : decode cX8_beds 73 = .ok (.ifCond .eq 89, 3) := by decide +kernel
theorem dX8_beds_76 : decode cX8_beds 76 = .ok (.iconst 0, 1) := by decide +kernel
theorem dX8_beds_77 : decode cX8_beds 77 = .ok (.istore 5, 2) := by decide +kernel
theorem dX8_beds_79 : decode cX8_beds 79 = .ok (.iload 5, 2) := by decide +kernel
theorem dX8_beds_81 : decode cX8_beds 81 = .ok (.aload_n 0, 1) := by decide +kernel
theorem dX8_beds_82 : decode cX8_beds 82 = .ok (.getfield 13, 3) := by decide +kernel
theorem dX8_beds_85 : decode cX8_beds 85 = .ok (.iconst 0, 1) := by decide +kernel
theorem dX8_beds_86 : decode cX8_beds 86 = .ok (.iaload, 1) := by decide +kernel
theorem dX8_beds_87 : decode cX8_beds 87 = .ok (.if_icmp .ge 26, 3) := by decide +kernel
theorem dX8_beds_90 : decode cX8_beds 90 = .ok (.aload_n 0, 1) := by decide +kernel
theorem dX8_beds_91 : decode cX8_beds 91 = .ok (.getfield 19, 3) := by decide +kernel
theorem dX8_beds_94 : decode cX8_beds 94 = .ok (.bipush 9, 2) := by decide +kernel
theorem dX8_beds_96 : decode cX8_beds 96 = .ok (.iload 5, 2) := by decide +kernel
theorem dX8_beds_98 : decode cX8_beds 98 = .ok (.iadd, 1) := by decide +kernel
theorem dX8_beds_99 : decode cX8_beds 99 = .ok (.aload_n 0, 1) := by decide +kernel
theorem dX8_beds_100 : decode cX8_beds 100 = .ok (.getfield 38, 3) := by decide +kernel
theorem dX8_beds_103 : decode cX8_beds 103 = .ok (.iload 5, 2) := by decide +kernel
theorem dX8_beds_105 : decode cX8_beds 105 = .ok (.iaload, 1) := by decide +kernel
theorem dX8_beds_106 : decode cX8_beds 106 = .ok (.iastore, 1) := by decide +kernel
theorem dX8_beds_107 : decode cX8_beds 107 = .ok (.iinc 5 1, 3) := by decide +kernel
theorem dX8_beds_110 : decode cX8_beds 110 = .ok (.goto (-31), 3) := by decide +kernel
theorem dX8_beds_113 : decode cX8_beds 113 = .ok (.aload_n 0, 1) := by decide +kernel
theorem dX8_beds_114 : decode cX8_beds 114 = .ok (.invokevirtual 111, 3) := by decide +kernel
theorem dX8_beds_117 : decode cX8_beds 117 = .ok (.istore 5, 2) := by decide +kernel
theorem dX8_beds_119 : decode cX8_beds 119 = .ok (.iload 5, 2) := by decide +kernel
theorem dX8_beds_121 : decode cX8_beds 121 = .ok (.iload_n 3, 1) := by decide +kernel
theorem dX8_beds_122 : decode cX8_beds 122 = .ok (.if_icmp .le 40, 3) := by decide +kernel
theorem dX8_beds_125 : decode cX8_beds 125 = .ok (.iload 5, 2) := by decide +kernel
theorem dX8_beds_127 : decode cX8_beds 127 = .ok (.istore_n 3, 1) := by decide +kernel
theorem dX8_beds_128 : decode cX8_beds 128 = .ok (.iconst 0, 1) := by decide +kernel
theorem dX8_beds_129 : decode cX8_beds 129 = .ok (.istore 6, 2) := by decide +kernel
theorem dX8_beds_131 : decode cX8_beds 131 = .ok (.iload 6, 2) := by decide +kernel
theorem dX8_beds_133 : decode cX8_beds 133 = .ok (.aload_n 0, 1) := by decide +kernel
theorem dX8_beds_134 : decode cX8_beds 134 = .ok (.getfield 13, 3) := by decide +kernel
theorem dX8_beds_137 : decode cX8_beds 137 = .ok (.iconst 0, 1) := by decide +kernel
theorem dX8_beds_138 : decode cX8_beds 138 = .ok (.iaload, 1) := by decide +kernel
theorem dX8_beds_139 : decode cX8_beds 139 = .ok (.if_icmp .ge 23, 3) := by decide +kernel
theorem dX8_beds_142 : decode cX8_beds 142 = .ok (.aload_n 0, 1) := by decide +kernel
theorem dX8_beds_143 : decode cX8_beds 143 = .ok (.getfield 41, 3) := by decide +kernel
theorem dX8_beds_146 : decode cX8_beds 146 = .ok (.iload 6, 2) := by decide +kernel
theorem dX8_beds_148 : decode cX8_beds 148 = .ok (.aload_n 0, 1) := by decide +kernel
theorem dX8_beds_149 : decode cX8_beds 149 = .ok (.getfield 38, 3) := by decide +kernel
theorem dX8_beds_152 : decode cX8_beds 152 = .ok (.iload 6, 2) := by decide +kernel
theorem dX8_beds_154 : decode cX8_beds 154 = .ok (.iaload, 1) := by decide +kernel
theorem dX8_beds_155 : decode cX8_beds 155 = .ok (.iastore, 1) := by decide +kernel
theorem dX8_beds_156 : decode cX8_beds 156 = .ok (.iinc 6 1, 3) := by decide +kernel
theorem dX8_beds_159 : decode cX8_beds 159 = .ok (.goto (-28), 3) := by decide +kernel
theorem dX8_beds_162 : decode cX8_beds 162 = .ok (.iinc 4 1, 3) := by decide +kernel
theorem dX8_beds_165 : decode cX8_beds 165 = .ok (.goto (-104), 3) := by decide +kernel
theorem dX8_beds_168 : decode cX8_beds 168 = .ok (.aload_n 0, 1) := by decide +kernel
theorem dX8_beds_169 : decode cX8_beds 169 = .ok (.invokevirtual 139, 3) := by decide +kernel
theorem dX8_beds_172 : decode cX8_beds 172 = .ok (.iload_n 1, 1) := by decide +kernel
theorem dX8_beds_173 : decode cX8_beds 173 = .ok (.iconst (-1), 1) := by decide +kernel
theorem dX8_beds_174 : decode cX8_beds 174 = .ok (.if_icmp .ne 7, 3) := by decide +kernel
theorem dX8_beds_177 : decode cX8_beds 177 = .ok (.iload_n 3, 1) := by decide +kernel
theorem dX8_beds_178 : decode cX8_beds 178 = .ok (.goto 9, 3) := by decide +kernel
theorem dX8_beds_181 : decode cX8_beds 181 = .ok (.aload_n 0, 1) := by decide +kernel
theorem dX8_beds_182 : decode cX8_beds 182 = .ok (.getfield 41, 3) := by decide +kernel
theorem dX8_beds_185 : decode cX8_beds 185 = .ok (.iload_n 1, 1) := by decide +kernel
theorem dX8_beds_186 : decode cX8_beds 186 = .ok (.iaload, 1) := by decide +kernel
theorem dX8_beds_187 : decode cX8_beds 187 = .ok (.ireturn, 1) := by decide +kernel
set_option maxRecDepth 20000 in
theorem ggX8_odds_X8_isBottle : GoodIn wsX8_odds wsX8_isBottle := goodIn_r _ [6, 7, 8, 9, 5, 10, 18, 19, 20, 21, 22, 23, 24, 25, 26, 27, 28, 29, 30, 31, 32, 33, 34, 35, 36] (by decide +kernel) (by decide +kernel)
set_option maxRecDepth 20000 in
theorem gX8_odds_X8_isBottle : GoodIn wsX8_odds (wsV RX8 105 RX8 yX8_isBottle wsX8_isBottle) := goodIn_app (goodIn_of _ (by decide +kernel)) ggX8_odds_X8_isBottle
set_option maxRecDepth 20000 in
theorem ggX8_odds_X8_in : GoodIn wsX8_odds wsX8_in := goodIn_r _ [10] (by decide +kernel) (by decide +kernel)
set_option maxRecDepth 20000 in
theorem gX8_odds_X8_in : GoodIn wsX8_odds (va_wsS RX8 51 yX8_in wsX8_in) := goodIn_app (goodIn_of _ (by decide +kernel)) ggX8_odds_X8_in
set_option maxRecDepth 20000 in
theorem ggX8_odds_X8_cools : GoodIn wsX8_odds wsX8_cools := goodIn_r _ [14, 7, 1, 18, 19, 20, 21, 22, 23, 24, 25, 26, 27, 28, 29, 30, 31, 32, 33, 34, 35, 36] (by decide +kernel) (by decide +kernel)
set_option maxRecDepth 20000 in
theorem gX8_odds_X8_cools : GoodIn wsX8_odds (wsV RX8 98 RX8 yX8_cools wsX8_cools) := goodIn_app (goodIn_of _ (by decide +kernel)) ggX8_odds_X8_cools
set_option maxRecDepth 20000 in
theorem ggX8_odds_X8_less : GoodIn wsX8_odds wsX8_less := goodIn_r _ [17] (by decide +kernel) (by decide +kernel)
set_option maxRecDepth 20000 in
theorem gX8_odds_X8_less : GoodIn wsX8_odds (va_wsS RX8 118 yX8_less wsX8_less) := goodIn_app (goodIn_of _ (by decide +kernel)) ggX8_odds_X8_less
theorem dX8_odds_0 : decode cX8_odds 0 = .ok (.aload_n 0, 1) := by decide +kernel
theorem dX8_odds_1 : decode cX8_odds 1 = .ok (.iload_n 1, 1) := by decide +kernel
theorem dX8_odds_2 : decode cX8_odds 2 = .ok (.invokevirtual 105, 3) := by decide +kernel
theorem dX8_odds_5 : decode cX8_odds 5 = .ok (.ifCond .eq 33, 3) := by decide +kernel
theorem dX8_odds_8 : decode cX8_odds 8 = .ok (.iload_n 2, 1) := by decide +kernel
theorem dX8_odds_9 : decode cX8_odds 9 = .ok (.iconst 0, 1) := by decide +kernel
theorem dX8_odds_10 : decode cX8_odds 10 = .ok (.bipush 10, 2) := by decide +kernel
theorem dX8_odds_12 : decode cX8_odds 12 = .ok (.invokestatic 51, 3) := by decide +kernel
theorem dX8_odds_15 : decode cX8_odds 15 = .ok (.ifCond .eq 23, 3) := by decide +kernel
theorem dX8_odds_18 : decode cX8_odds 18 = .ok (.iload_n 3, 1) := by decide +kernel
theorem dX8_odds_19 : decode cX8_odds 19 = .ok (.iconst 0, 1) := by decide +kernel
theorem dX8_odds_20 : decode cX8_odds 20 = .ok (.bipush 8, 2) := by decide +kernel
theorem dX8_odds_22 : decode cX8_odds 22 = .ok (.invokestatic 51, 3) := by decide +kernel
theorem dX8_odds_25 : decode cX8_odds 25 = .ok (.ifCond .eq 13, 3) := by decide +kernel
theorem dX8_odds_28 : decode cX8_odds 28 = .ok (.iload 4, 2) := by decide +kernel
theorem dX8_odds_30 : decode cX8_odds 30 = .ok (.iconst 0, 1) := by decide +kernel
theorem dX8_odds_31 : decode cX8_odds 31 = .ok (.iconst 1, 1) := by decide +kernel
theorem dX8_odds_32 : decode cX8_odds 32 = .ok (.invokestatic 51, 3) := by decide +kernel
theorem dX8_odds_35 : decode cX8_odds 35 = .ok (.ifCond .ne 5, 3) := by decide +kernel
theorem dX8_odds_38 : decode cX8_odds 38 = .ok (.iconst (-1), 1) := by decide +kernel
theorem dX8_odds_39 : decode cX8_odds 39 = .ok (.ireturn, 1) := by decide +kernel
theorem dX8_odds_40 : decode cX8_odds 40 = .ok (.iconst 0, 1) := by decide +kernel
theorem dX8_odds_41 : decode cX8_odds 41 = .ok (.istore 5, 2) := by decide +kernel
theorem dX8_odds_43 : decode cX8_odds 43 = .ok (.iconst 1, 1) := by decide +kernel
theorem dX8_odds_44 : decode cX8_odds 44 = .ok (.istore 6, 2) := by decide +kernel
theorem dX8_odds_46 : decode cX8_odds 46 = .ok (.iconst 0, 1) := by decide +kernel
theorem dX8_odds_47 : decode cX8_odds 47 = .ok (.istore 7, 2) := by decide +kernel
theorem dX8_odds_49 : decode cX8_odds 49 = .ok (.iload 7, 2) := by decide +kernel
theorem dX8_odds_51 : decode cX8_odds 51 = .ok (.iload_n 3, 1) := by decide +kernel
theorem dX8_odds_52 : decode cX8_odds 52 = .ok (.if_icmp .ge 16, 3) := by decide +kernel
theorem dX8_odds_55 : decode cX8_odds 55 = .ok (.iload 6, 2) := by decide +kernel
theorem dX8_odds_57 : decode cX8_odds 57 = .ok (.bipush 10, 2) := by decide +kernel
theorem dX8_odds_59 : decode cX8_odds 59 = .ok (.imul, 1) := by decide +kernel
theorem dX8_odds_60 : decode cX8_odds 60 = .ok (.istore 6, 2) := by decide +kernel
theorem dX8_odds_62 : decode cX8_odds 62 = .ok (.iinc 7 1, 3) := by decide +kernel
theorem dX8_odds_65 : decode cX8_odds 65 = .ok (.goto (-16), 3) := by decide +kernel
theorem dX8_odds_68 : decode cX8_odds 68 = .ok (.iconst 0, 1) := by decide +kernel
theorem dX8_odds_69 : decode cX8_odds 69 = .ok (.istore 7, 2) := by decide +kernel
theorem dX8_odds_71 : decode cX8_odds 71 = .ok (.iload 7, 2) := by decide +kernel
theorem dX8_odds_73 : decode cX8_odds 73 = .ok (.iconst 1, 1) := by decide +kernel
theorem dX8_odds_74 : decode cX8_odds 74 = .ok (.iload_n 3, 1) := by decide +kernel
theorem dX8_odds_75 : decode cX8_odds 75 = .ok (.ishl, 1) := by decide +kernel
theorem dX8_odds_76 : decode cX8_odds 76 = .ok (.if_icmp .ge 118, 3) := by decide +kernel
theorem dX8_odds_79 : decode cX8_odds 79 = .ok (.iconst 1, 1) := by decide +kernel
theorem dX8_odds_80 : decode cX8_odds 80 = .ok (.istore 8, 2) := by decide +kernel
theorem dX8_odds_82 : decode cX8_odds 82 = .ok (.aload_n 0, 1) := by decide +kernel
theorem dX8_odds_83 : decode cX8_odds 83 = .ok (.getfield 19, 3) := by decide +kernel
theorem dX8_odds_86 : decode cX8_odds 86 = .ok (.iconst 3, 1) := by decide +kernel
theorem dX8_odds_87 : decode cX8_odds 87 = .ok (.iload_n 1, 1) := by decide +kernel
theorem dX8_odds_88 : decode cX8_odds 88 = .ok (.iadd, 1) := by decide +kernel
theorem dX8_odds_89 : decode cX8_odds 89 = .ok (.iaload, 1) := by decide +kernel
theorem dX8_odds_90 : decode cX8_odds 90 = .ok (.istore 9, 2) := by decide +kernel
theorem dX8_odds_92 : decode cX8_odds 92 = .ok (.iconst 0, 1) := by decide +kernel
theorem dX8_odds_93 : decode cX8_odds 93 = .ok (.istore 10, 2) := by decide +kernel
theorem dX8_odds_95 : decode cX8_odds 95 = .ok (.iload 10, 2) := by decide +kernel
theorem dX8_odds_97 : decode cX8_odds 97 = .ok (.iload_n 3, 1) := by decide +kernel
theorem dX8_odds_98 : decode cX8_odds 98 = .ok (.if_icmp .ge 74, 3) := by decide +kernel
theorem dX8_odds_101 : decode cX8_odds 101 = .ok (.iload 7, 2) := by decide +kernel
theorem dX8_odds_103 : decode cX8_odds 103 = .ok (.iload 10, 2) := by decide +kernel
theorem dX8_odds_105 : decode cX8_odds 105 = .ok (.ishr, 1) := by decide +kernel
theorem dX8_odds_106 : decode cX8_odds 106 = .ok (.iconst 1, 1) := by decide +kernel
theorem dX8_odds_107 : decode cX8_odds 107 = .ok (.iand, 1) := by decide +kernel
theorem dX8_odds_108 : decode cX8_odds 108 = .ok (.iconst 1, 1) := by decide +kernel
theorem dX8_odds_109 : decode cX8_odds 109 = .ok (.if_icmp .ne 7, 3) := by decide +kernel
theorem dX8_odds_112 : decode cX8_odds 112 = .ok (.iconst 1, 1) := by decide +kernel
theorem dX8_odds_113 : decode cX8_odds 113 = .ok (.goto 4, 3) := by decide +kernel
theorem dX8_odds_116 : decode cX8_odds 116 = .ok (.iconst 0, 1) := by decide +kernel
theorem dX8_odds_117 : decode cX8_odds 117 = .ok (.istore 11, 2) := by decide +kernel
theorem dX8_odds_119 : decode cX8_odds 119 = .ok (.iload 8, 2) := by decide +kernel
theorem dX8_odds_121 : decode cX8_odds 121 = .ok (.iload 11, 2) := by decide +kernel
theorem dX8_odds_123 : decode cX8_odds 123 = .ok (.ifCond .eq 7, 3) := by decide +kernel
theorem dX8_odds_126 : decode cX8_odds 126 = .ok (.iload_n 2, 1) := by decide +kernel
theorem dX8_odds_127 : decode cX8_odds 127 = .ok (.goto 7, 3) := by decide +kernel
theorem dX8_odds_130 : decode cX8_odds 130 = .ok (.bipush 10, 2) := by decide +kernel
theorem dX8_odds_132 : decode cX8_odds 132 = .ok (.iload_n 2, 1) := by decide +kernel
theorem dX8_odds_133 : decode cX8_odds 133 = .ok (.isub, 1) := by decide +kernel
theorem dX8_odds_134 : decode cX8_odds 134 = .ok (.imul, 1) := by decide +kernel
theorem dX8_odds_135 : decode cX8_odds 135 = .ok (.istore 8, 2) := by decide +kernel
theorem dX8_odds_137 : decode cX8_odds 137 = .ok (.iload 9, 2) := by decide +kernel
theorem dX8_odds_139 : decode cX8_odds 139 = .ok (.aload_n 0, 1) := by decide +kernel
theorem dX8_odds_140 : decode cX8_odds 140 = .ok (.iload_n 1, 1) := by decide +kernel
theorem dX8_odds_141 : decode cX8_odds 141 = .ok (.aload_n 0, 1) := by decide +kernel
theorem dX8_odds_142 : decode cX8_odds 142 = .ok (.getfield 19, 3) := by decide +kernel
theorem dX8_odds_145 : decode cX8_odds 145 = .ok (.iconst 1, 1) := by decide +kernel
theorem dX8_odds_146 : decode cX8_odds 146 = .ok (.iaload, 1) := by decide +kernel
theorem dX8_odds_147 : decode cX8_odds 147 = .ok (.iload 11, 2) := by decide +kernel
theorem dX8_odds_149 : decode cX8_odds 149 = .ok (.ifCond .eq 7, 3) := by decide +kernel
theorem dX8_odds_152 : decode cX8_odds 152 = .ok (.iconst 5, 1) := by decide +kernel
theorem dX8_odds_153 : decode cX8_odds 153 = .ok (.goto 4, 3) := by decide +kernel
theorem dX8_odds_156 : decode cX8_odds 156 = .ok (.iconst 0, 1) := by decide +kernel
theorem dX8_odds_157 : decode cX8_odds 157 = .ok (.iadd, 1) := by decide +kernel
theorem dX8_odds_158 : decode cX8_odds 158 = .ok (.invokevirtual 98, 3) := by decide +kernel
theorem dX8_odds_161 : decode cX8_odds 161 = .ok (.invokestatic 118, 3) := by decide +kernel
theorem dX8_odds_164 : decode cX8_odds 164 = .ok (.istore 9, 2) := by decide +kernel
theorem dX8_odds_166 : decode cX8_odds 166 = .ok (.iinc 10 1, 3) := by decide +kernel
theorem dX8_odds_169 : decode cX8_odds 169 = .ok (.goto (-74), 3) := by decide +kernel
theorem dX8_odds_172 : decode cX8_odds 172 = .ok (.iload 5, 2) := by decide +kernel
theorem dX8_odds_174 : decode cX8_odds 174 = .ok (.iload 9, 2) := by decide +kernel
theorem dX8_odds_176 : decode cX8_odds 176 = .ok (.ifCond .le 8, 3) := by decide +kernel
theorem dX8_odds_179 : decode cX8_odds 179 = .ok (.iload 8, 2) := by decide +kernel
theorem dX8_odds_181 : decode cX8_odds 181 = .ok (.goto 4, 3) := by decide +kernel
theorem dX8_odds_184 : decode cX8_odds 184 = .ok (.iconst 0, 1) := by decide +kernel
theorem dX8_odds_185 : decode cX8_odds 185 = .ok (.iadd, 1) := by decide +kernel
theorem dX8_odds_186 : decode cX8_odds 186 = .ok (.istore 5, 2) := by decide +kernel
theorem dX8_odds_188 : decode cX8_odds 188 = .ok (.iinc 7 1, 3) := by decide +kernel
theorem dX8_odds_191 : decode cX8_odds 191 = .ok (.goto (-120), 3) := by decide +kernel
theorem dX8_odds_194 : decode cX8_odds 194 = .ok (.iload 5, 2) := by decide +kernel
theorem dX8_odds_196 : decode cX8_odds 196 = .ok (.istore 7, 2) := by decide +kernel
theorem dX8_odds_198 : decode cX8_odds 198 = .ok (.iload 6, 2) := by decide +kernel
theorem dX8_odds_200 : decode cX8_odds 200 = .ok (.istore 8, 2) := by decide +kernel
theorem dX8_odds_202 : decode cX8_odds 202 = .ok (.iload 8, 2) := by decide +kernel
theorem dX8_odds_204 : decode cX8_odds 204 = .ok (.ifCond .le 21, 3) := by decide +kernel
theorem dX8_odds_207 : decode cX8_odds 207 = .ok (.iload 7, 2) := by decide +kernel
theorem dX8_odds_209 : decode cX8_odds 209 = .ok (.iload 8, 2) := by decide +kernel
theorem dX8_odds_211 : decode cX8_odds 211 = .ok (.irem, 1) := by decide +kernel
theorem dX8_odds_212 : decode cX8_odds 212 = .ok (.istore 9, 2) := by decide +kernel
theorem dX8_odds_214 : decode cX8_odds 214 = .ok (.iload 8, 2) := by decide +kernel
theorem dX8_odds_216 : decode cX8_odds 216 = .ok (.istore 7, 2) := by decide +kernel
theorem dX8_odds_218 : decode cX8_odds 218 = .ok (.iload 9, 2) := by decide +kernel
theorem dX8_odds_220 : decode cX8_odds 220 = .ok (.istore 8, 2) := by decide +kernel
theorem dX8_odds_222 : decode cX8_odds 222 = .ok (.goto (-20), 3) := by decide +kernel
theorem dX8_odds_225 : decode cX8_odds 225 = .ok (.iload 4, 2) := by decide +kernel
theorem dX8_odds_227 : decode cX8_odds 227 = .ok (.ifCond .ne 11, 3) := by decide +kernel
theorem dX8_odds_230 : decode cX8_odds 230 = .ok (.iload 5, 2) := by decide +kernel
theorem dX8_odds_232 : decode cX8_odds 232 = .ok (.iload 7, 2) := by decide +kernel
theorem dX8_odds_234 : decode cX8_odds 234 = .ok (.idiv, 1) := by decide +kernel
theorem dX8_odds_235 : decode cX8_odds 235 = .ok (.goto 8, 3) := by decide +kernel
theorem dX8_odds_238 : decode cX8_odds 238 = .ok (.iload 6, 2) := by decide +kernel
theorem dX8_odds_240 : decode cX8_odds 240 = .ok (.iload 7, 2) := by decide +kernel
theorem dX8_odds_242 : decode cX8_odds 242 = .ok (.idiv, 1) := by decide +kernel
theorem dX8_odds_243 : decode cX8_odds 243 = .ok (.ireturn, 1) := by decide +kernel
set_option maxRecDepth 20000 in
theorem ggX8_hears_X8_in : GoodIn wsX8_hears wsX8_in := goodIn_r _ [6] (by decide +kernel) (by decide +kernel)
set_option maxRecDepth 20000 in
theorem gX8_hears_X8_in : GoodIn wsX8_hears (va_wsS RX8 51 yX8_in wsX8_in) := goodIn_app (goodIn_of _ (by decide +kernel)) ggX8_hears_X8_in
theorem dX8_hears_0 : decode cX8_hears 0 = .ok (.iload_n 1, 1) := by decide +kernel
theorem dX8_hears_1 : decode cX8_hears 1 = .ok (.iconst 0, 1) := by decide +kernel
theorem dX8_hears_2 : decode cX8_hears 2 = .ok (.bipush 9, 2) := by decide +kernel
theorem dX8_hears_4 : decode cX8_hears 4 = .ok (.invokestatic 51, 3) := by decide +kernel
theorem dX8_hears_7 : decode cX8_hears 7 = .ok (.ifCond .eq 12, 3) := by decide +kernel
theorem dX8_hears_10 : decode cX8_hears 10 = .ok (.iload_n 2, 1) := by decide +kernel
theorem dX8_hears_11 : decode cX8_hears 11 = .ok (.iconst 0, 1) := by decide +kernel
theorem dX8_hears_12 : decode cX8_hears 12 = .ok (.iconst 2, 1) := by decide +kernel
theorem dX8_hears_13 : decode cX8_hears 13 = .ok (.invokestatic 51, 3) := by decide +kernel
theorem dX8_hears_16 : decode cX8_hears 16 = .ok (.ifCond .ne 5, 3) := by decide +kernel
theorem dX8_hears_19 : decode cX8_hears 19 = .ok (.iconst (-1), 1) := by decide +kernel
theorem dX8_hears_20 : decode cX8_hears 20 = .ok (.ireturn, 1) := by decide +kernel
theorem dX8_hears_21 : decode cX8_hears 21 = .ok (.aload_n 0, 1) := by decide +kernel
theorem dX8_hears_22 : decode cX8_hears 22 = .ok (.getfield 95, 3) := by decide +kernel
theorem dX8_hears_25 : decode cX8_hears 25 = .ok (.bipush 6, 2) := by decide +kernel
theorem dX8_hears_27 : decode cX8_hears 27 = .ok (.if_icmp .ne 6, 3) := by decide +kernel
theorem dX8_hears_30 : decode cX8_hears 30 = .ok (.bipush (-3), 2) := by decide +kernel
theorem dX8_hears_32 : decode cX8_hears 32 = .ok (.ireturn, 1) := by decide +kernel
theorem dX8_hears_33 : decode cX8_hears 33 = .ok (.aload_n 0, 1) := by decide +kernel
theorem dX8_hears_34 : decode cX8_hears 34 = .ok (.getfield 32, 3) := by decide +kernel
theorem dX8_hears_37 : decode cX8_hears 37 = .ok (.iconst 2, 1) := by decide +kernel
theorem dX8_hears_38 : decode cX8_hears 38 = .ok (.aload_n 0, 1) := by decide +kernel
theorem dX8_hears_39 : decode cX8_hears 39 = .ok (.getfield 95, 3) := by decide +kernel
theorem dX8_hears_42 : decode cX8_hears 42 = .ok (.imul, 1) := by decide +kernel
theorem dX8_hears_43 : decode cX8_hears 43 = .ok (.iload_n 1, 1) := by decide +kernel
theorem dX8_hears_44 : decode cX8_hears 44 = .ok (.iastore, 1) := by decide +kernel
theorem dX8_hears_45 : decode cX8_hears 45 = .ok (.aload_n 0, 1) := by decide +kernel
theorem dX8_hears_46 : decode cX8_hears 46 = .ok (.getfield 32, 3) := by decide +kernel
theorem dX8_hears_49 : decode cX8_hears 49 = .ok (.iconst 2, 1) := by decide +kernel
theorem dX8_hears_50 : decode cX8_hears 50 = .ok (.aload_n 0, 1) := by decide +kernel
theorem dX8_hears_51 : decode cX8_hears 51 = .ok (.getfield 95, 3) := by decide +kernel
theorem dX8_hears_54 : decode cX8_hears 54 = .ok (.imul, 1) := by decide +kernel
theorem dX8_hears_55 : decode cX8_hears 55 = .ok (.iconst 1, 1) := by decide +kernel
theorem dX8_hears_56 : decode cX8_hears 56 = .ok (.iadd, 1) := by decide +kernel
theorem dX8_hears_57 : decode cX8_hears 57 = .ok (.iload_n 2, 1) := by decide +kernel
theorem dX8_hears_58 : decode cX8_hears 58 = .ok (.iastore, 1) := by decide +kernel
theorem dX8_hears_59 : decode cX8_hears 59 = .ok (.aload_n 0, 1) := by decide +kernel
theorem dX8_hears_60 : decode cX8_hears 60 = .ok (.dup, 1) := by decide +kernel
theorem dX8_hears_61 : decode cX8_hears 61 = .ok (.getfield 95, 3) := by decide +kernel
theorem dX8_hears_64 : decode cX8_hears 64 = .ok (.iconst 1, 1) := by decide +kernel
theorem dX8_hears_65 : decode cX8_hears 65 = .ok (.iadd, 1) := by decide +kernel
theorem dX8_hears_66 : decode cX8_hears 66 = .ok (.putfield 95, 3) := by decide +kernel
theorem dX8_hears_69 : decode cX8_hears 69 = .ok (.aload_n 0, 1) := by decide +kernel
theorem dX8_hears_70 : decode cX8_hears 70 = .ok (.getfield 95, 3) := by decide +kernel
theorem dX8_hears_73 : decode cX8_hears 73 = .ok (.ireturn, 1) := by decide +kernel
theorem dX8_forget_0 : decode cX8_forget 0 = .ok (.aload_n 0, 1) := by decide +kernel
theorem dX8_forget_1 : decode cX8_forget 1 = .ok (.getfield 95, 3) := by decide +kernel
theorem dX8_forget_4 : decode cX8_forget 4 = .ok (.istore_n 1, 1) := by decide +kernel
theorem dX8_forget_5 : decode cX8_forget 5 = .ok (.aload_n 0, 1) := by decide +kernel
theorem dX8_forget_6 : decode cX8_forget 6 = .ok (.iconst 0, 1) := by decide +kernel
theorem dX8_forget_7 : decode cX8_forget 7 = .ok (.putfield 95, 3) := by decide +kernel
theorem dX8_forget_10 : decode cX8_forget 10 = .ok (.iload_n 1, 1) := by decide +kernel
theorem dX8_forget_11 : decode cX8_forget 11 = .ok (.ireturn, 1) := by decide +kernel
set_option maxRecDepth 20000 in
theorem ggX8_soundIn_X8_cools : GoodIn wsX8_soundIn wsX8_cools := goodIn_r _ [6, 7, 1, 15, 16, 17, 18, 19, 20, 21, 22, 23, 24, 25, 26, 27, 28, 29, 30, 31, 32, 33] (by decide +kernel) (by decide +kernel)
set_option maxRecDepth 20000 in
theorem gX8_soundIn_X8_cools : GoodIn wsX8_soundIn (wsV RX8 98 RX8 yX8_cools wsX8_cools) := goodIn_app (goodIn_of _ (by decide +kernel)) ggX8_soundIn_X8_cools
set_option maxRecDepth 20000 in
theorem ggX8_soundIn_X8_less : GoodIn wsX8_soundIn wsX8_less := goodIn_r _ [10] (by decide +kernel) (by decide +kernel)
set_option maxRecDepth 20000 in
theorem gX8_soundIn_X8_less : GoodIn wsX8_soundIn (va_wsS RX8 118 yX8_less wsX8_less) := goodIn_app (goodIn_of _ (by decide +kernel)) ggX8_soundIn_X8_less
set_option maxRecDepth 20000 in
theorem ggX8_soundIn_X8_soundOf : GoodIn wsX8_soundIn wsX8_soundOf := goodIn_r _ [14, 7, 15, 16, 17, 18, 19, 20, 21, 22, 23, 24, 25, 26, 27, 28, 29, 30, 31, 32, 33] (by decide +kernel) (by decide +kernel)
set_option maxRecDepth 20000 in
theorem gX8_soundIn_X8_soundOf : GoodIn wsX8_soundIn (wsV RX8 108 RX8 yX8_soundOf wsX8_soundOf) := goodIn_app (goodIn_of _ (by decide +kernel)) ggX8_soundIn_X8_soundOf
theorem dX8_soundIn_0 : decode cX8_soundIn 0 = .ok (.aload_n 0, 1) := by decide +kernel
theorem dX8_soundIn_1 : decode cX8_soundIn 1 = .ok (.iload_n 1, 1) := by decide +kernel
theorem dX8_soundIn_2 : decode cX8_soundIn 2 = .ok (.aload_n 0, 1) := by decide +kernel
theorem dX8_soundIn_3 : decode cX8_soundIn 3 = .ok (.getfield 19, 3) := by decide +kernel
theorem dX8_soundIn_6 : decode cX8_soundIn 6 = .ok (.iconst 3, 1) := by decide +kernel
theorem dX8_soundIn_7 : decode cX8_soundIn 7 = .ok (.iload_n 1, 1) := by decide +kernel
theorem dX8_soundIn_8 : decode cX8_soundIn 8 = .ok (.iadd, 1) := by decide +kernel
theorem dX8_soundIn_9 : decode cX8_soundIn 9 = .ok (.iaload, 1) := by decide +kernel
theorem dX8_soundIn_10 : decode cX8_soundIn 10 = .ok (.iload_n 2, 1) := by decide +kernel
theorem dX8_soundIn_11 : decode cX8_soundIn 11 = .ok (.aload_n 0, 1) := by decide +kernel
theorem dX8_soundIn_12 : decode cX8_soundIn 12 = .ok (.iload_n 1, 1) := by decide +kernel
theorem dX8_soundIn_13 : decode cX8_soundIn 13 = .ok (.aload_n 0, 1) := by decide +kernel
theorem dX8_soundIn_14 : decode cX8_soundIn 14 = .ok (.getfield 19, 3) := by decide +kernel
theorem dX8_soundIn_17 : decode cX8_soundIn 17 = .ok (.iconst 1, 1) := by decide +kernel
theorem dX8_soundIn_18 : decode cX8_soundIn 18 = .ok (.iaload, 1) := by decide +kernel
theorem dX8_soundIn_19 : decode cX8_soundIn 19 = .ok (.invokevirtual 98, 3) := by decide +kernel
theorem dX8_soundIn_22 : decode cX8_soundIn 22 = .ok (.imul, 1) := by decide +kernel
theorem dX8_soundIn_23 : decode cX8_soundIn 23 = .ok (.invokestatic 118, 3) := by decide +kernel
theorem dX8_soundIn_26 : decode cX8_soundIn 26 = .ok (.invokevirtual 108, 3) := by decide +kernel
theorem dX8_soundIn_29 : decode cX8_soundIn 29 = .ok (.ireturn, 1) := by decide +kernel
set_option maxRecDepth 20000 in
theorem ggX8_whoNow_X8_soundIn : GoodIn wsX8_whoNow wsX8_soundIn := goodIn_r _ [8, 9, 10, 11, 12, 7, 13, 1, 14, 15, 16, 17, 18, 19, 20, 21, 22, 23, 24, 25, 26, 27, 28, 29, 30, 31, 32, 33, 34, 35, 36, 37, 38, 39] (by decide +kernel) (by decide +kernel)
set_option maxRecDepth 20000 in
theorem gX8_whoNow_X8_soundIn : GoodIn wsX8_whoNow (wsV RX8 145 RX8 yX8_soundIn wsX8_soundIn) := goodIn_app (goodIn_of _ (by decide +kernel)) ggX8_whoNow_X8_soundIn
theorem dX8_whoNow_0 : decode cX8_whoNow 0 = .ok (.iconst 0, 1) := by decide +kernel
theorem dX8_whoNow_1 : decode cX8_whoNow 1 = .ok (.istore_n 1, 1) := by decide +kernel
theorem dX8_whoNow_2 : decode cX8_whoNow 2 = .ok (.iconst 0, 1) := by decide +kernel
theorem dX8_whoNow_3 : decode cX8_whoNow 3 = .ok (.istore_n 2, 1) := by decide +kernel
theorem dX8_whoNow_4 : decode cX8_whoNow 4 = .ok (.iload_n 2, 1) := by decide +kernel
theorem dX8_whoNow_5 : decode cX8_whoNow 5 = .ok (.aload_n 0, 1) := by decide +kernel
theorem dX8_whoNow_6 : decode cX8_whoNow 6 = .ok (.getfield 13, 3) := by decide +kernel
theorem dX8_whoNow_9 : decode cX8_whoNow 9 = .ok (.iconst 0, 1) := by decide +kernel
theorem dX8_whoNow_10 : decode cX8_whoNow 10 = .ok (.iaload, 1) := by decide +kernel
theorem dX8_whoNow_11 : decode cX8_whoNow 11 = .ok (.if_icmp .ge 81, 3) := by decide +kernel
theorem dX8_whoNow_14 : decode cX8_whoNow 14 = .ok (.iconst 1, 1) := by decide +kernel
theorem dX8_whoNow_15 : decode cX8_whoNow 15 = .ok (.istore_n 3, 1) := by decide +kernel
theorem dX8_whoNow_16 : decode cX8_whoNow 16 = .ok (.iconst 0, 1) := by decide +kernel
theorem dX8_whoNow_17 : decode cX8_whoNow 17 = .ok (.istore 4, 2) := by decide +kernel
theorem dX8_whoNow_19 : decode cX8_whoNow 19 = .ok (.iload 4, 2) := by decide +kernel
theorem dX8_whoNow_21 : decode cX8_whoNow 21 = .ok (.aload_n 0, 1) := by decide +kernel
theorem dX8_whoNow_22 : decode cX8_whoNow 22 = .ok (.getfield 95, 3) := by decide +kernel
theorem dX8_whoNow_25 : decode cX8_whoNow 25 = .ok (.if_icmp .ge 47, 3) := by decide +kernel
theorem dX8_whoNow_28 : decode cX8_whoNow 28 = .ok (.iload_n 3, 1) := by decide +kernel
theorem dX8_whoNow_29 : decode cX8_whoNow 29 = .ok (.ifCond .eq 35, 3) := by decide +kernel
theorem dX8_whoNow_32 : decode cX8_whoNow 32 = .ok (.aload_n 0, 1) := by decide +kernel
theorem dX8_whoNow_33 : decode cX8_whoNow 33 = .ok (.iload_n 2, 1) := by decide +kernel
theorem dX8_whoNow_34 : decode cX8_whoNow 34 = .ok (.aload_n 0, 1) := by decide +kernel
theorem dX8_whoNow_35 : decode cX8_whoNow 35 = .ok (.getfield 32, 3) := by decide +kernel
theorem dX8_whoNow_38 : decode cX8_whoNow 38 = .ok (.iconst 2, 1) := by decide +kernel
theorem dX8_whoNow_39 : decode cX8_whoNow 39 = .ok (.iload 4, 2) := by decide +kernel
theorem dX8_whoNow_41 : decode cX8_whoNow 41 = .ok (.imul, 1) := by decide +kernel
theorem dX8_whoNow_42 : decode cX8_whoNow 42 = .ok (.iaload, 1) := by decide +kernel
theorem dX8_whoNow_43 : decode cX8_whoNow 43 = .ok (.invokevirtual 145, 3) := by decide +kernel
theorem dX8_whoNow_46 : decode cX8_whoNow 46 = .ok (.aload_n 0, 1) := by decide +kernel
end
section
theorem dX8_whoNow_47 : decode cX8_whoNow 47 = .ok (.getfield 32, 3) := by decide +kernel
theorem dX8_whoNow_50 : decode cX8_whoNow 50 = .ok (.iconst 2, 1) := by decide +kernel
theorem dX8_whoNow_51 : decode cX8_whoNow 51 = .ok (.iload 4, 2) := by decide +kernel
theorem dX8_whoNow_53 : decode cX8_whoNow 53 = .ok (.imul, 1) := by decide +kernel
theorem dX8_whoNow_54 : decode cX8_whoNow 54 = .ok (.iconst 1, 1) := by decide +kernel
theorem dX8_whoNow_55 : decode cX8_whoNow 55 = .ok (.iadd, 1) := by decide +kernel
theorem dX8_whoNow_56 : decode cX8_whoNow 56 = .ok (.iaload, 1) := by decide +kernel
theorem dX8_whoNow_57 : decode cX8_whoNow 57 = .ok (.if_icmp .ne 7, 3) := by decide +kernel
theorem dX8_whoNow_60 : decode cX8_whoNow 60 = .ok (.iconst 1, 1) := by decide +kernel
theorem dX8_whoNow_61 : decode cX8_whoNow 61 = .ok (.goto 4, 3) := by decide +kernel
theorem dX8_whoNow_64 : decode cX8_whoNow 64 = .ok (.iconst 0, 1) := by decide +kernel
theorem dX8_whoNow_65 : decode cX8_whoNow 65 = .ok (.istore_n 3, 1) := by decide +kernel
theorem dX8_whoNow_66 : decode cX8_whoNow 66 = .ok (.iinc 4 1, 3) := by decide +kernel
theorem dX8_whoNow_69 : decode cX8_whoNow 69 = .ok (.goto (-50), 3) := by decide +kernel
theorem dX8_whoNow_72 : decode cX8_whoNow 72 = .ok (.iload_n 1, 1) := by decide +kernel
theorem dX8_whoNow_73 : decode cX8_whoNow 73 = .ok (.iload_n 3, 1) := by decide +kernel
theorem dX8_whoNow_74 : decode cX8_whoNow 74 = .ok (.ifCond .eq 9, 3) := by decide +kernel
theorem dX8_whoNow_77 : decode cX8_whoNow 77 = .ok (.iconst 1, 1) := by decide +kernel
theorem dX8_whoNow_78 : decode cX8_whoNow 78 = .ok (.iload_n 2, 1) := by decide +kernel
theorem dX8_whoNow_79 : decode cX8_whoNow 79 = .ok (.ishl, 1) := by decide +kernel
theorem dX8_whoNow_80 : decode cX8_whoNow 80 = .ok (.goto 4, 3) := by decide +kernel
theorem dX8_whoNow_83 : decode cX8_whoNow 83 = .ok (.iconst 0, 1) := by decide +kernel
theorem dX8_whoNow_84 : decode cX8_whoNow 84 = .ok (.ior, 1) := by decide +kernel
theorem dX8_whoNow_85 : decode cX8_whoNow 85 = .ok (.istore_n 1, 1) := by decide +kernel
theorem dX8_whoNow_86 : decode cX8_whoNow 86 = .ok (.iinc 2 1, 3) := by decide +kernel
theorem dX8_whoNow_89 : decode cX8_whoNow 89 = .ok (.goto (-85), 3) := by decide +kernel
theorem dX8_whoNow_92 : decode cX8_whoNow 92 = .ok (.iload_n 1, 1) := by decide +kernel
theorem dX8_whoNow_93 : decode cX8_whoNow 93 = .ok (.ireturn, 1) := by decide +kernel
set_option maxRecDepth 20000 in
theorem ggX8_who_X8_whoNow : GoodIn wsX8_who wsX8_whoNow := goodIn_r _ [5, 6, 7, 8, 9, 10, 11, 4, 12, 13, 14, 15, 16, 17, 18, 19, 20, 21, 22, 23, 24, 25, 26, 27, 28, 29, 30, 31, 32, 33, 34, 35, 36, 37, 38, 39, 40, 41, 42, 43] (by decide +kernel) (by decide +kernel)
set_option maxRecDepth 20000 in
theorem gX8_who_X8_whoNow : GoodIn wsX8_who (wsV RX8 148 RX8 yX8_whoNow wsX8_whoNow) := goodIn_app (goodIn_of _ (by decide +kernel)) ggX8_who_X8_whoNow
theorem dX8_who_0 : decode cX8_who 0 = .ok (.aload_n 0, 1) := by decide +kernel
theorem dX8_who_1 : decode cX8_who 1 = .ok (.invokevirtual 148, 3) := by decide +kernel
theorem dX8_who_4 : decode cX8_who 4 = .ok (.ireturn, 1) := by decide +kernel
set_option maxRecDepth 20000 in
theorem ggX8_listen_X8_whoNow : GoodIn wsX8_listen wsX8_whoNow := goodIn_r _ [6, 1, 7, 8, 9, 10, 11, 5, 12, 13, 14, 15, 16, 17, 18, 19, 20, 21, 22, 23, 24, 25, 26, 27, 28, 29, 30, 31, 32, 33, 34, 35, 36, 37, 38, 39, 40, 41, 42, 43] (by decide +kernel) (by decide +kernel)
set_option maxRecDepth 20000 in
theorem gX8_listen_X8_whoNow : GoodIn wsX8_listen (wsV RX8 148 RX8 yX8_whoNow wsX8_whoNow) := goodIn_app (goodIn_of _ (by decide +kernel)) ggX8_listen_X8_whoNow
set_option maxRecDepth 20000 in
theorem ggX8_listen_X8_soundIn : GoodIn wsX8_listen wsX8_soundIn := goodIn_r _ [12, 13, 14, 15, 16, 5, 17, 1, 18, 19, 20, 21, 22, 23, 24, 25, 26, 27, 28, 29, 30, 31, 32, 33, 34, 35, 36, 37, 38, 39, 40, 41, 42, 43] (by decide +kernel) (by decide +kernel)
set_option maxRecDepth 20000 in
theorem gX8_listen_X8_soundIn : GoodIn wsX8_listen (wsV RX8 145 RX8 yX8_soundIn wsX8_soundIn) := goodIn_app (goodIn_of _ (by decide +kernel)) ggX8_listen_X8_soundIn
theorem dX8_listen_0 : decode cX8_listen 0 = .ok (.aload_n 0, 1) := by decide +kernel
theorem dX8_listen_1 : decode cX8_listen 1 = .ok (.invokevirtual 148, 3) := by decide +kernel
theorem dX8_listen_4 : decode cX8_listen 4 = .ok (.istore_n 1, 1) := by decide +kernel
theorem dX8_listen_5 : decode cX8_listen 5 = .ok (.bipush (-9), 2) := by decide +kernel
theorem dX8_listen_7 : decode cX8_listen 7 = .ok (.istore_n 2, 1) := by decide +kernel
theorem dX8_listen_8 : decode cX8_listen 8 = .ok (.bipush 99, 2) := by decide +kernel
theorem dX8_listen_10 : decode cX8_listen 10 = .ok (.istore_n 3, 1) := by decide +kernel
theorem dX8_listen_11 : decode cX8_listen 11 = .ok (.iconst 0, 1) := by decide +kernel
theorem dX8_listen_12 : decode cX8_listen 12 = .ok (.istore 4, 2) := by decide +kernel
theorem dX8_listen_14 : decode cX8_listen 14 = .ok (.iload 4, 2) := by decide +kernel
theorem dX8_listen_16 : decode cX8_listen 16 = .ok (.bipush 10, 2) := by decide +kernel
theorem dX8_listen_18 : decode cX8_listen 18 = .ok (.if_icmp .ge 133, 3) := by decide +kernel
theorem dX8_listen_21 : decode cX8_listen 21 = .ok (.iload_n 1, 1) := by decide +kernel
theorem dX8_listen_22 : decode cX8_listen 22 = .ok (.iload_n 1, 1) := by decide +kernel
theorem dX8_listen_23 : decode cX8_listen 23 = .ok (.iconst 1, 1) := by decide +kernel
theorem dX8_listen_24 : decode cX8_listen 24 = .ok (.isub, 1) := by decide +kernel
theorem dX8_listen_25 : decode cX8_listen 25 = .ok (.iand, 1) := by decide +kernel
theorem dX8_listen_26 : decode cX8_listen 26 = .ok (.ifCond .eq 125, 3) := by decide +kernel
theorem dX8_listen_29 : decode cX8_listen 29 = .ok (.iconst 0, 1) := by decide +kernel
theorem dX8_listen_30 : decode cX8_listen 30 = .ok (.istore 5, 2) := by decide +kernel
theorem dX8_listen_32 : decode cX8_listen 32 = .ok (.iconst 0, 1) := by decide +kernel
theorem dX8_listen_33 : decode cX8_listen 33 = .ok (.istore 6, 2) := by decide +kernel
theorem dX8_listen_35 : decode cX8_listen 35 = .ok (.iload 6, 2) := by decide +kernel
theorem dX8_listen_37 : decode cX8_listen 37 = .ok (.iconst 3, 1) := by decide +kernel
theorem dX8_listen_38 : decode cX8_listen 38 = .ok (.if_icmp .ge 81, 3) := by decide +kernel
theorem dX8_listen_41 : decode cX8_listen 41 = .ok (.iconst 0, 1) := by decide +kernel
theorem dX8_listen_42 : decode cX8_listen 42 = .ok (.istore 7, 2) := by decide +kernel
theorem dX8_listen_44 : decode cX8_listen 44 = .ok (.iconst 0, 1) := by decide +kernel
theorem dX8_listen_45 : decode cX8_listen 45 = .ok (.istore 8, 2) := by decide +kernel
theorem dX8_listen_47 : decode cX8_listen 47 = .ok (.iload 8, 2) := by decide +kernel
theorem dX8_listen_49 : decode cX8_listen 49 = .ok (.aload_n 0, 1) := by decide +kernel
theorem dX8_listen_50 : decode cX8_listen 50 = .ok (.getfield 13, 3) := by decide +kernel
theorem dX8_listen_53 : decode cX8_listen 53 = .ok (.iconst 0, 1) := by decide +kernel
theorem dX8_listen_54 : decode cX8_listen 54 = .ok (.iaload, 1) := by decide +kernel
theorem dX8_listen_55 : decode cX8_listen 55 = .ok (.if_icmp .ge 42, 3) := by decide +kernel
theorem dX8_listen_58 : decode cX8_listen 58 = .ok (.iload 7, 2) := by decide +kernel
theorem dX8_listen_60 : decode cX8_listen 60 = .ok (.iload_n 1, 1) := by decide +kernel
theorem dX8_listen_61 : decode cX8_listen 61 = .ok (.iload 8, 2) := by decide +kernel
theorem dX8_listen_63 : decode cX8_listen 63 = .ok (.ishr, 1) := by decide +kernel
theorem dX8_listen_64 : decode cX8_listen 64 = .ok (.iconst 1, 1) := by decide +kernel
theorem dX8_listen_65 : decode cX8_listen 65 = .ok (.iand, 1) := by decide +kernel
theorem dX8_listen_66 : decode cX8_listen 66 = .ok (.iconst 1, 1) := by decide +kernel
theorem dX8_listen_67 : decode cX8_listen 67 = .ok (.if_icmp .ne 20, 3) := by decide +kernel
theorem dX8_listen_70 : decode cX8_listen 70 = .ok (.aload_n 0, 1) := by decide +kernel
theorem dX8_listen_71 : decode cX8_listen 71 = .ok (.iload 8, 2) := by decide +kernel
theorem dX8_listen_73 : decode cX8_listen 73 = .ok (.iload 4, 2) := by decide +kernel
theorem dX8_listen_75 : decode cX8_listen 75 = .ok (.invokevirtual 145, 3) := by decide +kernel
theorem dX8_listen_78 : decode cX8_listen 78 = .ok (.iload 6, 2) := by decide +kernel
theorem dX8_listen_80 : decode cX8_listen 80 = .ok (.if_icmp .ne 7, 3) := by decide +kernel
theorem dX8_listen_83 : decode cX8_listen 83 = .ok (.iconst 1, 1) := by decide +kernel
theorem dX8_listen_84 : decode cX8_listen 84 = .ok (.goto 4, 3) := by decide +kernel
theorem dX8_listen_87 : decode cX8_listen 87 = .ok (.iconst 0, 1) := by decide +kernel
theorem dX8_listen_88 : decode cX8_listen 88 = .ok (.iadd, 1) := by decide +kernel
theorem dX8_listen_89 : decode cX8_listen 89 = .ok (.istore 7, 2) := by decide +kernel
theorem dX8_listen_91 : decode cX8_listen 91 = .ok (.iinc 8 1, 3) := by decide +kernel
theorem dX8_listen_94 : decode cX8_listen 94 = .ok (.goto (-47), 3) := by decide +kernel
theorem dX8_listen_97 : decode cX8_listen 97 = .ok (.iload 7, 2) := by decide +kernel
theorem dX8_listen_99 : decode cX8_listen 99 = .ok (.iload 5, 2) := by decide +kernel
theorem dX8_listen_101 : decode cX8_listen 101 = .ok (.if_icmp .le 8, 3) := by decide +kernel
theorem dX8_listen_104 : decode cX8_listen 104 = .ok (.iload 7, 2) := by decide +kernel
theorem dX8_listen_106 : decode cX8_listen 106 = .ok (.goto 5, 3) := by decide +kernel
theorem dX8_listen_109 : decode cX8_listen 109 = .ok (.iload 5, 2) := by decide +kernel
theorem dX8_listen_111 : decode cX8_listen 111 = .ok (.istore 5, 2) := by decide +kernel
theorem dX8_listen_113 : decode cX8_listen 113 = .ok (.iinc 6 1, 3) := by decide +kernel
theorem dX8_listen_116 : decode cX8_listen 116 = .ok (.goto (-81), 3) := by decide +kernel
theorem dX8_listen_119 : decode cX8_listen 119 = .ok (.iload 5, 2) := by decide +kernel
theorem dX8_listen_121 : decode cX8_listen 121 = .ok (.iload_n 3, 1) := by decide +kernel
theorem dX8_listen_122 : decode cX8_listen 122 = .ok (.if_icmp .ge 8, 3) := by decide +kernel
theorem dX8_listen_125 : decode cX8_listen 125 = .ok (.iload 4, 2) := by decide +kernel
theorem dX8_listen_127 : decode cX8_listen 127 = .ok (.goto 4, 3) := by decide +kernel
theorem dX8_listen_130 : decode cX8_listen 130 = .ok (.iload_n 2, 1) := by decide +kernel
theorem dX8_listen_131 : decode cX8_listen 131 = .ok (.istore_n 2, 1) := by decide +kernel
theorem dX8_listen_132 : decode cX8_listen 132 = .ok (.iload 5, 2) := by decide +kernel
theorem dX8_listen_134 : decode cX8_listen 134 = .ok (.iload_n 3, 1) := by decide +kernel
theorem dX8_listen_135 : decode cX8_listen 135 = .ok (.if_icmp .ge 8, 3) := by decide +kernel
theorem dX8_listen_138 : decode cX8_listen 138 = .ok (.iload 5, 2) := by decide +kernel
theorem dX8_listen_140 : decode cX8_listen 140 = .ok (.goto 4, 3) := by decide +kernel
theorem dX8_listen_143 : decode cX8_listen 143 = .ok (.iload_n 3, 1) := by decide +kernel
theorem dX8_listen_144 : decode cX8_listen 144 = .ok (.istore_n 3, 1) := by decide +kernel
theorem dX8_listen_145 : decode cX8_listen 145 = .ok (.iinc 4 1, 3) := by decide +kernel
theorem dX8_listen_148 : decode cX8_listen 148 = .ok (.goto (-134), 3) := by decide +kernel
theorem dX8_listen_151 : decode cX8_listen 151 = .ok (.iload_n 2, 1) := by decide +kernel
theorem dX8_listen_152 : decode cX8_listen 152 = .ok (.ireturn, 1) := by decide +kernel
set_option maxRecDepth 20000 in
theorem ggX8_rate_X8_in : GoodIn wsX8_rate wsX8_in := goodIn_r _ [13] (by decide +kernel) (by decide +kernel)
set_option maxRecDepth 20000 in
theorem gX8_rate_X8_in : GoodIn wsX8_rate (va_wsS RX8 51 yX8_in wsX8_in) := goodIn_app (goodIn_of _ (by decide +kernel)) ggX8_rate_X8_in
set_option maxRecDepth 20000 in
theorem ggX8_rate_X8_isBottle : GoodIn wsX8_rate wsX8_isBottle := goodIn_r _ [17, 9, 10, 11, 12, 13, 18, 19, 20, 21, 22, 23, 24, 25, 26, 27, 28, 29, 30, 31, 32, 33, 34, 35, 36] (by decide +kernel) (by decide +kernel)
set_option maxRecDepth 20000 in
theorem gX8_rate_X8_isBottle : GoodIn wsX8_rate (wsV RX8 105 RX8 yX8_isBottle wsX8_isBottle) := goodIn_app (goodIn_of _ (by decide +kernel)) ggX8_rate_X8_isBottle
theorem dX8_rate_0 : decode cX8_rate 0 = .ok (.iload_n 1, 1) := by decide +kernel
theorem dX8_rate_1 : decode cX8_rate 1 = .ok (.iconst 0, 1) := by decide +kernel
theorem dX8_rate_2 : decode cX8_rate 2 = .ok (.iconst 5, 1) := by decide +kernel
theorem dX8_rate_3 : decode cX8_rate 3 = .ok (.invokestatic 51, 3) := by decide +kernel
theorem dX8_rate_6 : decode cX8_rate 6 = .ok (.ifCond .eq 11, 3) := by decide +kernel
theorem dX8_rate_9 : decode cX8_rate 9 = .ok (.aload_n 0, 1) := by decide +kernel
theorem dX8_rate_10 : decode cX8_rate 10 = .ok (.iload_n 2, 1) := by decide +kernel
theorem dX8_rate_11 : decode cX8_rate 11 = .ok (.invokevirtual 105, 3) := by decide +kernel
theorem dX8_rate_14 : decode cX8_rate 14 = .ok (.ifCond .ne 6, 3) := by decide +kernel
theorem dX8_rate_17 : decode cX8_rate 17 = .ok (.ldc 151, 2) := by decide +kernel
theorem dX8_rate_19 : decode cX8_rate 19 = .ok (.ireturn, 1) := by decide +kernel
theorem dX8_rate_20 : decode cX8_rate 20 = .ok (.aload_n 0, 1) := by decide +kernel
theorem dX8_rate_21 : decode cX8_rate 21 = .ok (.dup, 1) := by decide +kernel
theorem dX8_rate_22 : decode cX8_rate 22 = .ok (.getfield 152, 3) := by decide +kernel
theorem dX8_rate_25 : decode cX8_rate 25 = .ok (.iload_n 1, 1) := by decide +kernel
theorem dX8_rate_26 : decode cX8_rate 26 = .ok (.ifCond .ne 7, 3) := by decide +kernel
theorem dX8_rate_29 : decode cX8_rate 29 = .ok (.lconst 1, 1) := by decide +kernel
theorem dX8_rate_30 : decode cX8_rate 30 = .ok (.goto 50, 3) := by decide +kernel
theorem dX8_rate_33 : decode cX8_rate 33 = .ok (.iload_n 1, 1) := by decide +kernel
theorem dX8_rate_34 : decode cX8_rate 34 = .ok (.iconst 1, 1) := by decide +kernel
theorem dX8_rate_35 : decode cX8_rate 35 = .ok (.if_icmp .ne 9, 3) := by decide +kernel
theorem dX8_rate_38 : decode cX8_rate 38 = .ok (.ldc2_w 156, 3) := by decide +kernel
theorem dX8_rate_41 : decode cX8_rate 41 = .ok (.goto 39, 3) := by decide +kernel
theorem dX8_rate_44 : decode cX8_rate 44 = .ok (.iload_n 1, 1) := by decide +kernel
theorem dX8_rate_45 : decode cX8_rate 45 = .ok (.iconst 2, 1) := by decide +kernel
theorem dX8_rate_46 : decode cX8_rate 46 = .ok (.if_icmp .ne 9, 3) := by decide +kernel
theorem dX8_rate_49 : decode cX8_rate 49 = .ok (.ldc2_w 158, 3) := by decide +kernel
theorem dX8_rate_52 : decode cX8_rate 52 = .ok (.goto 28, 3) := by decide +kernel
theorem dX8_rate_55 : decode cX8_rate 55 = .ok (.iload_n 1, 1) := by decide +kernel
theorem dX8_rate_56 : decode cX8_rate 56 = .ok (.iconst 3, 1) := by decide +kernel
theorem dX8_rate_57 : decode cX8_rate 57 = .ok (.if_icmp .ne 9, 3) := by decide +kernel
theorem dX8_rate_60 : decode cX8_rate 60 = .ok (.ldc2_w 160, 3) := by decide +kernel
theorem dX8_rate_63 : decode cX8_rate 63 = .ok (.goto 17, 3) := by decide +kernel
theorem dX8_rate_66 : decode cX8_rate 66 = .ok (.iload_n 1, 1) := by decide +kernel
theorem dX8_rate_67 : decode cX8_rate 67 = .ok (.iconst 4, 1) := by decide +kernel
theorem dX8_rate_68 : decode cX8_rate 68 = .ok (.if_icmp .ne 9, 3) := by decide +kernel
theorem dX8_rate_71 : decode cX8_rate 71 = .ok (.ldc2_w 162, 3) := by decide +kernel
theorem dX8_rate_74 : decode cX8_rate 74 = .ok (.goto 6, 3) := by decide +kernel
theorem dX8_rate_77 : decode cX8_rate 77 = .ok (.ldc2_w 164, 3) := by decide +kernel
theorem dX8_rate_80 : decode cX8_rate 80 = .ok (.ladd, 1) := by decide +kernel
theorem dX8_rate_81 : decode cX8_rate 81 = .ok (.putfield 152, 3) := by decide +kernel
theorem dX8_rate_84 : decode cX8_rate 84 = .ok (.aload_n 0, 1) := by decide +kernel
theorem dX8_rate_85 : decode cX8_rate 85 = .ok (.getfield 19, 3) := by decide +kernel
theorem dX8_rate_88 : decode cX8_rate 88 = .ok (.iconst 3, 1) := by decide +kernel
theorem dX8_rate_89 : decode cX8_rate 89 = .ok (.iload_n 2, 1) := by decide +kernel
theorem dX8_rate_90 : decode cX8_rate 90 = .ok (.iadd, 1) := by decide +kernel
theorem dX8_rate_91 : decode cX8_rate 91 = .ok (.iaload, 1) := by decide +kernel
theorem dX8_rate_92 : decode cX8_rate 92 = .ok (.istore_n 3, 1) := by decide +kernel
theorem dX8_rate_93 : decode cX8_rate 93 = .ok (.iload_n 3, 1) := by decide +kernel
theorem dX8_rate_94 : decode cX8_rate 94 = .ok (.aload_n 0, 1) := by decide +kernel
theorem dX8_rate_95 : decode cX8_rate 95 = .ok (.getfield 13, 3) := by decide +kernel
theorem dX8_rate_98 : decode cX8_rate 98 = .ok (.bipush 17, 2) := by decide +kernel
theorem dX8_rate_100 : decode cX8_rate 100 = .ok (.iload_n 2, 1) := by decide +kernel
theorem dX8_rate_101 : decode cX8_rate 101 = .ok (.iadd, 1) := by decide +kernel
theorem dX8_rate_102 : decode cX8_rate 102 = .ok (.iaload, 1) := by decide +kernel
theorem dX8_rate_103 : decode cX8_rate 103 = .ok (.iadd, 1) := by decide +kernel
theorem dX8_rate_104 : decode cX8_rate 104 = .ok (.istore 4, 2) := by decide +kernel
theorem dX8_rate_106 : decode cX8_rate 106 = .ok (.iload_n 3, 1) := by decide +kernel
theorem dX8_rate_107 : decode cX8_rate 107 = .ok (.aload_n 0, 1) := by decide +kernel
theorem dX8_rate_108 : decode cX8_rate 108 = .ok (.getfield 13, 3) := by decide +kernel
theorem dX8_rate_111 : decode cX8_rate 111 = .ok (.bipush 11, 2) := by decide +kernel
theorem dX8_rate_113 : decode cX8_rate 113 = .ok (.iload_n 2, 1) := by decide +kernel
theorem dX8_rate_114 : decode cX8_rate 114 = .ok (.iadd, 1) := by decide +kernel
theorem dX8_rate_115 : decode cX8_rate 115 = .ok (.iaload, 1) := by decide +kernel
theorem dX8_rate_116 : decode cX8_rate 116 = .ok (.isub, 1) := by decide +kernel
theorem dX8_rate_117 : decode cX8_rate 117 = .ok (.istore 5, 2) := by decide +kernel
theorem dX8_rate_119 : decode cX8_rate 119 = .ok (.iload_n 1, 1) := by decide +kernel
theorem dX8_rate_120 : decode cX8_rate 120 = .ok (.ifCond .ne 7, 3) := by decide +kernel
theorem dX8_rate_123 : decode cX8_rate 123 = .ok (.iload_n 3, 1) := by decide +kernel
theorem dX8_rate_124 : decode cX8_rate 124 = .ok (.goto 55, 3) := by decide +kernel
theorem dX8_rate_127 : decode cX8_rate 127 = .ok (.iload_n 1, 1) := by decide +kernel
theorem dX8_rate_128 : decode cX8_rate 128 = .ok (.iconst 1, 1) := by decide +kernel
theorem dX8_rate_129 : decode cX8_rate 129 = .ok (.if_icmp .ne 8, 3) := by decide +kernel
theorem dX8_rate_132 : decode cX8_rate 132 = .ok (.iload 4, 2) := by decide +kernel
theorem dX8_rate_134 : decode cX8_rate 134 = .ok (.goto 45, 3) := by decide +kernel
theorem dX8_rate_137 : decode cX8_rate 137 = .ok (.iload_n 1, 1) := by decide +kernel
theorem dX8_rate_138 : decode cX8_rate 138 = .ok (.iconst 2, 1) := by decide +kernel
theorem dX8_rate_139 : decode cX8_rate 139 = .ok (.if_icmp .ne 8, 3) := by decide +kernel
theorem dX8_rate_142 : decode cX8_rate 142 = .ok (.iload 5, 2) := by decide +kernel
theorem dX8_rate_144 : decode cX8_rate 144 = .ok (.goto 35, 3) := by decide +kernel
theorem dX8_rate_147 : decode cX8_rate 147 = .ok (.iload_n 1, 1) := by decide +kernel
theorem dX8_rate_148 : decode cX8_rate 148 = .ok (.iconst 3, 1) := by decide +kernel
theorem dX8_rate_149 : decode cX8_rate 149 = .ok (.if_icmp .ne 10, 3) := by decide +kernel
theorem dX8_rate_152 : decode cX8_rate 152 = .ok (.iconst 2, 1) := by decide +kernel
theorem dX8_rate_153 : decode cX8_rate 153 = .ok (.iload 4, 2) := by decide +kernel
theorem dX8_rate_155 : decode cX8_rate 155 = .ok (.imul, 1) := by decide +kernel
theorem dX8_rate_156 : decode cX8_rate 156 = .ok (.goto 23, 3) := by decide +kernel
theorem dX8_rate_159 : decode cX8_rate 159 = .ok (.iload_n 1, 1) := by decide +kernel
theorem dX8_rate_160 : decode cX8_rate 160 = .ok (.iconst 4, 1) := by decide +kernel
theorem dX8_rate_161 : decode cX8_rate 161 = .ok (.if_icmp .ne 10, 3) := by decide +kernel
theorem dX8_rate_164 : decode cX8_rate 164 = .ok (.iload 5, 2) := by decide +kernel
theorem dX8_rate_166 : decode cX8_rate 166 = .ok (.iload_n 2, 1) := by decide +kernel
theorem dX8_rate_167 : decode cX8_rate 167 = .ok (.iadd, 1) := by decide +kernel
theorem dX8_rate_168 : decode cX8_rate 168 = .ok (.goto 11, 3) := by decide +kernel
theorem dX8_rate_171 : decode cX8_rate 171 = .ok (.iload_n 3, 1) := by decide +kernel
theorem dX8_rate_172 : decode cX8_rate 172 = .ok (.aload_n 0, 1) := by decide +kernel
theorem dX8_rate_173 : decode cX8_rate 173 = .ok (.getfield 19, 3) := by decide +kernel
theorem dX8_rate_176 : decode cX8_rate 176 = .ok (.iconst 2, 1) := by decide +kernel
theorem dX8_rate_177 : decode cX8_rate 177 = .ok (.iaload, 1) := by decide +kernel
theorem dX8_rate_178 : decode cX8_rate 178 = .ok (.iadd, 1) := by decide +kernel
theorem dX8_rate_179 : decode cX8_rate 179 = .ok (.ireturn, 1) := by decide +kernel
set_option maxRecDepth 20000 in
theorem ggX8_keep_X8_in : GoodIn wsX8_keep wsX8_in := goodIn_r _ [7] (by decide +kernel) (by decide +kernel)
set_option maxRecDepth 20000 in
theorem gX8_keep_X8_in : GoodIn wsX8_keep (va_wsS RX8 51 yX8_in wsX8_in) := goodIn_app (goodIn_of _ (by decide +kernel)) ggX8_keep_X8_in
theorem dX8_keep_0 : decode cX8_keep 0 = .ok (.iload_n 1, 1) := by decide +kernel
theorem dX8_keep_1 : decode cX8_keep 1 = .ok (.iconst 0, 1) := by decide +kernel
theorem dX8_keep_2 : decode cX8_keep 2 = .ok (.iconst 1, 1) := by decide +kernel
theorem dX8_keep_3 : decode cX8_keep 3 = .ok (.invokestatic 51, 3) := by decide +kernel
theorem dX8_keep_6 : decode cX8_keep 6 = .ok (.ifCond .ne 5, 3) := by decide +kernel
theorem dX8_keep_9 : decode cX8_keep 9 = .ok (.iconst (-1), 1) := by decide +kernel
theorem dX8_keep_10 : decode cX8_keep 10 = .ok (.ireturn, 1) := by decide +kernel
theorem dX8_keep_11 : decode cX8_keep 11 = .ok (.iconst 0, 1) := by decide +kernel
theorem dX8_keep_12 : decode cX8_keep 12 = .ok (.istore_n 2, 1) := by decide +kernel
theorem dX8_keep_13 : decode cX8_keep 13 = .ok (.iload_n 2, 1) := by decide +kernel
theorem dX8_keep_14 : decode cX8_keep 14 = .ok (.bipush 15, 2) := by decide +kernel
theorem dX8_keep_16 : decode cX8_keep 16 = .ok (.if_icmp .ge 26, 3) := by decide +kernel
theorem dX8_keep_19 : decode cX8_keep 19 = .ok (.aload_n 0, 1) := by decide +kernel
theorem dX8_keep_20 : decode cX8_keep 20 = .ok (.getfield 25, 3) := by decide +kernel
theorem dX8_keep_23 : decode cX8_keep 23 = .ok (.bipush 15, 2) := by decide +kernel
theorem dX8_keep_25 : decode cX8_keep 25 = .ok (.iload_n 1, 1) := by decide +kernel
theorem dX8_keep_26 : decode cX8_keep 26 = .ok (.imul, 1) := by decide +kernel
theorem dX8_keep_27 : decode cX8_keep 27 = .ok (.iload_n 2, 1) := by decide +kernel
theorem dX8_keep_28 : decode cX8_keep 28 = .ok (.iadd, 1) := by decide +kernel
theorem dX8_keep_29 : decode cX8_keep 29 = .ok (.aload_n 0, 1) := by decide +kernel
theorem dX8_keep_30 : decode cX8_keep 30 = .ok (.getfield 19, 3) := by decide +kernel
theorem dX8_keep_33 : decode cX8_keep 33 = .ok (.iload_n 2, 1) := by decide +kernel
theorem dX8_keep_34 : decode cX8_keep 34 = .ok (.iaload, 1) := by decide +kernel
theorem dX8_keep_35 : decode cX8_keep 35 = .ok (.iastore, 1) := by decide +kernel
theorem dX8_keep_36 : decode cX8_keep 36 = .ok (.iinc 2 1, 3) := by decide +kernel
theorem dX8_keep_39 : decode cX8_keep 39 = .ok (.goto (-26), 3) := by decide +kernel
theorem dX8_keep_42 : decode cX8_keep 42 = .ok (.aload_n 0, 1) := by decide +kernel
theorem dX8_keep_43 : decode cX8_keep 43 = .ok (.getfield 28, 3) := by decide +kernel
theorem dX8_keep_46 : decode cX8_keep 46 = .ok (.iload_n 1, 1) := by decide +kernel
theorem dX8_keep_47 : decode cX8_keep 47 = .ok (.iconst 1, 1) := by decide +kernel
theorem dX8_keep_48 : decode cX8_keep 48 = .ok (.bastore, 1) := by decide +kernel
theorem dX8_keep_49 : decode cX8_keep 49 = .ok (.aload_n 0, 1) := by decide +kernel
theorem dX8_keep_50 : decode cX8_keep 50 = .ok (.getfield 19, 3) := by decide +kernel
theorem dX8_keep_53 : decode cX8_keep 53 = .ok (.iconst 0, 1) := by decide +kernel
theorem dX8_keep_54 : decode cX8_keep 54 = .ok (.iaload, 1) := by decide +kernel
theorem dX8_keep_55 : decode cX8_keep 55 = .ok (.ireturn, 1) := by decide +kernel
set_option maxRecDepth 20000 in
theorem ggX8_back_X8_in : GoodIn wsX8_back wsX8_in := goodIn_r _ [8] (by decide +kernel) (by decide +kernel)
set_option maxRecDepth 20000 in
theorem gX8_back_X8_in : GoodIn wsX8_back (va_wsS RX8 51 yX8_in wsX8_in) := goodIn_app (goodIn_of _ (by decide +kernel)) ggX8_back_X8_in
theorem dX8_back_0 : decode cX8_back 0 = .ok (.iload_n 1, 1) := by decide +kernel
theorem dX8_back_1 : decode cX8_back 1 = .ok (.iconst 0, 1) := by decide +kernel
theorem dX8_back_2 : decode cX8_back 2 = .ok (.iconst 1, 1) := by decide +kernel
theorem dX8_back_3 : decode cX8_back 3 = .ok (.invokestatic 51, 3) := by decide +kernel
theorem dX8_back_6 : decode cX8_back 6 = .ok (.ifCond .ne 5, 3) := by decide +kernel
theorem dX8_back_9 : decode cX8_back 9 = .ok (.iconst (-1), 1) := by decide +kernel
theorem dX8_back_10 : decode cX8_back 10 = .ok (.ireturn, 1) := by decide +kernel
theorem dX8_back_11 : decode cX8_back 11 = .ok (.aload_n 0, 1) := by decide +kernel
theorem dX8_back_12 : decode cX8_back 12 = .ok (.getfield 28, 3) := by decide +kernel
theorem dX8_back_15 : decode cX8_back 15 = .ok (.iload_n 1, 1) := by decide +kernel
theorem dX8_back_16 : decode cX8_back 16 = .ok (.baload, 1) := by decide +kernel
theorem dX8_back_17 : decode cX8_back 17 = .ok (.ifCond .ne 6, 3) := by decide +kernel
theorem dX8_back_20 : decode cX8_back 20 = .ok (.bipush (-2), 2) := by decide +kernel
theorem dX8_back_22 : decode cX8_back 22 = .ok (.ireturn, 1) := by decide +kernel
theorem dX8_back_23 : decode cX8_back 23 = .ok (.iconst 0, 1) := by decide +kernel
theorem dX8_back_24 : decode cX8_back 24 = .ok (.istore_n 2, 1) := by decide +kernel
theorem dX8_back_25 : decode cX8_back 25 = .ok (.iload_n 2, 1) := by decide +kernel
theorem dX8_back_26 : decode cX8_back 26 = .ok (.bipush 15, 2) := by decide +kernel
theorem dX8_back_28 : decode cX8_back 28 = .ok (.if_icmp .ge 26, 3) := by decide +kernel
theorem dX8_back_31 : decode cX8_back 31 = .ok (.aload_n 0, 1) := by decide +kernel
theorem dX8_back_32 : decode cX8_back 32 = .ok (.getfield 19, 3) := by decide +kernel
theorem dX8_back_35 : decode cX8_back 35 = .ok (.iload_n 2, 1) := by decide +kernel
theorem dX8_back_36 : decode cX8_back 36 = .ok (.aload_n 0, 1) := by decide +kernel
theorem dX8_back_37 : decode cX8_back 37 = .ok (.getfield 25, 3) := by decide +kernel
theorem dX8_back_40 : decode cX8_back 40 = .ok (.bipush 15, 2) := by decide +kernel
theorem dX8_back_42 : decode cX8_back 42 = .ok (.iload_n 1, 1) := by decide +kernel
theorem dX8_back_43 : decode cX8_back 43 = .ok (.imul, 1) := by decide +kernel
theorem dX8_back_44 : decode cX8_back 44 = .ok (.iload_n 2, 1) := by decide +kernel
theorem dX8_back_45 : decode cX8_back 45 = .ok (.iadd, 1) := by decide +kernel
theorem dX8_back_46 : decode cX8_back 46 = .ok (.iaload, 1) := by decide +kernel
theorem dX8_back_47 : decode cX8_back 47 = .ok (.iastore, 1) := by decide +kernel
theorem dX8_back_48 : decode cX8_back 48 = .ok (.iinc 2 1, 3) := by decide +kernel
theorem dX8_back_51 : decode cX8_back 51 = .ok (.goto (-26), 3) := by decide +kernel
theorem dX8_back_54 : decode cX8_back 54 = .ok (.aload_n 0, 1) := by decide +kernel
theorem dX8_back_55 : decode cX8_back 55 = .ok (.iconst 0, 1) := by decide +kernel
theorem dX8_back_56 : decode cX8_back 56 = .ok (.putfield 92, 3) := by decide +kernel
theorem dX8_back_59 : decode cX8_back 59 = .ok (.aload_n 0, 1) := by decide +kernel
theorem dX8_back_60 : decode cX8_back 60 = .ok (.getfield 19, 3) := by decide +kernel
theorem dX8_back_63 : decode cX8_back 63 = .ok (.iconst 0, 1) := by decide +kernel
theorem dX8_back_64 : decode cX8_back 64 = .ok (.iaload, 1) := by decide +kernel
theorem dX8_back_65 : decode cX8_back 65 = .ok (.ireturn, 1) := by decide +kernel
theorem dX8_count_0 : decode cX8_count 0 = .ok (.iload_n 1, 1) := by decide +kernel
theorem dX8_count_1 : decode cX8_count 1 = .ok (.tableswitch 66 0 4 #[35, 42, 49, 56, 61], 35) := by decide +kernel
theorem dX8_count_36 : decode cX8_count 36 = .ok (.aload_n 0, 1) := by decide +kernel
theorem dX8_count_37 : decode cX8_count 37 = .ok (.getfield 13, 3) := by decide +kernel
theorem dX8_count_40 : decode cX8_count 40 = .ok (.iconst 0, 1) := by decide +kernel
theorem dX8_count_41 : decode cX8_count 41 = .ok (.iaload, 1) := by decide +kernel
theorem dX8_count_42 : decode cX8_count 42 = .ok (.ireturn, 1) := by decide +kernel
theorem dX8_count_43 : decode cX8_count 43 = .ok (.aload_n 0, 1) := by decide +kernel
theorem dX8_count_44 : decode cX8_count 44 = .ok (.getfield 13, 3) := by decide +kernel
theorem dX8_count_47 : decode cX8_count 47 = .ok (.iconst 1, 1) := by decide +kernel
theorem dX8_count_48 : decode cX8_count 48 = .ok (.iaload, 1) := by decide +kernel
theorem dX8_count_49 : decode cX8_count 49 = .ok (.ireturn, 1) := by decide +kernel
theorem dX8_count_50 : decode cX8_count 50 = .ok (.aload_n 0, 1) := by decide +kernel
theorem dX8_count_51 : decode cX8_count 51 = .ok (.getfield 13, 3) := by decide +kernel
theorem dX8_count_54 : decode cX8_count 54 = .ok (.iconst 2, 1) := by decide +kernel
theorem dX8_count_55 : decode cX8_count 55 = .ok (.iaload, 1) := by decide +kernel
theorem dX8_count_56 : decode cX8_count 56 = .ok (.ireturn, 1) := by decide +kernel
theorem dX8_count_57 : decode cX8_count 57 = .ok (.aload_n 0, 1) := by decide +kernel
theorem dX8_count_58 : decode cX8_count 58 = .ok (.getfield 95, 3) := by decide +kernel
theorem dX8_count_61 : decode cX8_count 61 = .ok (.ireturn, 1) := by decide +kernel
theorem dX8_count_62 : decode cX8_count 62 = .ok (.aload_n 0, 1) := by decide +kernel
theorem dX8_count_63 : decode cX8_count 63 = .ok (.getfield 55, 3) := by decide +kernel
theorem dX8_count_66 : decode cX8_count 66 = .ok (.ireturn, 1) := by decide +kernel
theorem dX8_count_67 : decode cX8_count 67 = .ok (.iconst (-1), 1) := by decide +kernel
theorem dX8_count_68 : decode cX8_count 68 = .ok (.ireturn, 1) := by decide +kernel
theorem dX8_trace_0 : decode cX8_trace 0 = .ok (.aload_n 0, 1) := by decide +kernel
theorem dX8_trace_1 : decode cX8_trace 1 = .ok (.getfield 152, 3) := by decide +kernel
theorem dX8_trace_4 : decode cX8_trace 4 = .ok (.lreturn, 1) := by decide +kernel
theorem dJ6_bitCount_0f7a4_0 : decode cJ6_bitCount_0f7a4 0 = .ok (.iload_n 0, 1) := by decide +kernel
theorem dJ6_bitCount_0f7a4_1 : decode cJ6_bitCount_0f7a4 1 = .ok (.iload_n 0, 1) := by decide +kernel
theorem dJ6_bitCount_0f7a4_2 : decode cJ6_bitCount_0f7a4 2 = .ok (.iconst 1, 1) := by decide +kernel
theorem dJ6_bitCount_0f7a4_3 : decode cJ6_bitCount_0f7a4 3 = .ok (.iushr, 1) := by decide +kernel
theorem dJ6_bitCount_0f7a4_4 : decode cJ6_bitCount_0f7a4 4 = .ok (.ldc_w 265, 3) := by decide +kernel
theorem dJ6_bitCount_0f7a4_7 : decode cJ6_bitCount_0f7a4 7 = .ok (.iand, 1) := by decide +kernel
theorem dJ6_bitCount_0f7a4_8 : decode cJ6_bitCount_0f7a4 8 = .ok (.isub, 1) := by decide +kernel
theorem dJ6_bitCount_0f7a4_9 : decode cJ6_bitCount_0f7a4 9 = .ok (.istore_n 0, 1) := by decide +kernel
theorem dJ6_bitCount_0f7a4_10 : decode cJ6_bitCount_0f7a4 10 = .ok (.iload_n 0, 1) := by decide +kernel
theorem dJ6_bitCount_0f7a4_11 : decode cJ6_bitCount_0f7a4 11 = .ok (.ldc_w 266, 3) := by decide +kernel
theorem dJ6_bitCount_0f7a4_14 : decode cJ6_bitCount_0f7a4 14 = .ok (.iand, 1) := by decide +kernel
theorem dJ6_bitCount_0f7a4_15 : decode cJ6_bitCount_0f7a4 15 = .ok (.iload_n 0, 1) := by decide +kernel
theorem dJ6_bitCount_0f7a4_16 : decode cJ6_bitCount_0f7a4 16 = .ok (.iconst 2, 1) := by decide +kernel
theorem dJ6_bitCount_0f7a4_17 : decode cJ6_bitCount_0f7a4 17 = .ok (.iushr, 1) := by decide +kernel
theorem dJ6_bitCount_0f7a4_18 : decode cJ6_bitCount_0f7a4 18 = .ok (.ldc_w 266, 3) := by decide +kernel
theorem dJ6_bitCount_0f7a4_21 : decode cJ6_bitCount_0f7a4 21 = .ok (.iand, 1) := by decide +kernel
theorem dJ6_bitCount_0f7a4_22 : decode cJ6_bitCount_0f7a4 22 = .ok (.iadd, 1) := by decide +kernel
theorem dJ6_bitCount_0f7a4_23 : decode cJ6_bitCount_0f7a4 23 = .ok (.istore_n 0, 1) := by decide +kernel
theorem dJ6_bitCount_0f7a4_24 : decode cJ6_bitCount_0f7a4 24 = .ok (.iload_n 0, 1) := by decide +kernel
theorem dJ6_bitCount_0f7a4_25 : decode cJ6_bitCount_0f7a4 25 = .ok (.iload_n 0, 1) := by decide +kernel
theorem dJ6_bitCount_0f7a4_26 : decode cJ6_bitCount_0f7a4 26 = .ok (.iconst 4, 1) := by decide +kernel
theorem dJ6_bitCount_0f7a4_27 : decode cJ6_bitCount_0f7a4 27 = .ok (.iushr, 1) := by decide +kernel
theorem dJ6_bitCount_0f7a4_28 : decode cJ6_bitCount_0f7a4 28 = .ok (.iadd, 1) := by decide +kernel
theorem dJ6_bitCount_0f7a4_29 : decode cJ6_bitCount_0f7a4 29 = .ok (.ldc_w 267, 3) := by decide +kernel
theorem dJ6_bitCount_0f7a4_32 : decode cJ6_bitCount_0f7a4 32 = .ok (.iand, 1) := by decide +kernel
theorem dJ6_bitCount_0f7a4_33 : decode cJ6_bitCount_0f7a4 33 = .ok (.istore_n 0, 1) := by decide +kernel
theorem dJ6_bitCount_0f7a4_34 : decode cJ6_bitCount_0f7a4 34 = .ok (.iload_n 0, 1) := by decide +kernel
theorem dJ6_bitCount_0f7a4_35 : decode cJ6_bitCount_0f7a4 35 = .ok (.iload_n 0, 1) := by decide +kernel
theorem dJ6_bitCount_0f7a4_36 : decode cJ6_bitCount_0f7a4 36 = .ok (.bipush 8, 2) := by decide +kernel
theorem dJ6_bitCount_0f7a4_38 : decode cJ6_bitCount_0f7a4 38 = .ok (.iushr, 1) := by decide +kernel
theorem dJ6_bitCount_0f7a4_39 : decode cJ6_bitCount_0f7a4 39 = .ok (.iadd, 1) := by decide +kernel
theorem dJ6_bitCount_0f7a4_40 : decode cJ6_bitCount_0f7a4 40 = .ok (.istore_n 0, 1) := by decide +kernel
theorem dJ6_bitCount_0f7a4_41 : decode cJ6_bitCount_0f7a4 41 = .ok (.iload_n 0, 1) := by decide +kernel
theorem dJ6_bitCount_0f7a4_42 : decode cJ6_bitCount_0f7a4 42 = .ok (.iload_n 0, 1) := by decide +kernel
theorem dJ6_bitCount_0f7a4_43 : decode cJ6_bitCount_0f7a4 43 = .ok (.bipush 16, 2) := by decide +kernel
theorem dJ6_bitCount_0f7a4_45 : decode cJ6_bitCount_0f7a4 45 = .ok (.iushr, 1) := by decide +kernel
theorem dJ6_bitCount_0f7a4_46 : decode cJ6_bitCount_0f7a4 46 = .ok (.iadd, 1) := by decide +kernel
theorem dJ6_bitCount_0f7a4_47 : decode cJ6_bitCount_0f7a4 47 = .ok (.istore_n 0, 1) := by decide +kernel
theorem dJ6_bitCount_0f7a4_48 : decode cJ6_bitCount_0f7a4 48 = .ok (.iload_n 0, 1) := by decide +kernel
theorem dJ6_bitCount_0f7a4_49 : decode cJ6_bitCount_0f7a4 49 = .ok (.bipush 63, 2) := by decide +kernel
theorem dJ6_bitCount_0f7a4_51 : decode cJ6_bitCount_0f7a4 51 = .ok (.iand, 1) := by decide +kernel
theorem dJ6_bitCount_0f7a4_52 : decode cJ6_bitCount_0f7a4 52 = .ok (.ireturn, 1) := by decide +kernel
theorem dJ9_max_7cf53_0 : decode cJ9_max_7cf53 0 = .ok (.iload_n 0, 1) := by decide +kernel
theorem dJ9_max_7cf53_1 : decode cJ9_max_7cf53 1 = .ok (.iload_n 1, 1) := by decide +kernel
theorem dJ9_max_7cf53_2 : decode cJ9_max_7cf53 2 = .ok (.if_icmp .lt 7, 3) := by decide +kernel
theorem dJ9_max_7cf53_5 : decode cJ9_max_7cf53 5 = .ok (.iload_n 0, 1) := by decide +kernel
theorem dJ9_max_7cf53_6 : decode cJ9_max_7cf53 6 = .ok (.goto 4, 3) := by decide +kernel
theorem dJ9_max_7cf53_9 : decode cJ9_max_7cf53 9 = .ok (.iload_n 1, 1) := by decide +kernel
theorem dJ9_max_7cf53_10 : decode cJ9_max_7cf53 10 = .ok (.ireturn, 1) := by decide +kernel
theorem dJ9_min_7cf53_0 : decode cJ9_min_7cf53 0 = .ok (.iload_n 0, 1) := by decide +kernel
theorem dJ9_min_7cf53_1 : decode cJ9_min_7cf53 1 = .ok (.iload_n 1, 1) := by decide +kernel
theorem dJ9_min_7cf53_2 : decode cJ9_min_7cf53 2 = .ok (.if_icmp .gt 7, 3) := by decide +kernel
theorem dJ9_min_7cf53_5 : decode cJ9_min_7cf53 5 = .ok (.iload_n 0, 1) := by decide +kernel
theorem dJ9_min_7cf53_6 : decode cJ9_min_7cf53 6 = .ok (.goto 4, 3) := by decide +kernel
theorem dJ9_min_7cf53_9 : decode cJ9_min_7cf53 9 = .ok (.iload_n 1, 1) := by decide +kernel
theorem dJ9_min_7cf53_10 : decode cJ9_min_7cf53 10 = .ok (.ireturn, 1) := by decide +kernel
end
section
theorem inX6_beAsAtFirst_X6 : ∀ w ∈ u_ws RX6 TX6 6, w ∈ wsX6_beAsAtFirst := by decide +kernel
theorem mX6_beAsAtFirst_0 : Cond.fieldLink RX6 24 "WarmBottles$Told" "bottles" "I" ∈ wsX6_beAsAtFirst := List.mem_of_getElem? (i := 1) rfl
theorem mX6_beAsAtFirst_1 : Cond.fieldLink RX6 28 "WarmBottles$Told" "kettle" "I" ∈ wsX6_beAsAtFirst := List.mem_of_getElem? (i := 2) rfl
theorem mX6_beAsAtFirst_2 : Cond.fieldLink RX6 31 "WarmBottles$Told" "pint" "I" ∈ wsX6_beAsAtFirst := List.mem_of_getElem? (i := 3) rfl
def rm_X6_beAsAtFirst_D : Room := { frames := 3, cells := 0, slots := 0, locals := 210 }
def f_X6_beAsAtFirst_D (N : Nat) (I : Nat → Int32) (A : Nat → Nat → Int32)  : Option ((Nat → Int32)) := some (upd (upd (upd I 0 0) 1 10) 2 10)
set_option maxHeartbeats 4000000 in
set_option maxRecDepth 100000 in
theorem c_X6_beAsAtFirst_D (l : Launch) (dC : Nat → ClassId) (dI : Nat → Nat → Nat) (a : Nat → Nat) (cy : Nat → ClassId) (N : Nat) (I : Nat → Int32) (A : Nat → Nat → Int32) (T : Int64)  (res : (Nat → Int32)) (h : f_X6_beAsAtFirst_D N I A  = some res) (sz : Nat) : Met l yX6_beAsAtFirst wsX6_beAsAtFirst rm_X6_beAsAtFirst_D (g_Pre (dC, dI) cy [.ref (a 0)] (wD a cy I A T) sz) (g_Qv (dC, dI) cy (wD a cy I A T) (wD a cy res A T) sz) 0 0 (va_A (wD a cy I A T) sz) := by
  unfold f_X6_beAsAtFirst_D at h
  refine g_entry _ _ _ _ _ _ (cc := cX6_beAsAtFirst) (maxL := 1) (ret := none) (by decide) rfl (Nat.le_of_ble_eq_true rfl) ?_
  intro p e s m args below meth c ls hx hb hml hown hts hr hlocks hA hK hP hD hS hl Q hQ
  have hl : lv_has ls 1 [(0, .ref (a 0))] := hl
  have hown : s.vm.findClass RX6 = some m.cls := hown
  refine lv_aload_n hx hb dX6_beAsAtFirst_0 rfl (lv_at hl 0 rfl) ?_
  refine lv_iconst (v := 0) hx hb dX6_beAsAtFirst_1 (by decide) ?_
  refine g_put (D := (dC, dI)) (ci := 6) (v := .int 0) (ty := .int) (C := RX6) (T := TX6) (N := 6) hx hb hts inX6_beAsAtFirst_X6 tyX6 tyX6_ok nmX6 hown hK hP hD hS 0 (eD_0 a cy I A T) rfl 3 (by decide) (hts _ mX6_beAsAtFirst_0) (fun _ h9 => h9) rfl (by decide +kernel) rfl rfl (Nat.le_of_ble_eq_true rfl) dX6_beAsAtFirst_2 (pD_0_3 a cy I A T 0) (fun H locs hP hD hS => ?_)
  refine lv_aload_n hx hb dX6_beAsAtFirst_5 rfl (lv_at hl 0 rfl) ?_
  refine lv_bipush (v := 10) hx hb dX6_beAsAtFirst_6 (by decide) ?_
  refine g_put (D := (dC, dI)) (ci := 6) (v := .int 10) (ty := .int) (C := RX6) (T := TX6) (N := 6) hx hb hts inX6_beAsAtFirst_X6 tyX6 tyX6_ok nmX6 hown hK hP hD hS 0 (eD_0 a cy (upd I 0 0) A T) rfl 4 (by decide) (hts _ mX6_beAsAtFirst_1) (fun _ h9 => h9) rfl (by decide +kernel) rfl rfl (Nat.le_of_ble_eq_true rfl) dX6_beAsAtFirst_8 (pD_0_4 a cy (upd I 0 0) A T 10) (fun H locs hP hD hS => ?_)
  refine lv_aload_n hx hb dX6_beAsAtFirst_11 rfl (lv_at hl 0 rfl) ?_
  refine lv_bipush (v := 10) hx hb dX6_beAsAtFirst_12 (by decide) ?_
  refine g_put (D := (dC, dI)) (ci := 6) (v := .int 10) (ty := .int) (C := RX6) (T := TX6) (N := 6) hx hb hts inX6_beAsAtFirst_X6 tyX6 tyX6_ok nmX6 hown hK hP hD hS 0 (eD_0 a cy (upd (upd I 0 0) 1 10) A T) rfl 5 (by decide) (hts _ mX6_beAsAtFirst_2) (fun _ h9 => h9) rfl (by decide +kernel) rfl rfl (Nat.le_of_ble_eq_true rfl) dX6_beAsAtFirst_14 (pD_0_5 a cy (upd (upd I 0 0) 1 10) A T 10) (fun H locs hP hD hS => ?_)
  cases h
  exact g_vret hx hb hr hK hP hD hS hQ dX6_beAsAtFirst_17
theorem inX3_begin_X3 : ∀ w ∈ u_ws RX3 TX3 6, w ∈ wsX3_begin := by decide +kernel
theorem mX3_begin_0 : Cond.fieldLink RX3 28 "WarmBottles$Night" "hour" "I" ∈ wsX3_begin := List.mem_of_getElem? (i := 1) rfl
theorem mX3_begin_1 : Cond.fieldLink RX3 32 "WarmBottles$Night" "frost" "I" ∈ wsX3_begin := List.mem_of_getElem? (i := 2) rfl
theorem mX3_begin_2 : Cond.fieldLink RX3 12 "WarmBottles$Night" "told" "LWarmBottles$Told;" ∈ wsX3_begin := List.mem_of_getElem? (i := 3) rfl
theorem inX3_begin_X6 : ∀ w ∈ u_ws RX6 TX6 6, w ∈ wsX3_begin := by decide +kernel
theorem mX3_begin_3 : Cond.fieldLink RX3 35 "WarmBottles$Told" "kettle" "I" ∈ wsX3_begin := List.mem_of_getElem? (i := 4) rfl
theorem mX3_begin_4 : Cond.fieldLink RX3 38 "WarmBottles$Night" "kettle" "I" ∈ wsX3_begin := List.mem_of_getElem? (i := 5) rfl
theorem mX3_begin_5 : Cond.fieldLink RX3 18 "WarmBottles$Night" "warm" "[I" ∈ wsX3_begin := List.mem_of_getElem? (i := 6) rfl
theorem mX3_begin_6 : Cond.fieldLink RX3 39 "WarmBottles$Told" "warm" "[I" ∈ wsX3_begin := List.mem_of_getElem? (i := 7) rfl
theorem mX3_begin_7 : Cond.fieldLink RX3 22 "WarmBottles$Night" "bed" "[I" ∈ wsX3_begin := List.mem_of_getElem? (i := 8) rfl
def rm_X3_begin_N : Room := { frames := 3, cells := 0, slots := 0, locals := 210 }
def f_X3_begin_N_L23 (N : Nat) (k_23 : Int32 → (Nat → Nat → Int32) → Option ((Nat → Int32) × (Nat → Nat → Int32))) (I_23 : (Nat → Int32)) : Nat → Int32 → (Nat → Nat → Int32) → Option ((Nat → Int32) × (Nat → Nat → Int32))
  | 0, _, _ => none
  | n_23 + 1, x1, A_23 => (if 6 ≤ x1 then (k_23 x1 A_23) else (if x1 < 0 ∨ 6 ≤ x1.toNatClampNeg then none else (f_X3_begin_N_L23 N k_23 I_23 n_23 (x1 + 1) (va_up (va_up A_23 3 (upd (A_23 3) x1.toNatClampNeg ((A_23 0) x1.toNatClampNeg))) 4 (upd (A_23 4) x1.toNatClampNeg x1)))))
def f_X3_begin_N (N : Nat) (I : Nat → Int32) (A : Nat → Nat → Int32)  : Option ((Nat → Int32) × (Nat → Nat → Int32)) := (f_X3_begin_N_L23 N (fun (x1 : Int32) (A_23 : (Nat → Nat → Int32)) => some ((upd (upd (upd I 0 0) 1 0) 2 (I 4)), A_23)) (upd (upd (upd I 0 0) 1 0) 2 (I 4)) N 0 A)
set_option maxHeartbeats 4000000 in
set_option maxRecDepth 100000 in
theorem c_X3_begin_N (l : Launch) (dC : Nat → ClassId) (dI : Nat → Nat → Nat) (a : Nat → Nat) (cy : Nat → ClassId) (N : Nat) (I : Nat → Int32) (A : Nat → Nat → Int32) (T : Int64)  (res : (Nat → Int32) × (Nat → Nat → Int32)) (h : f_X3_begin_N N I A  = some res) (sz : Nat) : Met l yX3_begin wsX3_begin rm_X3_begin_N (g_Pre (dC, dI) cy [.ref (a 0)] (wN a cy I A T) sz) (g_Qv (dC, dI) cy (wN a cy I A T) (wN a cy res.1 res.2 T) sz) 0 0 (va_A (wN a cy I A T) sz) := by
  unfold f_X3_begin_N at h
  refine g_entry _ _ _ _ _ _ (cc := cX3_begin) (maxL := 2) (ret := none) (by decide) rfl (Nat.le_of_ble_eq_true rfl) ?_
  intro p e s m args below meth c ls hx hb hml hown hts hr hlocks hA hK hP hD hS hl Q hQ
  have hl : lv_has ls 2 [(0, .ref (a 0))] := hl
  have hown : s.vm.findClass RX3 = some m.cls := hown
  refine lv_aload_n hx hb dX3_begin_0 rfl (lv_at hl 0 rfl) ?_
  refine lv_iconst (v := 0) hx hb dX3_begin_1 (by decide) ?_
  refine g_put (D := (dC, dI)) (ci := 3) (v := .int 0) (ty := .int) (C := RX3) (T := TX3) (N := 6) hx hb hts inX3_begin_X3 tyX3 tyX3_ok nmX3 hown hK hP hD hS 0 (eN_0 a cy I A T) rfl 3 (by decide) (hts _ mX3_begin_0) (fun _ h9 => h9) rfl (by decide +kernel) rfl rfl (Nat.le_of_ble_eq_true rfl) dX3_begin_2 (pN_0_3 a cy I A T 0) (fun H locs hP hD hS => ?_)
  refine lv_aload_n hx hb dX3_begin_5 rfl (lv_at hl 0 rfl) ?_
  refine lv_iconst (v := 0) hx hb dX3_begin_6 (by decide) ?_
  refine g_put (D := (dC, dI)) (ci := 3) (v := .int 0) (ty := .int) (C := RX3) (T := TX3) (N := 6) hx hb hts inX3_begin_X3 tyX3 tyX3_ok nmX3 hown hK hP hD hS 0 (eN_0 a cy (upd I 0 0) A T) rfl 4 (by decide) (hts _ mX3_begin_1) (fun _ h9 => h9) rfl (by decide +kernel) rfl rfl (Nat.le_of_ble_eq_true rfl) dX3_begin_7 (pN_0_4 a cy (upd I 0 0) A T 0) (fun H locs hP hD hS => ?_)
  refine lv_aload_n hx hb dX3_begin_10 rfl (lv_at hl 0 rfl) ?_
  refine lv_aload_n hx hb dX3_begin_11 rfl (lv_at hl 0 rfl) ?_
  refine va_get (D := (dC, dI)) (ci := 3) (v := .ref (a 1)) (C := RX3) (T := TX3) (N := 6) hx hb hts inX3_begin_X3 hown hK hP 0 (eN_0 a cy (upd (upd I 0 0) 1 0) A T) rfl 0 (by decide) (hts _ mX3_begin_2) (fun _ h9 => h9) rfl dX3_begin_12 ?_
  refine va_get (D := (dC, dI)) (ci := 6) (v := .int (I 4)) (C := RX6) (T := TX6) (N := 6) hx hb hts inX3_begin_X6 hown hK hP 1 (eN_1 a cy (upd (upd I 0 0) 1 0) A T) rfl 4 (by decide) (hts _ mX3_begin_3) (fun _ h9 => h9) rfl dX3_begin_15 ?_
  refine g_put (D := (dC, dI)) (ci := 3) (v := .int (I 4)) (ty := .int) (C := RX3) (T := TX3) (N := 6) hx hb hts inX3_begin_X3 tyX3 tyX3_ok nmX3 hown hK hP hD hS 0 (eN_0 a cy (upd (upd I 0 0) 1 0) A T) rfl 5 (by decide) (hts _ mX3_begin_4) (fun _ h9 => h9) rfl (by decide +kernel) rfl rfl (Nat.le_of_ble_eq_true rfl) dX3_begin_18 (pN_0_5 a cy (upd (upd I 0 0) 1 0) A T (I 4)) (fun H locs hP hD hS => ?_)
  refine lv_iconst (v := 0) hx hb dX3_begin_21 (by decide) ?_
  refine lv_istore_n (lv' := [(1, .int 0), (0, .ref (a 0))]) hx hb dX3_begin_22 rfl hl (by decide) rfl (fun ls hl => ?_)
  have lp23 : ∀ (I_23 : (Nat → Int32)) (k_23 : Int32 → (Nat → Nat → Int32) → Option ((Nat → Int32) × (Nat → Nat → Int32))), (∀ (x1 : Int32) (A_23 : (Nat → Nat → Int32)), k_23 x1 A_23 = some res → g_At (dC, dI) p l e (headSpec wsX3_begin rm_X3_begin_N).room s m args below meth c Q (wN a cy I A T) sz 2 (wN a cy I_23 A_23 T) [] 57 []) → ∀ (n_23 : Nat) (x1 : Int32) (A_23 : (Nat → Nat → Int32)), f_X3_begin_N_L23 N k_23 I_23 n_23 x1 A_23 = some res → g_At (dC, dI) p l e (headSpec wsX3_begin rm_X3_begin_N).room s m args below meth c Q (wN a cy I A T) sz 2 (wN a cy I_23 A_23 T) [(0, .ref (a 0)), (1, .int x1)] 23 [] := by
    intro I_23 k_23 hk_23 n_23
    induction n_23 with
    | zero =>
      intro x1 A_23 h
      exact absurd h (by rw [f_X3_begin_N_L23]; exact fun q => by cases q)
    | succ n_23 ih23 =>
      intro x1 A_23 h H locs hP hD hS ls hl
      rw [f_X3_begin_N_L23] at h
      refine lv_iload_n hx hb dX3_begin_23 rfl (lv_at hl 1 rfl) ?_
      refine lv_bipush (v := 6) hx hb dX3_begin_24 (by decide) ?_
      refine lv_icmp_ge (tgt := 57) hx hb dX3_begin_26 (by decide) (fun c1 => ?_) (fun c1 => ?_)
      · replace h := ite_t h c1
        exact hk_23 _ _ h _ _ hP hD hS _ (lv_sub hl [] rfl)
      · replace h := ite_f h c1
        refine lv_aload_n hx hb dX3_begin_29 rfl (lv_at hl 0 rfl) ?_
        refine va_get (D := (dC, dI)) (ci := 3) (v := .ref (a 5)) (C := RX3) (T := TX3) (N := 6) hx hb hts inX3_begin_X3 hown hK hP 0 (eN_0 a cy I_23 A_23 T) rfl 1 (by decide) (hts _ mX3_begin_5) (fun _ h9 => h9) rfl dX3_begin_30 ?_
        refine lv_iload_n hx hb dX3_begin_33 rfl (lv_at hl 1 rfl) ?_
        refine lv_aload_n hx hb dX3_begin_34 rfl (lv_at hl 0 rfl) ?_
        refine va_get (D := (dC, dI)) (ci := 3) (v := .ref (a 1)) (C := RX3) (T := TX3) (N := 6) hx hb hts inX3_begin_X3 hown hK hP 0 (eN_0 a cy I_23 A_23 T) rfl 0 (by decide) (hts _ mX3_begin_2) (fun _ h9 => h9) rfl dX3_begin_35 ?_
        refine va_get (D := (dC, dI)) (ci := 6) (v := .ref (a 2)) (C := RX6) (T := TX6) (N := 6) hx hb hts inX3_begin_X6 hown hK hP 1 (eN_1 a cy I_23 A_23 T) rfl 0 (by decide) (hts _ mX3_begin_6) (fun _ h9 => h9) rfl dX3_begin_38 ?_
        refine lv_iload_n hx hb dX3_begin_41 rfl (lv_at hl 1 rfl) ?_
        obtain ⟨i2, h⟩ := inb_some h
        refine g_iald (f := (A_23 0)) (j := x1.toNatClampNeg) hx hb hK hP 2 (eN_2 a cy I_23 A_23 T) i2 rfl dX3_begin_42 ?_
        refine g_iast (f := (A_23 3)) (j := x1.toNatClampNeg) hx hb hK hP hD hS 5 (eN_5 a cy I_23 A_23 T) i2 rfl dX3_begin_43 (sN_5 a cy I_23 A_23 T (upd (A_23 3) x1.toNatClampNeg ((A_23 0) x1.toNatClampNeg))) (fun H locs hP hD hS => ?_)
        refine lv_aload_n hx hb dX3_begin_44 rfl (lv_at hl 0 rfl) ?_
        refine va_get (D := (dC, dI)) (ci := 3) (v := .ref (a 6)) (C := RX3) (T := TX3) (N := 6) hx hb hts inX3_begin_X3 hown hK hP 0 (eN_0 a cy I_23 (va_up A_23 3 (upd (A_23 3) x1.toNatClampNeg ((A_23 0) x1.toNatClampNeg))) T) rfl 2 (by decide) (hts _ mX3_begin_7) (fun _ h9 => h9) rfl dX3_begin_45 ?_
        refine lv_iload_n hx hb dX3_begin_48 rfl (lv_at hl 1 rfl) ?_
        refine lv_iload_n hx hb dX3_begin_49 rfl (lv_at hl 1 rfl) ?_
        refine g_iast (f := (A_23 4)) (j := x1.toNatClampNeg) hx hb hK hP hD hS 6 (eN_6 a cy I_23 (va_up A_23 3 (upd (A_23 3) x1.toNatClampNeg ((A_23 0) x1.toNatClampNeg))) T) i2 rfl dX3_begin_50 (sN_6 a cy I_23 (va_up A_23 3 (upd (A_23 3) x1.toNatClampNeg ((A_23 0) x1.toNatClampNeg))) T (upd (A_23 4) x1.toNatClampNeg x1)) (fun H locs hP hD hS => ?_)
        refine lv_iinc (v := (x1 + 1)) (lv' := [(1, .int (x1 + 1)), (0, .ref (a 0))]) hx hb dX3_begin_51 hl (k := 1) rfl rfl (by decide) rfl (fun ls hl => ?_)
        refine lv_goto (tgt := 23) hx hb dX3_begin_54 (by decide) ?_
        exact ih23 _ _ h _ _ hP hD hS _ (lv_sub hl [1, 0] rfl)
  refine lp23 _ _ ?_ N _ _ h _ _ hP hD hS _ (lv_sub hl [1, 0] rfl)
  intro x1 A_23 h H locs hP hD hS ls hl
  cases h
  exact g_vret hx hb hr hK hP hD hS hQ dX3_begin_57
theorem inX5_append_X5 : ∀ w ∈ u_ws RX5 TX5 8, w ∈ wsX5_append := by decide +kernel
theorem mX5_append_0 : Cond.fieldLink RX5 15 "WarmBottles$Text" "length" "I" ∈ wsX5_append := List.mem_of_getElem? (i := 1) rfl
theorem mX5_append_1 : Cond.fieldLink RX5 9 "WarmBottles$Text" "letters" "[C" ∈ wsX5_append := List.mem_of_getElem? (i := 2) rfl
def rm_X5_append_C : Room := { frames := 3, cells := 0, slots := 0, locals := 210 }
def f_X5_append_C (N : Nat) (I : Nat → Int32) (A : Nat → Nat → Int32) (p1 : Int32) : Option ((Nat → Int32) × (Nat → Nat → Int32)) := (if 120 ≤ (I 0) then some (I, A) else (if (I 0) < 0 ∨ 120 ≤ ((I 0)).toNatClampNeg then none else some ((upd I 0 ((I 0) + 1)), (va_up A 0 (upd (A 0) ((I 0)).toNatClampNeg (vp_nar .char p1))))))
set_option maxHeartbeats 4000000 in
set_option maxRecDepth 100000 in
theorem c_X5_append_C (l : Launch) (dC : Nat → ClassId) (dI : Nat → Nat → Nat) (a : Nat → Nat) (cy : Nat → ClassId) (N : Nat) (I : Nat → Int32) (A : Nat → Nat → Int32) (T : Int64) (p1 : Int32) (res : (Nat → Int32) × (Nat → Nat → Int32)) (h : f_X5_append_C N I A p1 = some res) (sz : Nat) : Met l yX5_append wsX5_append rm_X5_append_C (g_Pre (dC, dI) cy [.ref (a 1), .int p1] (wC a cy I A T) sz) (g_Qv (dC, dI) cy (wC a cy I A T) (wC a cy res.1 res.2 T) sz) 0 0 (va_A (wC a cy I A T) sz) := by
  unfold f_X5_append_C at h
  refine g_entry _ _ _ _ _ _ (cc := cX5_append) (maxL := 2) (ret := none) (by decide) rfl (Nat.le_of_ble_eq_true rfl) ?_
  intro p e s m args below meth c ls hx hb hml hown hts hr hlocks hA hK hP hD hS hl Q hQ
  have hl : lv_has ls 2 [(0, .ref (a 1)), (1, .int p1)] := hl
  have hown : s.vm.findClass RX5 = some m.cls := hown
  refine lv_aload_n hx hb dX5_append_0 rfl (lv_at hl 0 rfl) ?_
  refine va_get (D := (dC, dI)) (ci := 5) (v := .int (I 0)) (C := RX5) (T := TX5) (N := 8) hx hb hts inX5_append_X5 hown hK hP 1 (eC_1 a cy I A T) rfl 1 (by decide) (hts _ mX5_append_0) (fun _ h9 => h9) rfl dX5_append_1 ?_
  refine lv_aload_n hx hb dX5_append_4 rfl (lv_at hl 0 rfl) ?_
  refine va_get (D := (dC, dI)) (ci := 5) (v := .ref (a 2)) (C := RX5) (T := TX5) (N := 8) hx hb hts inX5_append_X5 hown hK hP 1 (eC_1 a cy I A T) rfl 0 (by decide) (hts _ mX5_append_1) (fun _ h9 => h9) rfl dX5_append_5 ?_
  refine va_alen (v := 120) hx hb hK hP 2 1 (eC_2 a cy I A T) rfl rfl dX5_append_8 ?_
  refine lv_icmp_ge (tgt := 32) hx hb dX5_append_9 (by decide) (fun c1 => ?_) (fun c1 => ?_)
  · replace h := ite_t h c1
    cases h
    exact g_vret hx hb hr hK hP hD hS hQ dX5_append_32
  · replace h := ite_f h c1
    refine lv_aload_n hx hb dX5_append_12 rfl (lv_at hl 0 rfl) ?_
    refine va_get (D := (dC, dI)) (ci := 5) (v := .ref (a 2)) (C := RX5) (T := TX5) (N := 8) hx hb hts inX5_append_X5 hown hK hP 1 (eC_1 a cy I A T) rfl 0 (by decide) (hts _ mX5_append_1) (fun _ h9 => h9) rfl dX5_append_13 ?_
    refine lv_aload_n hx hb dX5_append_16 rfl (lv_at hl 0 rfl) ?_
    refine va_get (D := (dC, dI)) (ci := 5) (v := .int (I 0)) (C := RX5) (T := TX5) (N := 8) hx hb hts inX5_append_X5 hown hK hP 1 (eC_1 a cy I A T) rfl 1 (by decide) (hts _ mX5_append_0) (fun _ h9 => h9) rfl dX5_append_17 ?_
    refine lv_iload_n hx hb dX5_append_20 rfl (lv_at hl 1 rfl) ?_
    obtain ⟨i2, h⟩ := inb_some h
    refine g_cast (f := (A 0)) (j := ((I 0)).toNatClampNeg) hx hb hK hP hD hS 2 (eC_2 a cy I A T) i2 rfl dX5_append_21 (sC_2 a cy I A T (upd (A 0) ((I 0)).toNatClampNeg (vp_nar .char p1))) (fun H locs hP hD hS => ?_)
    refine lv_aload_n hx hb dX5_append_22 rfl (lv_at hl 0 rfl) ?_
    refine lv_dup hx hb dX5_append_23 rfl ?_
    refine va_get (D := (dC, dI)) (ci := 5) (v := .int (I 0)) (C := RX5) (T := TX5) (N := 8) hx hb hts inX5_append_X5 hown hK hP 1 (eC_1 a cy I (va_up A 0 (upd (A 0) ((I 0)).toNatClampNeg (vp_nar .char p1))) T) rfl 1 (by decide) (hts _ mX5_append_0) (fun _ h9 => h9) rfl dX5_append_24 ?_
    refine lv_iconst (v := 1) hx hb dX5_append_27 (by decide) ?_
    refine lv_iadd hx hb dX5_append_28 ?_
    refine g_put (D := (dC, dI)) (ci := 5) (v := .int ((I 0) + 1)) (ty := .int) (C := RX5) (T := TX5) (N := 8) hx hb hts inX5_append_X5 tyX5 tyX5_ok nmX5 hown hK hP hD hS 1 (eC_1 a cy I (va_up A 0 (upd (A 0) ((I 0)).toNatClampNeg (vp_nar .char p1))) T) rfl 1 (by decide) (hts _ mX5_append_0) (fun _ h9 => h9) rfl (by decide +kernel) rfl rfl (Nat.le_of_ble_eq_true rfl) dX5_append_29 (pC_1_1 a cy I (va_up A 0 (upd (A 0) ((I 0)).toNatClampNeg (vp_nar .char p1))) T ((I 0) + 1)) (fun H locs hP hD hS => ?_)
    cases h
    exact g_vret hx hb hr hK hP hD hS hQ dX5_append_32
theorem inX7_type_X7 : ∀ w ∈ u_ws RX7 TX7 9, w ∈ wsX7_type := by decide +kernel
theorem mX7_type_0 : Cond.fieldLink RX7 10 "WarmBottles" "text" "LWarmBottles$Text;" ∈ wsX7_type := List.mem_of_getElem? (i := 1) rfl
theorem inX7_type_X5 : ∀ w ∈ u_ws RX5 TX5 8, w ∈ wsX7_type := by decide +kernel
theorem mX7_type_1 : Cond.fieldLink RX7 66 "WarmBottles$Text" "length" "I" ∈ wsX7_type := List.mem_of_getElem? (i := 2) rfl
def rm_X7_type_C : Room := { frames := 5, cells := 0, slots := 0, locals := 270 }
def f_X7_type_C (N : Nat) (I : Nat → Int32) (A : Nat → Nat → Int32) (p1 : Int32) : Option (Int32 × (Nat → Int32) × (Nat → Nat → Int32)) := (if p1 < 0 then some ((-1), I, A) else (if p1 ≤ 255 then (if (I 0) < 120 then (Option.bind (f_X5_append_C N I A (p1.toUInt32 % 65536).toInt32) (fun r4 => some ((r4.1 0), r4.1, r4.2))) else some ((-3), I, A)) else some ((-1), I, A)))
set_option maxHeartbeats 4000000 in
set_option maxRecDepth 100000 in
theorem c_X7_type_C (l : Launch) (dC : Nat → ClassId) (dI : Nat → Nat → Nat) (a : Nat → Nat) (cy : Nat → ClassId) (N : Nat) (I : Nat → Int32) (A : Nat → Nat → Int32) (T : Int64) (p1 : Int32) (res : Int32 × (Nat → Int32) × (Nat → Nat → Int32)) (h : f_X7_type_C N I A p1 = some res) (sz : Nat) : Met l yX7_type wsX7_type rm_X7_type_C (g_Pre (dC, dI) cy [.ref (a 0), .int p1] (wC a cy I A T) sz) (g_Qi (dC, dI) cy res.1 (wC a cy I A T) (wC a cy res.2.1 res.2.2 T) sz) 0 0 (va_A (wC a cy I A T) sz) := by
  unfold f_X7_type_C at h
  refine g_entry _ _ _ _ _ _ (cc := cX7_type) (maxL := 2) (ret := (some .int)) (by decide) rfl (Nat.le_of_ble_eq_true rfl) ?_
  intro p e s m args below meth c ls hx hb hml hown hts hr hlocks hA hK hP hD hS hl Q hQ
  have hl : lv_has ls 2 [(0, .ref (a 0)), (1, .int p1)] := hl
  have hown : s.vm.findClass RX7 = some m.cls := hown
  refine lv_iload_n hx hb dX7_type_0 rfl (lv_at hl 1 rfl) ?_
  refine lv_if_lt (tgt := 11) hx hb dX7_type_1 (by decide) (fun c1 => ?_) (fun c1 => ?_)
  · replace h := ite_t h c1
    refine lv_iconst (v := (-1)) hx hb dX7_type_11 (by decide) ?_
    cases h
    exact g_iret hx hb hr hK hP hD hS hQ dX7_type_12
  · replace h := ite_f h c1
    refine lv_iload_n hx hb dX7_type_4 rfl (lv_at hl 1 rfl) ?_
    refine lv_sipush (v := 255) hx hb dX7_type_5 (by decide) ?_
    refine lv_icmp_le (tgt := 13) hx hb dX7_type_8 (by decide) (fun c2 => ?_) (fun c2 => ?_)
    · replace h := ite_t h c2
      refine lv_aload_n hx hb dX7_type_13 rfl (lv_at hl 0 rfl) ?_
      refine va_get (D := (dC, dI)) (ci := 7) (v := .ref (a 1)) (C := RX7) (T := TX7) (N := 9) hx hb hts inX7_type_X7 hown hK hP 0 (eC_0 a cy I A T) rfl 0 (by decide) (hts _ mX7_type_0) (fun _ h9 => h9) rfl dX7_type_14 ?_
      refine va_get (D := (dC, dI)) (ci := 5) (v := .int (I 0)) (C := RX5) (T := TX5) (N := 8) hx hb hts inX7_type_X5 hown hK hP 1 (eC_1 a cy I A T) rfl 1 (by decide) (hts _ mX7_type_1) (fun _ h9 => h9) rfl dX7_type_17 ?_
      refine lv_bipush (v := 120) hx hb dX7_type_20 (by decide) ?_
      refine lv_icmp_lt (tgt := 28) hx hb dX7_type_22 (by decide) (fun c3 => ?_) (fun c3 => ?_)
      · replace h := ite_t h c3
        refine lv_aload_n hx hb dX7_type_28 rfl (lv_at hl 0 rfl) ?_
        refine va_get (D := (dC, dI)) (ci := 7) (v := .ref (a 1)) (C := RX7) (T := TX7) (N := 9) hx hb hts inX7_type_X7 hown hK hP 0 (eC_0 a cy I A T) rfl 0 (by decide) (hts _ mX7_type_0) (fun _ h9 => h9) rfl dX7_type_29 ?_
        refine lv_iload_n hx hb dX7_type_32 rfl (lv_at hl 1 rfl) ?_
        refine lv_i2c (v := (p1.toUInt32 % 65536).toInt32) hx hb dX7_type_33 rfl ?_
        obtain ⟨r4, hr4, h⟩ := bnd_some h
        refine g_callVv (As := [.int (p1.toUInt32 % 65536).toInt32]) (rest := []) (ci := 5) (q0 := 1) hx hb hml hown hts (c_X5_append_C l dC dI a cy N I A T (p1.toUInt32 % 65536).toInt32 r4 hr4) (cwV 1 hts gX7_type_X5_append rfl rfl rfl (by decide +kernel) ⟨Nat.le_of_ble_eq_true rfl, Nat.le_of_ble_eq_true rfl⟩) hK hP hD hS hA rfl (eC_1 a cy I A T) rfl rfl hl.1 rfl (Nat.le_of_ble_eq_true rfl) dX7_type_34 (fun H locs hP hD hS => ?_)
        refine lv_aload_n hx hb dX7_type_37 rfl (lv_at hl 0 rfl) ?_
        refine va_get (D := (dC, dI)) (ci := 7) (v := .ref (a 1)) (C := RX7) (T := TX7) (N := 9) hx hb hts inX7_type_X7 hown hK hP 0 (eC_0 a cy r4.1 r4.2 T) rfl 0 (by decide) (hts _ mX7_type_0) (fun _ h9 => h9) rfl dX7_type_38 ?_
        refine va_get (D := (dC, dI)) (ci := 5) (v := .int (r4.1 0)) (C := RX5) (T := TX5) (N := 8) hx hb hts inX7_type_X5 hown hK hP 1 (eC_1 a cy r4.1 r4.2 T) rfl 1 (by decide) (hts _ mX7_type_1) (fun _ h9 => h9) rfl dX7_type_41 ?_
        cases h
        exact g_iret hx hb hr hK hP hD hS hQ dX7_type_44
      · replace h := ite_f h c3
        refine lv_bipush (v := (-3)) hx hb dX7_type_25 (by decide) ?_
        cases h
        exact g_iret hx hb hr hK hP hD hS hQ dX7_type_27
    · replace h := ite_f h c2
      refine lv_iconst (v := (-1)) hx hb dX7_type_11 (by decide) ?_
      cases h
      exact g_iret hx hb hr hK hP hD hS hQ dX7_type_12
theorem inX7_clear_X7 : ∀ w ∈ u_ws RX7 TX7 9, w ∈ wsX7_clear := by decide +kernel
theorem mX7_clear_0 : Cond.fieldLink RX7 10 "WarmBottles" "text" "LWarmBottles$Text;" ∈ wsX7_clear := List.mem_of_getElem? (i := 1) rfl
theorem inX7_clear_X5 : ∀ w ∈ u_ws RX5 TX5 8, w ∈ wsX7_clear := by decide +kernel
theorem mX7_clear_1 : Cond.fieldLink RX7 66 "WarmBottles$Text" "length" "I" ∈ wsX7_clear := List.mem_of_getElem? (i := 2) rfl
def rm_X7_clear_C : Room := { frames := 3, cells := 0, slots := 0, locals := 210 }
def f_X7_clear_C (N : Nat) (I : Nat → Int32) (A : Nat → Nat → Int32)  : Option (Int32 × (Nat → Int32)) := some ((I 0), (upd I 0 0))
set_option maxHeartbeats 4000000 in
set_option maxRecDepth 100000 in
theorem c_X7_clear_C (l : Launch) (dC : Nat → ClassId) (dI : Nat → Nat → Nat) (a : Nat → Nat) (cy : Nat → ClassId) (N : Nat) (I : Nat → Int32) (A : Nat → Nat → Int32) (T : Int64)  (res : Int32 × (Nat → Int32)) (h : f_X7_clear_C N I A  = some res) (sz : Nat) : Met l yX7_clear wsX7_clear rm_X7_clear_C (g_Pre (dC, dI) cy [.ref (a 0)] (wC a cy I A T) sz) (g_Qi (dC, dI) cy res.1 (wC a cy I A T) (wC a cy res.2 A T) sz) 0 0 (va_A (wC a cy I A T) sz) := by
  unfold f_X7_clear_C at h
  refine g_entry _ _ _ _ _ _ (cc := cX7_clear) (maxL := 2) (ret := (some .int)) (by decide) rfl (Nat.le_of_ble_eq_true rfl) ?_
  intro p e s m args below meth c ls hx hb hml hown hts hr hlocks hA hK hP hD hS hl Q hQ
  have hl : lv_has ls 2 [(0, .ref (a 0))] := hl
  have hown : s.vm.findClass RX7 = some m.cls := hown
  refine lv_aload_n hx hb dX7_clear_0 rfl (lv_at hl 0 rfl) ?_
  refine va_get (D := (dC, dI)) (ci := 7) (v := .ref (a 1)) (C := RX7) (T := TX7) (N := 9) hx hb hts inX7_clear_X7 hown hK hP 0 (eC_0 a cy I A T) rfl 0 (by decide) (hts _ mX7_clear_0) (fun _ h9 => h9) rfl dX7_clear_1 ?_
  refine va_get (D := (dC, dI)) (ci := 5) (v := .int (I 0)) (C := RX5) (T := TX5) (N := 8) hx hb hts inX7_clear_X5 hown hK hP 1 (eC_1 a cy I A T) rfl 1 (by decide) (hts _ mX7_clear_1) (fun _ h9 => h9) rfl dX7_clear_4 ?_
  refine lv_istore_n (lv' := [(1, .int (I 0)), (0, .ref (a 0))]) hx hb dX7_clear_7 rfl hl (by decide) rfl (fun ls hl => ?_)
  refine lv_aload_n hx hb dX7_clear_8 rfl (lv_at hl 1 rfl) ?_
  refine va_get (D := (dC, dI)) (ci := 7) (v := .ref (a 1)) (C := RX7) (T := TX7) (N := 9) hx hb hts inX7_clear_X7 hown hK hP 0 (eC_0 a cy I A T) rfl 0 (by decide) (hts _ mX7_clear_0) (fun _ h9 => h9) rfl dX7_clear_9 ?_
  refine lv_iconst (v := 0) hx hb dX7_clear_12 (by decide) ?_
  refine g_put (D := (dC, dI)) (ci := 5) (v := .int 0) (ty := .int) (C := RX5) (T := TX5) (N := 8) hx hb hts inX7_clear_X5 tyX5 tyX5_ok nmX5 hown hK hP hD hS 1 (eC_1 a cy I A T) rfl 1 (by decide) (hts _ mX7_clear_1) (fun _ h9 => h9) rfl (by decide +kernel) rfl rfl (Nat.le_of_ble_eq_true rfl) dX7_clear_13 (pC_1_1 a cy I A T 0) (fun H locs hP hD hS => ?_)
  refine lv_iload_n hx hb dX7_clear_16 rfl (lv_at hl 0 rfl) ?_
  cases h
  exact g_iret hx hb hr hK hP hD hS hQ dX7_clear_17
def rm_X6_beAsAtFirst_C : Room := { frames := 3, cells := 0, slots := 0, locals := 210 }
def f_X6_beAsAtFirst_C (N : Nat) (I : Nat → Int32) (A : Nat → Nat → Int32)  : Option ((Nat → Int32)) := some (upd (upd (upd I 7 0) 8 10) 9 10)
set_option maxHeartbeats 4000000 in
set_option maxRecDepth 100000 in
theorem c_X6_beAsAtFirst_C (l : Launch) (dC : Nat → ClassId) (dI : Nat → Nat → Nat) (a : Nat → Nat) (cy : Nat → ClassId) (N : Nat) (I : Nat → Int32) (A : Nat → Nat → Int32) (T : Int64)  (res : (Nat → Int32)) (h : f_X6_beAsAtFirst_C N I A  = some res) (sz : Nat) : Met l yX6_beAsAtFirst wsX6_beAsAtFirst rm_X6_beAsAtFirst_C (g_Pre (dC, dI) cy [.ref (a 3)] (wC a cy I A T) sz) (g_Qv (dC, dI) cy (wC a cy I A T) (wC a cy res A T) sz) 0 0 (va_A (wC a cy I A T) sz) := by
  unfold f_X6_beAsAtFirst_C at h
  refine g_entry _ _ _ _ _ _ (cc := cX6_beAsAtFirst) (maxL := 1) (ret := none) (by decide) rfl (Nat.le_of_ble_eq_true rfl) ?_
  intro p e s m args below meth c ls hx hb hml hown hts hr hlocks hA hK hP hD hS hl Q hQ
  have hl : lv_has ls 1 [(0, .ref (a 3))] := hl
  have hown : s.vm.findClass RX6 = some m.cls := hown
  refine lv_aload_n hx hb dX6_beAsAtFirst_0 rfl (lv_at hl 0 rfl) ?_
  refine lv_iconst (v := 0) hx hb dX6_beAsAtFirst_1 (by decide) ?_
  refine g_put (D := (dC, dI)) (ci := 6) (v := .int 0) (ty := .int) (C := RX6) (T := TX6) (N := 6) hx hb hts inX6_beAsAtFirst_X6 tyX6 tyX6_ok nmX6 hown hK hP hD hS 3 (eC_3 a cy I A T) rfl 3 (by decide) (hts _ mX6_beAsAtFirst_0) (fun _ h9 => h9) rfl (by decide +kernel) rfl rfl (Nat.le_of_ble_eq_true rfl) dX6_beAsAtFirst_2 (pC_3_3 a cy I A T 0) (fun H locs hP hD hS => ?_)
  refine lv_aload_n hx hb dX6_beAsAtFirst_5 rfl (lv_at hl 0 rfl) ?_
  refine lv_bipush (v := 10) hx hb dX6_beAsAtFirst_6 (by decide) ?_
  refine g_put (D := (dC, dI)) (ci := 6) (v := .int 10) (ty := .int) (C := RX6) (T := TX6) (N := 6) hx hb hts inX6_beAsAtFirst_X6 tyX6 tyX6_ok nmX6 hown hK hP hD hS 3 (eC_3 a cy (upd I 7 0) A T) rfl 4 (by decide) (hts _ mX6_beAsAtFirst_1) (fun _ h9 => h9) rfl (by decide +kernel) rfl rfl (Nat.le_of_ble_eq_true rfl) dX6_beAsAtFirst_8 (pC_3_4 a cy (upd I 7 0) A T 10) (fun H locs hP hD hS => ?_)
  refine lv_aload_n hx hb dX6_beAsAtFirst_11 rfl (lv_at hl 0 rfl) ?_
  refine lv_bipush (v := 10) hx hb dX6_beAsAtFirst_12 (by decide) ?_
  refine g_put (D := (dC, dI)) (ci := 6) (v := .int 10) (ty := .int) (C := RX6) (T := TX6) (N := 6) hx hb hts inX6_beAsAtFirst_X6 tyX6 tyX6_ok nmX6 hown hK hP hD hS 3 (eC_3 a cy (upd (upd I 7 0) 8 10) A T) rfl 5 (by decide) (hts _ mX6_beAsAtFirst_2) (fun _ h9 => h9) rfl (by decide +kernel) rfl rfl (Nat.le_of_ble_eq_true rfl) dX6_beAsAtFirst_14 (pC_3_5 a cy (upd (upd I 7 0) 8 10) A T 10) (fun H locs hP hD hS => ?_)
  cases h
  exact g_vret hx hb hr hK hP hD hS hQ dX6_beAsAtFirst_17
def rm_X5_isDigit_C : Room := { frames := 3, cells := 0, slots := 0, locals := 210 }
def f_X5_isDigit_C (N : Nat) (I : Nat → Int32) (A : Nat → Nat → Int32) (p0 : Int32) : Option (Int32) := (if p0 < 48 then some 0 else (if 57 < p0 then some 0 else some 1))
set_option maxHeartbeats 4000000 in
set_option maxRecDepth 100000 in
theorem c_X5_isDigit_C (l : Launch) (dC : Nat → ClassId) (dI : Nat → Nat → Nat) (a : Nat → Nat) (cy : Nat → ClassId) (N : Nat) (I : Nat → Int32) (A : Nat → Nat → Int32) (T : Int64) (p0 : Int32) (res : Int32) (h : f_X5_isDigit_C N I A p0 = some res) (sz : Nat) : Met l yX5_isDigit wsX5_isDigit rm_X5_isDigit_C (g_Pre (dC, dI) cy [.int p0] (wC a cy I A T) sz) (g_Qi (dC, dI) cy res (wC a cy I A T) (wC a cy I A T) sz) 0 0 (va_A (wC a cy I A T) sz) := by
  unfold f_X5_isDigit_C at h
  refine g_entry _ _ _ _ _ _ (cc := cX5_isDigit) (maxL := 1) (ret := (some .boolean)) (by decide) rfl (Nat.le_of_ble_eq_true rfl) ?_
  intro p e s m args below meth c ls hx hb hml hown hts hr hlocks hA hK hP hD hS hl Q hQ
  have hl : lv_has ls 1 [(0, .int p0)] := hl
  have hown : s.vm.findClass RX5 = some m.cls := hown
  refine lv_iload_n hx hb dX5_isDigit_0 rfl (lv_at hl 0 rfl) ?_
  refine lv_bipush (v := 48) hx hb dX5_isDigit_1 (by decide) ?_
  refine lv_icmp_lt (tgt := 16) hx hb dX5_isDigit_3 (by decide) (fun c1 => ?_) (fun c1 => ?_)
  · replace h := ite_t h c1
    refine lv_iconst (v := 0) hx hb dX5_isDigit_16 (by decide) ?_
    cases h
    exact g_zret hx hb hr (by decide) hK hP hD hS hQ dX5_isDigit_17
  · replace h := ite_f h c1
    refine lv_iload_n hx hb dX5_isDigit_6 rfl (lv_at hl 0 rfl) ?_
    refine lv_bipush (v := 57) hx hb dX5_isDigit_7 (by decide) ?_
    refine lv_icmp_gt (tgt := 16) hx hb dX5_isDigit_9 (by decide) (fun c2 => ?_) (fun c2 => ?_)
    · replace h := ite_t h c2
      refine lv_iconst (v := 0) hx hb dX5_isDigit_16 (by decide) ?_
      cases h
      exact g_zret hx hb hr (by decide) hK hP hD hS hQ dX5_isDigit_17
    · replace h := ite_f h c2
      refine lv_iconst (v := 1) hx hb dX5_isDigit_12 (by decide) ?_
      refine lv_goto (tgt := 17) hx hb dX5_isDigit_13 (by decide) ?_
      cases h
      exact g_zret hx hb hr (by decide) hK hP hD hS hQ dX5_isDigit_17
theorem inX5_readDigits_X5 : ∀ w ∈ u_ws RX5 TX5 8, w ∈ wsX5_readDigits := by decide +kernel
theorem mX5_readDigits_0 : Cond.fieldLink RX5 71 "WarmBottles$Text" "value" "I" ∈ wsX5_readDigits := List.mem_of_getElem? (i := 1) rfl
theorem mX5_readDigits_1 : Cond.fieldLink RX5 9 "WarmBottles$Text" "letters" "[C" ∈ wsX5_readDigits := List.mem_of_getElem? (i := 4) rfl
theorem mX5_readDigits_2 : Cond.fieldLink RX5 44 "WarmBottles$Text" "start" "I" ∈ wsX5_readDigits := List.mem_of_getElem? (i := 9) rfl
theorem mX5_readDigits_3 : Cond.fieldLink RX5 37 "WarmBottles$Text" "token" "I" ∈ wsX5_readDigits := List.mem_of_getElem? (i := 10) rfl
theorem mX5_readDigits_4 : Cond.fieldLink RX5 24 "WarmBottles$Text" "place" "I" ∈ wsX5_readDigits := List.mem_of_getElem? (i := 2) rfl
theorem mX5_readDigits_5 : Cond.fieldLink RX5 15 "WarmBottles$Text" "length" "I" ∈ wsX5_readDigits := List.mem_of_getElem? (i := 3) rfl
theorem mX5_readDigits_6 : Cond.methodLink RX5 93 Lib.Math.min.name ∈ wsX5_readDigits := List.mem_of_getElem? (i := 5) rfl
theorem mX5_readDigits_7 : Cond.static Lib.Math.min.name ∈ wsX5_readDigits := List.mem_of_getElem? (i := 6) rfl
theorem mX5_readDigits_8 : Cond.initialized "java/lang/Math" ∈ wsX5_readDigits := List.mem_of_getElem? (i := 7) rfl
theorem mX5_readDigits_9 : Cond.code Lib.Math.min.name Lib.Math.min.code 2 (some .int) ∈ wsX5_readDigits := List.mem_of_getElem? (i := 8) rfl
def rm_X5_readDigits_C : Room := { frames := 5, cells := 0, slots := 0, locals := 270 }
def f_X5_readDigits_C_L5 (N : Nat) (k_5 : (Nat → Int32) → Option ((Nat → Int32))) (A : (Nat → Nat → Int32)) : Nat → (Nat → Int32) → Option ((Nat → Int32))
  | 0, _ => none
  | n_5 + 1, I_5 => (if (I_5 0) ≤ (I_5 1) then (k_5 I_5) else (if (I_5 1) < 0 ∨ 120 ≤ ((I_5 1)).toNatClampNeg then none else (Option.bind (f_X5_isDigit_C N I_5 A ((A 0) ((I_5 1)).toNatClampNeg)) (fun r9 => (if r9 = 0 then (k_5 I_5) else (f_X5_readDigits_C_L5 N k_5 A n_5 (upd (upd I_5 4 (iMin 100 (((I_5 4) * 10) + (((A 0) ((I_5 1)).toNatClampNeg) - 48)))) 1 ((I_5 1) + 1))))))))
def f_X5_readDigits_C (N : Nat) (I : Nat → Int32) (A : Nat → Nat → Int32)  : Option ((Nat → Int32)) := (f_X5_readDigits_C_L5 N (fun (I_5 : (Nat → Int32)) => (if (I_5 2) < 0 ∨ 120 ≤ ((I_5 2)).toNatClampNeg then none else (if ((A 0) ((I_5 2)).toNatClampNeg) = 48 then (if (I_5 1) ≤ ((I_5 2) + 1) then some (upd I_5 3 (-2)) else some (upd I_5 3 (-3))) else some (upd I_5 3 (-2))))) A N (upd I 4 0))
set_option maxHeartbeats 4000000 in
set_option maxRecDepth 100000 in
theorem c_X5_readDigits_C (l : Launch) (dC : Nat → ClassId) (dI : Nat → Nat → Nat) (a : Nat → Nat) (cy : Nat → ClassId) (N : Nat) (I : Nat → Int32) (A : Nat → Nat → Int32) (T : Int64)  (res : (Nat → Int32)) (h : f_X5_readDigits_C N I A  = some res) (sz : Nat) : Met l yX5_readDigits wsX5_readDigits rm_X5_readDigits_C (g_Pre (dC, dI) cy [.ref (a 1)] (wC a cy I A T) sz) (g_Qv (dC, dI) cy (wC a cy I A T) (wC a cy res A T) sz) 0 0 (va_A (wC a cy I A T) sz) := by
  unfold f_X5_readDigits_C at h
  refine g_entry _ _ _ _ _ _ (cc := cX5_readDigits) (maxL := 2) (ret := none) (by decide) rfl (Nat.le_of_ble_eq_true rfl) ?_
  intro p e s m args below meth c ls hx hb hml hown hts hr hlocks hA hK hP hD hS hl Q hQ
  have hl : lv_has ls 2 [(0, .ref (a 1))] := hl
  have hown : s.vm.findClass RX5 = some m.cls := hown
  refine lv_aload_n hx hb dX5_readDigits_0 rfl (lv_at hl 0 rfl) ?_
  refine lv_iconst (v := 0) hx hb dX5_readDigits_1 (by decide) ?_
  refine g_put (D := (dC, dI)) (ci := 5) (v := .int 0) (ty := .int) (C := RX5) (T := TX5) (N := 8) hx hb hts inX5_readDigits_X5 tyX5 tyX5_ok nmX5 hown hK hP hD hS 1 (eC_1 a cy I A T) rfl 5 (by decide) (hts _ mX5_readDigits_0) (fun _ h9 => h9) rfl (by decide +kernel) rfl rfl (Nat.le_of_ble_eq_true rfl) dX5_readDigits_2 (pC_1_5 a cy I A T 0) (fun H locs hP hD hS => ?_)
  have lp5 : ∀  (k_5 : (Nat → Int32) → Option ((Nat → Int32))), (∀ (I_5 : (Nat → Int32)), k_5 I_5 = some res → g_At (dC, dI) p l e (headSpec wsX5_readDigits rm_X5_readDigits_C).room s m args below meth c Q (wC a cy I A T) sz 2 (wC a cy I_5 A T) [(0, .ref (a 1))] 73 []) → ∀ (n_5 : Nat) (I_5 : (Nat → Int32)), f_X5_readDigits_C_L5 N k_5 A n_5 I_5 = some res → g_At (dC, dI) p l e (headSpec wsX5_readDigits rm_X5_readDigits_C).room s m args below meth c Q (wC a cy I A T) sz 2 (wC a cy I_5 A T) [(0, .ref (a 1))] 5 [] := by
    intro  k_5 hk_5 n_5
    induction n_5 with
    | zero =>
      intro I_5 h
      exact absurd h (by rw [f_X5_readDigits_C_L5]; exact fun q => by cases q)
    | succ n_5 ih5 =>
      intro I_5 h H locs hP hD hS ls hl
      rw [f_X5_readDigits_C_L5] at h
      refine lv_aload_n hx hb dX5_readDigits_5 rfl (lv_at hl 0 rfl) ?_
      refine va_get (D := (dC, dI)) (ci := 5) (v := .int (I_5 1)) (C := RX5) (T := TX5) (N := 8) hx hb hts inX5_readDigits_X5 hown hK hP 1 (eC_1 a cy I_5 A T) rfl 2 (by decide) (hts _ mX5_readDigits_4) (fun _ h9 => h9) rfl dX5_readDigits_6 ?_
      refine lv_aload_n hx hb dX5_readDigits_9 rfl (lv_at hl 0 rfl) ?_
      refine va_get (D := (dC, dI)) (ci := 5) (v := .int (I_5 0)) (C := RX5) (T := TX5) (N := 8) hx hb hts inX5_readDigits_X5 hown hK hP 1 (eC_1 a cy I_5 A T) rfl 1 (by decide) (hts _ mX5_readDigits_5) (fun _ h9 => h9) rfl dX5_readDigits_10 ?_
      refine lv_icmp_ge (tgt := 73) hx hb dX5_readDigits_13 (by decide) (fun c7 => ?_) (fun c7 => ?_)
      · replace h := ite_t h c7
        exact hk_5 _ h _ _ hP hD hS _ (lv_sub hl [0] rfl)
      · replace h := ite_f h c7
        refine lv_aload_n hx hb dX5_readDigits_16 rfl (lv_at hl 0 rfl) ?_
        refine va_get (D := (dC, dI)) (ci := 5) (v := .ref (a 2)) (C := RX5) (T := TX5) (N := 8) hx hb hts inX5_readDigits_X5 hown hK hP 1 (eC_1 a cy I_5 A T) rfl 0 (by decide) (hts _ mX5_readDigits_1) (fun _ h9 => h9) rfl dX5_readDigits_17 ?_
        refine lv_aload_n hx hb dX5_readDigits_20 rfl (lv_at hl 0 rfl) ?_
        refine va_get (D := (dC, dI)) (ci := 5) (v := .int (I_5 1)) (C := RX5) (T := TX5) (N := 8) hx hb hts inX5_readDigits_X5 hown hK hP 1 (eC_1 a cy I_5 A T) rfl 2 (by decide) (hts _ mX5_readDigits_4) (fun _ h9 => h9) rfl dX5_readDigits_21 ?_
        obtain ⟨i8, h⟩ := inb_some h
        refine g_cald (f := (A 0)) (j := ((I_5 1)).toNatClampNeg) hx hb hK hP 2 (eC_2 a cy I_5 A T) i8 rfl dX5_readDigits_24 ?_
        obtain ⟨r9, hr9, h⟩ := bnd_some h
        refine g_callSi (As := [.int ((A 0) ((I_5 1)).toNatClampNeg)]) (rest := []) hx hb hml hown hts (c_X5_isDigit_C l dC dI a cy N I_5 A T ((A 0) ((I_5 1)).toNatClampNeg) r9 hr9) (va_cwS 1 hts gX5_readDigits_X5_isDigit rfl rfl rfl (by decide +kernel) ⟨Nat.le_of_ble_eq_true rfl, Nat.le_of_ble_eq_true rfl⟩) hK hP hD hS hA rfl hl.1 rfl (Nat.le_of_ble_eq_true rfl) dX5_readDigits_25 (fun H locs hP hD hS => ?_)
        refine lv_if_eq (tgt := 73) hx hb dX5_readDigits_28 (by decide) (fun c10 => ?_) (fun c10 => ?_)
        · replace h := ite_t h c10
          exact hk_5 _ h _ _ hP hD hS _ (lv_sub hl [0] rfl)
        · replace h := ite_f h c10
          refine lv_aload_n hx hb dX5_readDigits_31 rfl (lv_at hl 0 rfl) ?_
          refine lv_bipush (v := 100) hx hb dX5_readDigits_32 (by decide) ?_
          refine lv_aload_n hx hb dX5_readDigits_34 rfl (lv_at hl 0 rfl) ?_
          refine va_get (D := (dC, dI)) (ci := 5) (v := .int (I_5 4)) (C := RX5) (T := TX5) (N := 8) hx hb hts inX5_readDigits_X5 hown hK hP 1 (eC_1 a cy I_5 A T) rfl 5 (by decide) (hts _ mX5_readDigits_0) (fun _ h9 => h9) rfl dX5_readDigits_35 ?_
          refine lv_bipush (v := 10) hx hb dX5_readDigits_38 (by decide) ?_
          refine lv_imul hx hb dX5_readDigits_40 ?_
          refine lv_aload_n hx hb dX5_readDigits_41 rfl (lv_at hl 0 rfl) ?_
          refine va_get (D := (dC, dI)) (ci := 5) (v := .ref (a 2)) (C := RX5) (T := TX5) (N := 8) hx hb hts inX5_readDigits_X5 hown hK hP 1 (eC_1 a cy I_5 A T) rfl 0 (by decide) (hts _ mX5_readDigits_1) (fun _ h9 => h9) rfl dX5_readDigits_42 ?_
          refine lv_aload_n hx hb dX5_readDigits_45 rfl (lv_at hl 0 rfl) ?_
          refine va_get (D := (dC, dI)) (ci := 5) (v := .int (I_5 1)) (C := RX5) (T := TX5) (N := 8) hx hb hts inX5_readDigits_X5 hown hK hP 1 (eC_1 a cy I_5 A T) rfl 2 (by decide) (hts _ mX5_readDigits_4) (fun _ h9 => h9) rfl dX5_readDigits_46 ?_
          refine g_cald (f := (A 0)) (j := ((I_5 1)).toNatClampNeg) hx hb hK hP 2 (eC_2 a cy I_5 A T) i8 rfl dX5_readDigits_49 ?_
          refine lv_bipush (v := 48) hx hb dX5_readDigits_50 (by decide) ?_
          refine lv_isub hx hb dX5_readDigits_52 ?_
          refine lv_iadd hx hb dX5_readDigits_53 ?_
          refine g_mmin hx hb (hml.trans hl.1.symm) hown (hts _ mX5_readDigits_6) (hts _ mX5_readDigits_7) (hts _ mX5_readDigits_8) (hts _ mX5_readDigits_9) (Nat.le_of_ble_eq_true rfl) (Nat.le_of_ble_eq_true rfl) (Nat.zero_le _) (Nat.zero_le _) dX5_readDigits_54 ?_
          refine g_put (D := (dC, dI)) (ci := 5) (v := .int (iMin 100 (((I_5 4) * 10) + (((A 0) ((I_5 1)).toNatClampNeg) - 48)))) (ty := .int) (C := RX5) (T := TX5) (N := 8) hx hb hts inX5_readDigits_X5 tyX5 tyX5_ok nmX5 hown hK hP hD hS 1 (eC_1 a cy I_5 A T) rfl 5 (by decide) (hts _ mX5_readDigits_0) (fun _ h9 => h9) rfl (by decide +kernel) rfl rfl (Nat.le_of_ble_eq_true rfl) dX5_readDigits_57 (pC_1_5 a cy I_5 A T (iMin 100 (((I_5 4) * 10) + (((A 0) ((I_5 1)).toNatClampNeg) - 48)))) (fun H locs hP hD hS => ?_)
          refine lv_aload_n hx hb dX5_readDigits_60 rfl (lv_at hl 0 rfl) ?_
          refine lv_dup hx hb dX5_readDigits_61 rfl ?_
          refine va_get (D := (dC, dI)) (ci := 5) (v := .int (I_5 1)) (C := RX5) (T := TX5) (N := 8) hx hb hts inX5_readDigits_X5 hown hK hP 1 (eC_1 a cy (upd I_5 4 (iMin 100 (((I_5 4) * 10) + (((A 0) ((I_5 1)).toNatClampNeg) - 48)))) A T) rfl 2 (by decide) (hts _ mX5_readDigits_4) (fun _ h9 => h9) rfl dX5_readDigits_62 ?_
          refine lv_iconst (v := 1) hx hb dX5_readDigits_65 (by decide) ?_
          refine lv_iadd hx hb dX5_readDigits_66 ?_
          refine g_put (D := (dC, dI)) (ci := 5) (v := .int ((I_5 1) + 1)) (ty := .int) (C := RX5) (T := TX5) (N := 8) hx hb hts inX5_readDigits_X5 tyX5 tyX5_ok nmX5 hown hK hP hD hS 1 (eC_1 a cy (upd I_5 4 (iMin 100 (((I_5 4) * 10) + (((A 0) ((I_5 1)).toNatClampNeg) - 48)))) A T) rfl 2 (by decide) (hts _ mX5_readDigits_4) (fun _ h9 => h9) rfl (by decide +kernel) rfl rfl (Nat.le_of_ble_eq_true rfl) dX5_readDigits_67 (pC_1_2 a cy (upd I_5 4 (iMin 100 (((I_5 4) * 10) + (((A 0) ((I_5 1)).toNatClampNeg) - 48)))) A T ((I_5 1) + 1)) (fun H locs hP hD hS => ?_)
          refine lv_goto (tgt := 5) hx hb dX5_readDigits_70 (by decide) ?_
          exact ih5 _ h _ _ hP hD hS _ (lv_sub hl [0] rfl)
  refine lp5  _ ?_ N _ h _ _ hP hD hS _ (lv_sub hl [0] rfl)
  intro I_5 h H locs hP hD hS ls hl
  refine lv_aload_n hx hb dX5_readDigits_73 rfl (lv_at hl 0 rfl) ?_
  refine va_get (D := (dC, dI)) (ci := 5) (v := .ref (a 2)) (C := RX5) (T := TX5) (N := 8) hx hb hts inX5_readDigits_X5 hown hK hP 1 (eC_1 a cy I_5 A T) rfl 0 (by decide) (hts _ mX5_readDigits_1) (fun _ h9 => h9) rfl dX5_readDigits_74 ?_
  refine lv_aload_n hx hb dX5_readDigits_77 rfl (lv_at hl 0 rfl) ?_
  refine va_get (D := (dC, dI)) (ci := 5) (v := .int (I_5 2)) (C := RX5) (T := TX5) (N := 8) hx hb hts inX5_readDigits_X5 hown hK hP 1 (eC_1 a cy I_5 A T) rfl 3 (by decide) (hts _ mX5_readDigits_2) (fun _ h9 => h9) rfl dX5_readDigits_78 ?_
  obtain ⟨i1, h⟩ := inb_some h
  refine g_cald (f := (A 0)) (j := ((I_5 2)).toNatClampNeg) hx hb hK hP 2 (eC_2 a cy I_5 A T) i1 rfl dX5_readDigits_81 ?_
  refine lv_bipush (v := 48) hx hb dX5_readDigits_82 (by decide) ?_
  refine lv_icmp_ne (tgt := 104) hx hb dX5_readDigits_84 (by decide) (fun c2 => ?_) (fun c2 => ?_)
  · replace h := ite_f h c2
    refine lv_iconst (v := 0) hx hb dX5_readDigits_104 (by decide) ?_
    refine lv_istore_n (lv' := [(1, .int 0), (0, .ref (a 1))]) hx hb dX5_readDigits_105 rfl hl (by decide) rfl (fun ls hl => ?_)
    refine lv_aload_n hx hb dX5_readDigits_106 rfl (lv_at hl 1 rfl) ?_
    refine lv_iload_n hx hb dX5_readDigits_107 rfl (lv_at hl 0 rfl) ?_
    refine lv_if_eq (tgt := 116) hx hb dX5_readDigits_108 (by decide) (fun _ => ?_) (fun c3 => absurd (by decide) c3)
    refine lv_bipush (v := (-2)) hx hb dX5_readDigits_116 (by decide) ?_
    refine g_put (D := (dC, dI)) (ci := 5) (v := .int (-2)) (ty := .int) (C := RX5) (T := TX5) (N := 8) hx hb hts inX5_readDigits_X5 tyX5 tyX5_ok nmX5 hown hK hP hD hS 1 (eC_1 a cy I_5 A T) rfl 4 (by decide) (hts _ mX5_readDigits_3) (fun _ h9 => h9) rfl (by decide +kernel) rfl rfl (Nat.le_of_ble_eq_true rfl) dX5_readDigits_118 (pC_1_4 a cy I_5 A T (-2)) (fun H locs hP hD hS => ?_)
    cases h
    exact g_vret hx hb hr hK hP hD hS hQ dX5_readDigits_121
  · replace h := ite_t h c2
    refine lv_aload_n hx hb dX5_readDigits_87 rfl (lv_at hl 0 rfl) ?_
    refine va_get (D := (dC, dI)) (ci := 5) (v := .int (I_5 1)) (C := RX5) (T := TX5) (N := 8) hx hb hts inX5_readDigits_X5 hown hK hP 1 (eC_1 a cy I_5 A T) rfl 2 (by decide) (hts _ mX5_readDigits_4) (fun _ h9 => h9) rfl dX5_readDigits_88 ?_
    refine lv_aload_n hx hb dX5_readDigits_91 rfl (lv_at hl 0 rfl) ?_
    refine va_get (D := (dC, dI)) (ci := 5) (v := .int (I_5 2)) (C := RX5) (T := TX5) (N := 8) hx hb hts inX5_readDigits_X5 hown hK hP 1 (eC_1 a cy I_5 A T) rfl 3 (by decide) (hts _ mX5_readDigits_2) (fun _ h9 => h9) rfl dX5_readDigits_92 ?_
    refine lv_iconst (v := 1) hx hb dX5_readDigits_95 (by decide) ?_
    refine lv_iadd hx hb dX5_readDigits_96 ?_
    refine lv_icmp_le (tgt := 104) hx hb dX5_readDigits_97 (by decide) (fun c4 => ?_) (fun c4 => ?_)
    · replace h := ite_t h c4
      refine lv_iconst (v := 0) hx hb dX5_readDigits_104 (by decide) ?_
      refine lv_istore_n (lv' := [(1, .int 0), (0, .ref (a 1))]) hx hb dX5_readDigits_105 rfl hl (by decide) rfl (fun ls hl => ?_)
      refine lv_aload_n hx hb dX5_readDigits_106 rfl (lv_at hl 1 rfl) ?_
      refine lv_iload_n hx hb dX5_readDigits_107 rfl (lv_at hl 0 rfl) ?_
      refine lv_if_eq (tgt := 116) hx hb dX5_readDigits_108 (by decide) (fun _ => ?_) (fun c5 => absurd (by decide) c5)
      refine lv_bipush (v := (-2)) hx hb dX5_readDigits_116 (by decide) ?_
      refine g_put (D := (dC, dI)) (ci := 5) (v := .int (-2)) (ty := .int) (C := RX5) (T := TX5) (N := 8) hx hb hts inX5_readDigits_X5 tyX5 tyX5_ok nmX5 hown hK hP hD hS 1 (eC_1 a cy I_5 A T) rfl 4 (by decide) (hts _ mX5_readDigits_3) (fun _ h9 => h9) rfl (by decide +kernel) rfl rfl (Nat.le_of_ble_eq_true rfl) dX5_readDigits_118 (pC_1_4 a cy I_5 A T (-2)) (fun H locs hP hD hS => ?_)
      cases h
      exact g_vret hx hb hr hK hP hD hS hQ dX5_readDigits_121
    · replace h := ite_f h c4
      refine lv_iconst (v := 1) hx hb dX5_readDigits_100 (by decide) ?_
      refine lv_goto (tgt := 105) hx hb dX5_readDigits_101 (by decide) ?_
      refine lv_istore_n (lv' := [(1, .int 1), (0, .ref (a 1))]) hx hb dX5_readDigits_105 rfl hl (by decide) rfl (fun ls hl => ?_)
      refine lv_aload_n hx hb dX5_readDigits_106 rfl (lv_at hl 1 rfl) ?_
      refine lv_iload_n hx hb dX5_readDigits_107 rfl (lv_at hl 0 rfl) ?_
      refine lv_if_eq (tgt := 116) hx hb dX5_readDigits_108 (by decide) (fun c6 => absurd c6 (by decide)) (fun _ => ?_)
      refine lv_bipush (v := (-3)) hx hb dX5_readDigits_111 (by decide) ?_
      refine lv_goto (tgt := 118) hx hb dX5_readDigits_113 (by decide) ?_
      refine g_put (D := (dC, dI)) (ci := 5) (v := .int (-3)) (ty := .int) (C := RX5) (T := TX5) (N := 8) hx hb hts inX5_readDigits_X5 tyX5 tyX5_ok nmX5 hown hK hP hD hS 1 (eC_1 a cy I_5 A T) rfl 4 (by decide) (hts _ mX5_readDigits_3) (fun _ h9 => h9) rfl (by decide +kernel) rfl rfl (Nat.le_of_ble_eq_true rfl) dX5_readDigits_118 (pC_1_4 a cy I_5 A T (-3)) (fun H locs hP hD hS => ?_)
      cases h
      exact g_vret hx hb hr hK hP hD hS hQ dX5_readDigits_121
theorem inX5_readToken_X5 : ∀ w ∈ u_ws RX5 TX5 8, w ∈ wsX5_readToken := by decide +kernel
theorem mX5_readToken_0 : Cond.fieldLink RX5 24 "WarmBottles$Text" "place" "I" ∈ wsX5_readToken := List.mem_of_getElem? (i := 1) rfl
theorem mX5_readToken_1 : Cond.fieldLink RX5 44 "WarmBottles$Text" "start" "I" ∈ wsX5_readToken := List.mem_of_getElem? (i := 4) rfl
theorem mX5_readToken_2 : Cond.fieldLink RX5 15 "WarmBottles$Text" "length" "I" ∈ wsX5_readToken := List.mem_of_getElem? (i := 2) rfl
theorem mX5_readToken_3 : Cond.fieldLink RX5 9 "WarmBottles$Text" "letters" "[C" ∈ wsX5_readToken := List.mem_of_getElem? (i := 3) rfl
theorem mX5_readToken_4 : Cond.fieldLink RX5 37 "WarmBottles$Text" "token" "I" ∈ wsX5_readToken := List.mem_of_getElem? (i := 5) rfl
def rm_X5_readToken_C : Room := { frames := 7, cells := 0, slots := 0, locals := 330 }
def f_X5_readToken_C_L0 (N : Nat) (k_0 : (Nat → Int32) → Option ((Nat → Int32))) (A : (Nat → Nat → Int32)) : Nat → (Nat → Int32) → Option ((Nat → Int32))
  | 0, _ => none
  | n_0 + 1, I_0 => (if (I_0 0) ≤ (I_0 1) then (k_0 I_0) else (if (I_0 1) < 0 ∨ 120 ≤ ((I_0 1)).toNatClampNeg then none else (if ((A 0) ((I_0 1)).toNatClampNeg) = 32 then (f_X5_readToken_C_L0 N k_0 A n_0 (upd I_0 1 ((I_0 1) + 1))) else (k_0 I_0))))
def f_X5_readToken_C (N : Nat) (I : Nat → Int32) (A : Nat → Nat → Int32)  : Option ((Nat → Int32)) := (f_X5_readToken_C_L0 N (fun (I_0 : (Nat → Int32)) => (if (I_0 1) < (I_0 0) then (if (I_0 1) < 0 ∨ 120 ≤ ((I_0 1)).toNatClampNeg then none else (Option.bind (f_X5_isDigit_C N (upd I_0 2 (I_0 1)) A ((A 0) ((I_0 1)).toNatClampNeg)) (fun r3 => (if r3 = 0 then some (upd (upd (upd I_0 2 (I_0 1)) 3 ((A 0) ((I_0 1)).toNatClampNeg)) 1 ((I_0 1) + 1)) else (Option.bind (f_X5_readDigits_C N (upd I_0 2 (I_0 1)) A) (fun r5 => some r5)))))) else some (upd (upd I_0 2 (I_0 1)) 3 (-1)))) A N I)
set_option maxHeartbeats 4000000 in
set_option maxRecDepth 100000 in
theorem c_X5_readToken_C (l : Launch) (dC : Nat → ClassId) (dI : Nat → Nat → Nat) (a : Nat → Nat) (cy : Nat → ClassId) (N : Nat) (I : Nat → Int32) (A : Nat → Nat → Int32) (T : Int64)  (res : (Nat → Int32)) (h : f_X5_readToken_C N I A  = some res) (sz : Nat) : Met l yX5_readToken wsX5_readToken rm_X5_readToken_C (g_Pre (dC, dI) cy [.ref (a 1)] (wC a cy I A T) sz) (g_Qv (dC, dI) cy (wC a cy I A T) (wC a cy res A T) sz) 0 0 (va_A (wC a cy I A T) sz) := by
  unfold f_X5_readToken_C at h
  refine g_entry _ _ _ _ _ _ (cc := cX5_readToken) (maxL := 1) (ret := none) (by decide) rfl (Nat.le_of_ble_eq_true rfl) ?_
  intro p e s m args below meth c ls hx hb hml hown hts hr hlocks hA hK hP hD hS hl Q hQ
  have hl : lv_has ls 1 [(0, .ref (a 1))] := hl
  have hown : s.vm.findClass RX5 = some m.cls := hown
  have lp0 : ∀  (k_0 : (Nat → Int32) → Option ((Nat → Int32))), (∀ (I_0 : (Nat → Int32)), k_0 I_0 = some res → g_At (dC, dI) p l e (headSpec wsX5_readToken rm_X5_readToken_C).room s m args below meth c Q (wC a cy I A T) sz 1 (wC a cy I_0 A T) [(0, .ref (a 1))] 38 []) → ∀ (n_0 : Nat) (I_0 : (Nat → Int32)), f_X5_readToken_C_L0 N k_0 A n_0 I_0 = some res → g_At (dC, dI) p l e (headSpec wsX5_readToken rm_X5_readToken_C).room s m args below meth c Q (wC a cy I A T) sz 1 (wC a cy I_0 A T) [(0, .ref (a 1))] 0 [] := by
    intro  k_0 hk_0 n_0
    induction n_0 with
    | zero =>
      intro I_0 h
      exact absurd h (by rw [f_X5_readToken_C_L0]; exact fun q => by cases q)
    | succ n_0 ih0 =>
      intro I_0 h H locs hP hD hS ls hl
      rw [f_X5_readToken_C_L0] at h
      refine lv_aload_n hx hb dX5_readToken_0 rfl (lv_at hl 0 rfl) ?_
      refine va_get (D := (dC, dI)) (ci := 5) (v := .int (I_0 1)) (C := RX5) (T := TX5) (N := 8) hx hb hts inX5_readToken_X5 hown hK hP 1 (eC_1 a cy I_0 A T) rfl 2 (by decide) (hts _ mX5_readToken_0) (fun _ h9 => h9) rfl dX5_readToken_1 ?_
      refine lv_aload_n hx hb dX5_readToken_4 rfl (lv_at hl 0 rfl) ?_
      refine va_get (D := (dC, dI)) (ci := 5) (v := .int (I_0 0)) (C := RX5) (T := TX5) (N := 8) hx hb hts inX5_readToken_X5 hown hK hP 1 (eC_1 a cy I_0 A T) rfl 1 (by decide) (hts _ mX5_readToken_2) (fun _ h9 => h9) rfl dX5_readToken_5 ?_
      refine lv_icmp_ge (tgt := 38) hx hb dX5_readToken_8 (by decide) (fun c6 => ?_) (fun c6 => ?_)
      · replace h := ite_t h c6
        exact hk_0 _ h _ _ hP hD hS _ (lv_sub hl [0] rfl)
      · replace h := ite_f h c6
        refine lv_aload_n hx hb dX5_readToken_11 rfl (lv_at hl 0 rfl) ?_
        refine va_get (D := (dC, dI)) (ci := 5) (v := .ref (a 2)) (C := RX5) (T := TX5) (N := 8) hx hb hts inX5_readToken_X5 hown hK hP 1 (eC_1 a cy I_0 A T) rfl 0 (by decide) (hts _ mX5_readToken_3) (fun _ h9 => h9) rfl dX5_readToken_12 ?_
        refine lv_aload_n hx hb dX5_readToken_15 rfl (lv_at hl 0 rfl) ?_
        refine va_get (D := (dC, dI)) (ci := 5) (v := .int (I_0 1)) (C := RX5) (T := TX5) (N := 8) hx hb hts inX5_readToken_X5 hown hK hP 1 (eC_1 a cy I_0 A T) rfl 2 (by decide) (hts _ mX5_readToken_0) (fun _ h9 => h9) rfl dX5_readToken_16 ?_
        obtain ⟨i7, h⟩ := inb_some h
        refine g_cald (f := (A 0)) (j := ((I_0 1)).toNatClampNeg) hx hb hK hP 2 (eC_2 a cy I_0 A T) i7 rfl dX5_readToken_19 ?_
        refine lv_bipush (v := 32) hx hb dX5_readToken_20 (by decide) ?_
        refine lv_icmp_ne (tgt := 38) hx hb dX5_readToken_22 (by decide) (fun c8 => ?_) (fun c8 => ?_)
        · replace h := ite_f h c8
          exact hk_0 _ h _ _ hP hD hS _ (lv_sub hl [0] rfl)
        · replace h := ite_t h c8
          refine lv_aload_n hx hb dX5_readToken_25 rfl (lv_at hl 0 rfl) ?_
          refine lv_dup hx hb dX5_readToken_26 rfl ?_
          refine va_get (D := (dC, dI)) (ci := 5) (v := .int (I_0 1)) (C := RX5) (T := TX5) (N := 8) hx hb hts inX5_readToken_X5 hown hK hP 1 (eC_1 a cy I_0 A T) rfl 2 (by decide) (hts _ mX5_readToken_0) (fun _ h9 => h9) rfl dX5_readToken_27 ?_
          refine lv_iconst (v := 1) hx hb dX5_readToken_30 (by decide) ?_
          refine lv_iadd hx hb dX5_readToken_31 ?_
          refine g_put (D := (dC, dI)) (ci := 5) (v := .int ((I_0 1) + 1)) (ty := .int) (C := RX5) (T := TX5) (N := 8) hx hb hts inX5_readToken_X5 tyX5 tyX5_ok nmX5 hown hK hP hD hS 1 (eC_1 a cy I_0 A T) rfl 2 (by decide) (hts _ mX5_readToken_0) (fun _ h9 => h9) rfl (by decide +kernel) rfl rfl (Nat.le_of_ble_eq_true rfl) dX5_readToken_32 (pC_1_2 a cy I_0 A T ((I_0 1) + 1)) (fun H locs hP hD hS => ?_)
          refine lv_goto (tgt := 0) hx hb dX5_readToken_35 (by decide) ?_
          exact ih0 _ h _ _ hP hD hS _ (lv_sub hl [0] rfl)
  refine lp0  _ ?_ N _ h _ _ hP hD hS _ (lv_sub hl [0] rfl)
  intro I_0 h H locs hP hD hS ls hl
  refine lv_aload_n hx hb dX5_readToken_38 rfl (lv_at hl 0 rfl) ?_
  refine lv_aload_n hx hb dX5_readToken_39 rfl (lv_at hl 0 rfl) ?_
  refine va_get (D := (dC, dI)) (ci := 5) (v := .int (I_0 1)) (C := RX5) (T := TX5) (N := 8) hx hb hts inX5_readToken_X5 hown hK hP 1 (eC_1 a cy I_0 A T) rfl 2 (by decide) (hts _ mX5_readToken_0) (fun _ h9 => h9) rfl dX5_readToken_40 ?_
  refine g_put (D := (dC, dI)) (ci := 5) (v := .int (I_0 1)) (ty := .int) (C := RX5) (T := TX5) (N := 8) hx hb hts inX5_readToken_X5 tyX5 tyX5_ok nmX5 hown hK hP hD hS 1 (eC_1 a cy I_0 A T) rfl 3 (by decide) (hts _ mX5_readToken_1) (fun _ h9 => h9) rfl (by decide +kernel) rfl rfl (Nat.le_of_ble_eq_true rfl) dX5_readToken_43 (pC_1_3 a cy I_0 A T (I_0 1)) (fun H locs hP hD hS => ?_)
  refine lv_aload_n hx hb dX5_readToken_46 rfl (lv_at hl 0 rfl) ?_
  refine va_get (D := (dC, dI)) (ci := 5) (v := .int (I_0 1)) (C := RX5) (T := TX5) (N := 8) hx hb hts inX5_readToken_X5 hown hK hP 1 (eC_1 a cy (upd I_0 2 (I_0 1)) A T) rfl 2 (by decide) (hts _ mX5_readToken_0) (fun _ h9 => h9) rfl dX5_readToken_47 ?_
  refine lv_aload_n hx hb dX5_readToken_50 rfl (lv_at hl 0 rfl) ?_
  refine va_get (D := (dC, dI)) (ci := 5) (v := .int (I_0 0)) (C := RX5) (T := TX5) (N := 8) hx hb hts inX5_readToken_X5 hown hK hP 1 (eC_1 a cy (upd I_0 2 (I_0 1)) A T) rfl 1 (by decide) (hts _ mX5_readToken_2) (fun _ h9 => h9) rfl dX5_readToken_51 ?_
  refine lv_icmp_lt (tgt := 65) hx hb dX5_readToken_54 (by decide) (fun c1 => ?_) (fun c1 => ?_)
  · replace h := ite_t h c1
    refine lv_aload_n hx hb dX5_readToken_65 rfl (lv_at hl 0 rfl) ?_
    refine va_get (D := (dC, dI)) (ci := 5) (v := .ref (a 2)) (C := RX5) (T := TX5) (N := 8) hx hb hts inX5_readToken_X5 hown hK hP 1 (eC_1 a cy (upd I_0 2 (I_0 1)) A T) rfl 0 (by decide) (hts _ mX5_readToken_3) (fun _ h9 => h9) rfl dX5_readToken_66 ?_
    refine lv_aload_n hx hb dX5_readToken_69 rfl (lv_at hl 0 rfl) ?_
    refine va_get (D := (dC, dI)) (ci := 5) (v := .int (I_0 1)) (C := RX5) (T := TX5) (N := 8) hx hb hts inX5_readToken_X5 hown hK hP 1 (eC_1 a cy (upd I_0 2 (I_0 1)) A T) rfl 2 (by decide) (hts _ mX5_readToken_0) (fun _ h9 => h9) rfl dX5_readToken_70 ?_
    obtain ⟨i2, h⟩ := inb_some h
    refine g_cald (f := (A 0)) (j := ((I_0 1)).toNatClampNeg) hx hb hK hP 2 (eC_2 a cy (upd I_0 2 (I_0 1)) A T) i2 rfl dX5_readToken_73 ?_
    obtain ⟨r3, hr3, h⟩ := bnd_some h
    refine g_callSi (As := [.int ((A 0) ((I_0 1)).toNatClampNeg)]) (rest := []) hx hb hml hown hts (c_X5_isDigit_C l dC dI a cy N (upd I_0 2 (I_0 1)) A T ((A 0) ((I_0 1)).toNatClampNeg) r3 hr3) (va_cwS 1 hts gX5_readToken_X5_isDigit rfl rfl rfl (by decide +kernel) ⟨Nat.le_of_ble_eq_true rfl, Nat.le_of_ble_eq_true rfl⟩) hK hP hD hS hA rfl hl.1 rfl (Nat.le_of_ble_eq_true rfl) dX5_readToken_74 (fun H locs hP hD hS => ?_)
    refine lv_if_eq (tgt := 87) hx hb dX5_readToken_77 (by decide) (fun c4 => ?_) (fun c4 => ?_)
    · replace h := ite_t h c4
      refine lv_aload_n hx hb dX5_readToken_87 rfl (lv_at hl 0 rfl) ?_
      refine lv_aload_n hx hb dX5_readToken_88 rfl (lv_at hl 0 rfl) ?_
      refine va_get (D := (dC, dI)) (ci := 5) (v := .ref (a 2)) (C := RX5) (T := TX5) (N := 8) hx hb hts inX5_readToken_X5 hown hK hP 1 (eC_1 a cy (upd I_0 2 (I_0 1)) A T) rfl 0 (by decide) (hts _ mX5_readToken_3) (fun _ h9 => h9) rfl dX5_readToken_89 ?_
      refine lv_aload_n hx hb dX5_readToken_92 rfl (lv_at hl 0 rfl) ?_
      refine va_get (D := (dC, dI)) (ci := 5) (v := .int (I_0 1)) (C := RX5) (T := TX5) (N := 8) hx hb hts inX5_readToken_X5 hown hK hP 1 (eC_1 a cy (upd I_0 2 (I_0 1)) A T) rfl 2 (by decide) (hts _ mX5_readToken_0) (fun _ h9 => h9) rfl dX5_readToken_93 ?_
      refine g_cald (f := (A 0)) (j := ((I_0 1)).toNatClampNeg) hx hb hK hP 2 (eC_2 a cy (upd I_0 2 (I_0 1)) A T) i2 rfl dX5_readToken_96 ?_
      refine g_put (D := (dC, dI)) (ci := 5) (v := .int ((A 0) ((I_0 1)).toNatClampNeg)) (ty := .int) (C := RX5) (T := TX5) (N := 8) hx hb hts inX5_readToken_X5 tyX5 tyX5_ok nmX5 hown hK hP hD hS 1 (eC_1 a cy (upd I_0 2 (I_0 1)) A T) rfl 4 (by decide) (hts _ mX5_readToken_4) (fun _ h9 => h9) rfl (by decide +kernel) rfl rfl (Nat.le_of_ble_eq_true rfl) dX5_readToken_97 (pC_1_4 a cy (upd I_0 2 (I_0 1)) A T ((A 0) ((I_0 1)).toNatClampNeg)) (fun H locs hP hD hS => ?_)
      refine lv_aload_n hx hb dX5_readToken_100 rfl (lv_at hl 0 rfl) ?_
      refine lv_dup hx hb dX5_readToken_101 rfl ?_
      refine va_get (D := (dC, dI)) (ci := 5) (v := .int (I_0 1)) (C := RX5) (T := TX5) (N := 8) hx hb hts inX5_readToken_X5 hown hK hP 1 (eC_1 a cy (upd (upd I_0 2 (I_0 1)) 3 ((A 0) ((I_0 1)).toNatClampNeg)) A T) rfl 2 (by decide) (hts _ mX5_readToken_0) (fun _ h9 => h9) rfl dX5_readToken_102 ?_
      refine lv_iconst (v := 1) hx hb dX5_readToken_105 (by decide) ?_
      refine lv_iadd hx hb dX5_readToken_106 ?_
      refine g_put (D := (dC, dI)) (ci := 5) (v := .int ((I_0 1) + 1)) (ty := .int) (C := RX5) (T := TX5) (N := 8) hx hb hts inX5_readToken_X5 tyX5 tyX5_ok nmX5 hown hK hP hD hS 1 (eC_1 a cy (upd (upd I_0 2 (I_0 1)) 3 ((A 0) ((I_0 1)).toNatClampNeg)) A T) rfl 2 (by decide) (hts _ mX5_readToken_0) (fun _ h9 => h9) rfl (by decide +kernel) rfl rfl (Nat.le_of_ble_eq_true rfl) dX5_readToken_107 (pC_1_2 a cy (upd (upd I_0 2 (I_0 1)) 3 ((A 0) ((I_0 1)).toNatClampNeg)) A T ((I_0 1) + 1)) (fun H locs hP hD hS => ?_)
      cases h
      exact g_vret hx hb hr hK hP hD hS hQ dX5_readToken_110
    · replace h := ite_f h c4
      refine lv_aload_n hx hb dX5_readToken_80 rfl (lv_at hl 0 rfl) ?_
      obtain ⟨r5, hr5, h⟩ := bnd_some h
      refine g_callVv (As := []) (rest := []) (ci := 5) (q0 := 1) hx hb hml hown hts (c_X5_readDigits_C l dC dI a cy N (upd I_0 2 (I_0 1)) A T r5 hr5) (cwV 0 hts gX5_readToken_X5_readDigits rfl rfl rfl (by decide +kernel) ⟨Nat.le_of_ble_eq_true rfl, Nat.le_of_ble_eq_true rfl⟩) hK hP hD hS hA rfl (eC_1 a cy (upd I_0 2 (I_0 1)) A T) rfl rfl hl.1 rfl (Nat.le_of_ble_eq_true rfl) dX5_readToken_81 (fun H locs hP hD hS => ?_)
      refine lv_goto (tgt := 110) hx hb dX5_readToken_84 (by decide) ?_
      cases h
      exact g_vret hx hb hr hK hP hD hS hQ dX5_readToken_110
  · replace h := ite_f h c1
    refine lv_aload_n hx hb dX5_readToken_57 rfl (lv_at hl 0 rfl) ?_
    refine lv_iconst (v := (-1)) hx hb dX5_readToken_58 (by decide) ?_
    refine g_put (D := (dC, dI)) (ci := 5) (v := .int (-1)) (ty := .int) (C := RX5) (T := TX5) (N := 8) hx hb hts inX5_readToken_X5 tyX5 tyX5_ok nmX5 hown hK hP hD hS 1 (eC_1 a cy (upd I_0 2 (I_0 1)) A T) rfl 4 (by decide) (hts _ mX5_readToken_4) (fun _ h9 => h9) rfl (by decide +kernel) rfl rfl (Nat.le_of_ble_eq_true rfl) dX5_readToken_59 (pC_1_4 a cy (upd I_0 2 (I_0 1)) A T (-1)) (fun H locs hP hD hS => ?_)
    refine lv_goto (tgt := 110) hx hb dX5_readToken_62 (by decide) ?_
    cases h
    exact g_vret hx hb hr hK hP hD hS hQ dX5_readToken_110
theorem inX5_readNumber_X5 : ∀ w ∈ u_ws RX5 TX5 8, w ∈ wsX5_readNumber := by decide +kernel
theorem mX5_readNumber_0 : Cond.fieldLink RX5 37 "WarmBottles$Text" "token" "I" ∈ wsX5_readNumber := List.mem_of_getElem? (i := 1) rfl
theorem mX5_readNumber_1 : Cond.fieldLink RX5 71 "WarmBottles$Text" "value" "I" ∈ wsX5_readNumber := List.mem_of_getElem? (i := 2) rfl
def rm_X5_readNumber_C : Room := { frames := 9, cells := 0, slots := 0, locals := 390 }
def f_X5_readNumber_C (N : Nat) (I : Nat → Int32) (A : Nat → Nat → Int32) (p1 : Int32) (p2 : Int32) : Option (Int32 × (Nat → Int32)) := (Option.bind (f_X5_readToken_C N I A) (fun r1 => (if (r1 3) = (-2) then (if (r1 4) < p1 then some (0, r1) else (if p2 < (r1 4) then some (0, r1) else some (1, r1))) else some (0, r1))))
set_option maxHeartbeats 4000000 in
set_option maxRecDepth 100000 in
theorem c_X5_readNumber_C (l : Launch) (dC : Nat → ClassId) (dI : Nat → Nat → Nat) (a : Nat → Nat) (cy : Nat → ClassId) (N : Nat) (I : Nat → Int32) (A : Nat → Nat → Int32) (T : Int64) (p1 : Int32) (p2 : Int32) (res : Int32 × (Nat → Int32)) (h : f_X5_readNumber_C N I A p1 p2 = some res) (sz : Nat) : Met l yX5_readNumber wsX5_readNumber rm_X5_readNumber_C (g_Pre (dC, dI) cy [.ref (a 1), .int p1, .int p2] (wC a cy I A T) sz) (g_Qi (dC, dI) cy res.1 (wC a cy I A T) (wC a cy res.2 A T) sz) 0 0 (va_A (wC a cy I A T) sz) := by
  unfold f_X5_readNumber_C at h
  refine g_entry _ _ _ _ _ _ (cc := cX5_readNumber) (maxL := 3) (ret := (some .boolean)) (by decide) rfl (Nat.le_of_ble_eq_true rfl) ?_
  intro p e s m args below meth c ls hx hb hml hown hts hr hlocks hA hK hP hD hS hl Q hQ
  have hl : lv_has ls 3 [(0, .ref (a 1)), (1, .int p1), (2, .int p2)] := hl
  have hown : s.vm.findClass RX5 = some m.cls := hown
  refine lv_aload_n hx hb dX5_readNumber_0 rfl (lv_at hl 0 rfl) ?_
  obtain ⟨r1, hr1, h⟩ := bnd_some h
  refine g_callVv (As := []) (rest := []) (ci := 5) (q0 := 1) hx hb hml hown hts (c_X5_readToken_C l dC dI a cy N I A T r1 hr1) (cwV 0 hts gX5_readNumber_X5_readToken rfl rfl rfl (by decide +kernel) ⟨Nat.le_of_ble_eq_true rfl, Nat.le_of_ble_eq_true rfl⟩) hK hP hD hS hA rfl (eC_1 a cy I A T) rfl rfl hl.1 rfl (Nat.le_of_ble_eq_true rfl) dX5_readNumber_1 (fun H locs hP hD hS => ?_)
  refine lv_aload_n hx hb dX5_readNumber_4 rfl (lv_at hl 0 rfl) ?_
  refine va_get (D := (dC, dI)) (ci := 5) (v := .int (r1 3)) (C := RX5) (T := TX5) (N := 8) hx hb hts inX5_readNumber_X5 hown hK hP 1 (eC_1 a cy r1 A T) rfl 4 (by decide) (hts _ mX5_readNumber_0) (fun _ h9 => h9) rfl dX5_readNumber_5 ?_
  refine lv_bipush (v := (-2)) hx hb dX5_readNumber_8 (by decide) ?_
  refine lv_icmp_ne (tgt := 33) hx hb dX5_readNumber_10 (by decide) (fun c2 => ?_) (fun c2 => ?_)
  · replace h := ite_f h c2
    refine lv_iconst (v := 0) hx hb dX5_readNumber_33 (by decide) ?_
    cases h
    exact g_zret hx hb hr (by decide) hK hP hD hS hQ dX5_readNumber_34
  · replace h := ite_t h c2
    refine lv_aload_n hx hb dX5_readNumber_13 rfl (lv_at hl 0 rfl) ?_
    refine va_get (D := (dC, dI)) (ci := 5) (v := .int (r1 4)) (C := RX5) (T := TX5) (N := 8) hx hb hts inX5_readNumber_X5 hown hK hP 1 (eC_1 a cy r1 A T) rfl 5 (by decide) (hts _ mX5_readNumber_1) (fun _ h9 => h9) rfl dX5_readNumber_14 ?_
    refine lv_iload_n hx hb dX5_readNumber_17 rfl (lv_at hl 1 rfl) ?_
    refine lv_icmp_lt (tgt := 33) hx hb dX5_readNumber_18 (by decide) (fun c3 => ?_) (fun c3 => ?_)
    · replace h := ite_t h c3
      refine lv_iconst (v := 0) hx hb dX5_readNumber_33 (by decide) ?_
      cases h
      exact g_zret hx hb hr (by decide) hK hP hD hS hQ dX5_readNumber_34
    · replace h := ite_f h c3
      refine lv_aload_n hx hb dX5_readNumber_21 rfl (lv_at hl 0 rfl) ?_
      refine va_get (D := (dC, dI)) (ci := 5) (v := .int (r1 4)) (C := RX5) (T := TX5) (N := 8) hx hb hts inX5_readNumber_X5 hown hK hP 1 (eC_1 a cy r1 A T) rfl 5 (by decide) (hts _ mX5_readNumber_1) (fun _ h9 => h9) rfl dX5_readNumber_22 ?_
      refine lv_iload_n hx hb dX5_readNumber_25 rfl (lv_at hl 2 rfl) ?_
      refine lv_icmp_gt (tgt := 33) hx hb dX5_readNumber_26 (by decide) (fun c4 => ?_) (fun c4 => ?_)
      · replace h := ite_t h c4
        refine lv_iconst (v := 0) hx hb dX5_readNumber_33 (by decide) ?_
        cases h
        exact g_zret hx hb hr (by decide) hK hP hD hS hQ dX5_readNumber_34
      · replace h := ite_f h c4
        refine lv_iconst (v := 1) hx hb dX5_readNumber_29 (by decide) ?_
        refine lv_goto (tgt := 34) hx hb dX5_readNumber_30 (by decide) ?_
        cases h
        exact g_zret hx hb hr (by decide) hK hP hD hS hQ dX5_readNumber_34
end
