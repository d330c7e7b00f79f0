-- ===== PART A: goes FIRST, ahead of the names: the tables' words, and 'selects' of the private methods out of them =====
/-- a private method of a class that the tables say can be made, by its rows of tables_1 -/
def lw_okq (q : MethodName × Nat) : Prop := (q.1.cls ≠ "java/lang/invoke/MethodHandle" ∧ q.1.cls ≠ "java/lang/invoke/VarHandle") ∧ Cond.instantiable q.1.cls q.2 ∈ tables_1 ∧ Cond.privateMethod q.1 ∈ tables_1 ∧ Cond.instanceMethod q.1 ∈ tables_1
theorem lw_p0 : lw_okq (⟨"DonorParts$Past", "nextPlace", "()LDonorParts$Cafe;"⟩, 3) := ⟨⟨by decide +kernel, by decide +kernel⟩, List.mem_of_getElem? (i := 153) (by decide +kernel), List.mem_of_getElem? (i := 236) (by decide +kernel), List.mem_of_getElem? (i := 237) (by decide +kernel)⟩
theorem lw_p1 : lw_okq (⟨"DonorParts", "kept", "(I)I"⟩, 5) := ⟨⟨by decide +kernel, by decide +kernel⟩, List.mem_of_getElem? (i := 11) (by decide +kernel), List.mem_of_getElem? (i := 279) (by decide +kernel), List.mem_of_getElem? (i := 280) (by decide +kernel)⟩
theorem lw_p2 : lw_okq (⟨"DonorParts$Cafe", "strip", "(LDonorParts$Thing;)I"⟩, 6) := ⟨⟨by decide +kernel, by decide +kernel⟩, List.mem_of_getElem? (i := 19) (by decide +kernel), List.mem_of_getElem? (i := 321) (by decide +kernel), List.mem_of_getElem? (i := 322) (by decide +kernel)⟩
theorem lw_p3 : lw_okq (⟨"DonorParts$Cafe", "hasThingHere", "()Z"⟩, 6) := ⟨⟨by decide +kernel, by decide +kernel⟩, List.mem_of_getElem? (i := 19) (by decide +kernel), List.mem_of_getElem? (i := 348) (by decide +kernel), List.mem_of_getElem? (i := 349) (by decide +kernel)⟩
theorem lw_p4 : lw_okq (⟨"DonorParts$Cafe", "takeThing", "(I)V"⟩, 6) := ⟨⟨by decide +kernel, by decide +kernel⟩, List.mem_of_getElem? (i := 19) (by decide +kernel), List.mem_of_getElem? (i := 360) (by decide +kernel), List.mem_of_getElem? (i := 361) (by decide +kernel)⟩
theorem lw_p5 : lw_okq (⟨"DonorParts$Cafe", "workOf", "(I)I"⟩, 6) := ⟨⟨by decide +kernel, by decide +kernel⟩, List.mem_of_getElem? (i := 19) (by decide +kernel), List.mem_of_getElem? (i := 368) (by decide +kernel), List.mem_of_getElem? (i := 369) (by decide +kernel)⟩
theorem lw_p6 : lw_okq (⟨"DonorParts$Cafe", "exchangeLowest", "(LDonorParts$Thing;)Z"⟩, 6) := ⟨⟨by decide +kernel, by decide +kernel⟩, List.mem_of_getElem? (i := 19) (by decide +kernel), List.mem_of_getElem? (i := 372) (by decide +kernel), List.mem_of_getElem? (i := 373) (by decide +kernel)⟩
theorem lw_p7 : lw_okq (⟨"DonorParts$Cafe", "losePatience", "()V"⟩, 6) := ⟨⟨by decide +kernel, by decide +kernel⟩, List.mem_of_getElem? (i := 19) (by decide +kernel), List.mem_of_getElem? (i := 384) (by decide +kernel), List.mem_of_getElem? (i := 385) (by decide +kernel)⟩
theorem lw_p8 : lw_okq (⟨"DonorParts", "repairedWith", "(III)I"⟩, 5) := ⟨⟨by decide +kernel, by decide +kernel⟩, List.mem_of_getElem? (i := 11) (by decide +kernel), List.mem_of_getElem? (i := 444) (by decide +kernel), List.mem_of_getElem? (i := 445) (by decide +kernel)⟩
theorem lw_p9 : lw_okq (⟨"DonorParts$Pad", "sign", "()I"⟩, 8) := ⟨⟨by decide +kernel, by decide +kernel⟩, List.mem_of_getElem? (i := 173) (by decide +kernel), List.mem_of_getElem? (i := 481) (by decide +kernel), List.mem_of_getElem? (i := 482) (by decide +kernel)⟩
theorem lw_p10 : lw_okq (⟨"DonorParts$Pad", "readThing", "()Z"⟩, 8) := ⟨⟨by decide +kernel, by decide +kernel⟩, List.mem_of_getElem? (i := 173) (by decide +kernel), List.mem_of_getElem? (i := 489) (by decide +kernel), List.mem_of_getElem? (i := 490) (by decide +kernel)⟩
theorem lw_p11 : lw_okq (⟨"DonorParts$Pad", "readDigit", "(I)Z"⟩, 8) := ⟨⟨by decide +kernel, by decide +kernel⟩, List.mem_of_getElem? (i := 173) (by decide +kernel), List.mem_of_getElem? (i := 493) (by decide +kernel), List.mem_of_getElem? (i := 494) (by decide +kernel)⟩
theorem lw_p12 : lw_okq (⟨"DonorParts$Pad", "digitAtMost", "(I)I"⟩, 8) := ⟨⟨by decide +kernel, by decide +kernel⟩, List.mem_of_getElem? (i := 173) (by decide +kernel), List.mem_of_getElem? (i := 497) (by decide +kernel), List.mem_of_getElem? (i := 498) (by decide +kernel)⟩
theorem lw_p13 : lw_okq (⟨"DonorParts$Pad", "readSet", "(I)Z"⟩, 8) := ⟨⟨by decide +kernel, by decide +kernel⟩, List.mem_of_getElem? (i := 173) (by decide +kernel), List.mem_of_getElem? (i := 501) (by decide +kernel), List.mem_of_getElem? (i := 502) (by decide +kernel)⟩
theorem lw_p14 : lw_okq (⟨"DonorParts$Pad", "readNumber", "()Z"⟩, 8) := ⟨⟨by decide +kernel, by decide +kernel⟩, List.mem_of_getElem? (i := 173) (by decide +kernel), List.mem_of_getElem? (i := 505) (by decide +kernel), List.mem_of_getElem? (i := 506) (by decide +kernel)⟩
theorem lw_p15 : lw_okq (⟨"DonorParts$Pad", "readLast", "(I)Z"⟩, 8) := ⟨⟨by decide +kernel, by decide +kernel⟩, List.mem_of_getElem? (i := 173) (by decide +kernel), List.mem_of_getElem? (i := 509) (by decide +kernel), List.mem_of_getElem? (i := 510) (by decide +kernel)⟩
def lw_privs_1 : List (MethodName × Nat) := [(⟨"DonorParts$Past", "nextPlace", "()LDonorParts$Cafe;"⟩, 3), (⟨"DonorParts", "kept", "(I)I"⟩, 5), (⟨"DonorParts$Cafe", "strip", "(LDonorParts$Thing;)I"⟩, 6), (⟨"DonorParts$Cafe", "hasThingHere", "()Z"⟩, 6), (⟨"DonorParts$Cafe", "takeThing", "(I)V"⟩, 6), (⟨"DonorParts$Cafe", "workOf", "(I)I"⟩, 6), (⟨"DonorParts$Cafe", "exchangeLowest", "(LDonorParts$Thing;)Z"⟩, 6), (⟨"DonorParts$Cafe", "losePatience", "()V"⟩, 6), (⟨"DonorParts", "repairedWith", "(III)I"⟩, 5), (⟨"DonorParts$Pad", "sign", "()I"⟩, 8), (⟨"DonorParts$Pad", "readThing", "()Z"⟩, 8), (⟨"DonorParts$Pad", "readDigit", "(I)Z"⟩, 8), (⟨"DonorParts$Pad", "digitAtMost", "(I)I"⟩, 8), (⟨"DonorParts$Pad", "readSet", "(I)Z"⟩, 8), (⟨"DonorParts$Pad", "readNumber", "()Z"⟩, 8), (⟨"DonorParts$Pad", "readLast", "(I)Z"⟩, 8)]
theorem lw_r1 : ∀ q ∈ lw_privs_1, lw_okq q := List.forall_mem_cons.mpr ⟨lw_p0, List.forall_mem_cons.mpr ⟨lw_p1, List.forall_mem_cons.mpr ⟨lw_p2, List.forall_mem_cons.mpr ⟨lw_p3, List.forall_mem_cons.mpr ⟨lw_p4, List.forall_mem_cons.mpr ⟨lw_p5, List.forall_mem_cons.mpr ⟨lw_p6, List.forall_mem_cons.mpr ⟨lw_p7, List.forall_mem_cons.mpr ⟨lw_p8, List.forall_mem_cons.mpr ⟨lw_p9, List.forall_mem_cons.mpr ⟨lw_p10, List.forall_mem_cons.mpr ⟨lw_p11, List.forall_mem_cons.mpr ⟨lw_p12, List.forall_mem_cons.mpr ⟨lw_p13, List.forall_mem_cons.mpr ⟨lw_p14, List.forall_mem_cons.mpr ⟨lw_p15, fun _ h => absurd h List.not_mem_nil⟩⟩⟩⟩⟩⟩⟩⟩⟩⟩⟩⟩⟩⟩⟩⟩
theorem lw_p16 : lw_okq (⟨"DonorParts", "carryOrder", "()I"⟩, 5) := ⟨⟨by decide +kernel, by decide +kernel⟩, List.mem_of_getElem? (i := 11) (by decide +kernel), List.mem_of_getElem? (i := 523) (by decide +kernel), List.mem_of_getElem? (i := 524) (by decide +kernel)⟩
theorem lw_p17 : lw_okq (⟨"DonorPartsModel", "refusesThing", "(IIII)I"⟩, 13) := ⟨⟨by decide +kernel, by decide +kernel⟩, List.mem_of_getElem? (i := 543) (by decide +kernel), List.mem_of_getElem? (i := 595) (by decide +kernel), List.mem_of_getElem? (i := 596) (by decide +kernel)⟩
theorem lw_p18 : lw_okq (⟨"DonorPartsModel", "records", "()V"⟩, 13) := ⟨⟨by decide +kernel, by decide +kernel⟩, List.mem_of_getElem? (i := 543) (by decide +kernel), List.mem_of_getElem? (i := 605) (by decide +kernel), List.mem_of_getElem? (i := 606) (by decide +kernel)⟩
theorem lw_p19 : lw_okq (⟨"DonorPartsModel", "comes", "(IIII)I"⟩, 13) := ⟨⟨by decide +kernel, by decide +kernel⟩, List.mem_of_getElem? (i := 543) (by decide +kernel), List.mem_of_getElem? (i := 609) (by decide +kernel), List.mem_of_getElem? (i := 610) (by decide +kernel)⟩
theorem lw_p20 : lw_okq (⟨"DonorPartsModel", "lay", "(III)V"⟩, 13) := ⟨⟨by decide +kernel, by decide +kernel⟩, List.mem_of_getElem? (i := 543) (by decide +kernel), List.mem_of_getElem? (i := 613) (by decide +kernel), List.mem_of_getElem? (i := 614) (by decide +kernel)⟩
theorem lw_p21 : lw_okq (⟨"DonorPartsModel", "refusesFixer", "(II)I"⟩, 13) := ⟨⟨by decide +kernel, by decide +kernel⟩, List.mem_of_getElem? (i := 543) (by decide +kernel), List.mem_of_getElem? (i := 621) (by decide +kernel), List.mem_of_getElem? (i := 622) (by decide +kernel)⟩
theorem lw_p22 : lw_okq (⟨"DonorPartsModel", "comesFixer", "(II)I"⟩, 13) := ⟨⟨by decide +kernel, by decide +kernel⟩, List.mem_of_getElem? (i := 543) (by decide +kernel), List.mem_of_getElem? (i := 625) (by decide +kernel), List.mem_of_getElem? (i := 626) (by decide +kernel)⟩
theorem lw_p23 : lw_okq (⟨"DonorPartsModel", "isThing", "(I)Z"⟩, 13) := ⟨⟨by decide +kernel, by decide +kernel⟩, List.mem_of_getElem? (i := 543) (by decide +kernel), List.mem_of_getElem? (i := 640) (by decide +kernel), List.mem_of_getElem? (i := 641) (by decide +kernel)⟩
theorem lw_p24 : lw_okq (⟨"DonorPartsModel", "of", "(II)I"⟩, 13) := ⟨⟨by decide +kernel, by decide +kernel⟩, List.mem_of_getElem? (i := 543) (by decide +kernel), List.mem_of_getElem? (i := 644) (by decide +kernel), List.mem_of_getElem? (i := 645) (by decide +kernel)⟩
theorem lw_p25 : lw_okq (⟨"DonorPartsModel", "strips", "(I)I"⟩, 13) := ⟨⟨by decide +kernel, by decide +kernel⟩, List.mem_of_getElem? (i := 543) (by decide +kernel), List.mem_of_getElem? (i := 648) (by decide +kernel), List.mem_of_getElem? (i := 649) (by decide +kernel)⟩
theorem lw_p26 : lw_okq (⟨"DonorPartsModel", "refusesPass", "(I)I"⟩, 13) := ⟨⟨by decide +kernel, by decide +kernel⟩, List.mem_of_getElem? (i := 543) (by decide +kernel), List.mem_of_getElem? (i := 656) (by decide +kernel), List.mem_of_getElem? (i := 657) (by decide +kernel)⟩
theorem lw_p27 : lw_okq (⟨"DonorPartsModel", "minutes", "(I)I"⟩, 13) := ⟨⟨by decide +kernel, by decide +kernel⟩, List.mem_of_getElem? (i := 543) (by decide +kernel), List.mem_of_getElem? (i := 660) (by decide +kernel), List.mem_of_getElem? (i := 661) (by decide +kernel)⟩
theorem lw_p28 : lw_okq (⟨"DonorPartsModel", "withHow", "(I)I"⟩, 13) := ⟨⟨by decide +kernel, by decide +kernel⟩, List.mem_of_getElem? (i := 543) (by decide +kernel), List.mem_of_getElem? (i := 664) (by decide +kernel), List.mem_of_getElem? (i := 665) (by decide +kernel)⟩
theorem lw_p29 : lw_okq (⟨"DonorPartsModel", "minute", "()V"⟩, 13) := ⟨⟨by decide +kernel, by decide +kernel⟩, List.mem_of_getElem? (i := 543) (by decide +kernel), List.mem_of_getElem? (i := 668) (by decide +kernel), List.mem_of_getElem? (i := 669) (by decide +kernel)⟩
theorem lw_p30 : lw_okq (⟨"DonorPartsModel", "fixer0", "(II)I"⟩, 13) := ⟨⟨by decide +kernel, by decide +kernel⟩, List.mem_of_getElem? (i := 543) (by decide +kernel), List.mem_of_getElem? (i := 672) (by decide +kernel), List.mem_of_getElem? (i := 673) (by decide +kernel)⟩
theorem lw_p31 : lw_okq (⟨"DonorPartsModel", "takes", "(I)V"⟩, 13) := ⟨⟨by decide +kernel, by decide +kernel⟩, List.mem_of_getElem? (i := 543) (by decide +kernel), List.mem_of_getElem? (i := 676) (by decide +kernel), List.mem_of_getElem? (i := 677) (by decide +kernel)⟩
def lw_privs_2 : List (MethodName × Nat) := [(⟨"DonorParts", "carryOrder", "()I"⟩, 5), (⟨"DonorPartsModel", "refusesThing", "(IIII)I"⟩, 13), (⟨"DonorPartsModel", "records", "()V"⟩, 13), (⟨"DonorPartsModel", "comes", "(IIII)I"⟩, 13), (⟨"DonorPartsModel", "lay", "(III)V"⟩, 13), (⟨"DonorPartsModel", "refusesFixer", "(II)I"⟩, 13), (⟨"DonorPartsModel", "comesFixer", "(II)I"⟩, 13), (⟨"DonorPartsModel", "isThing", "(I)Z"⟩, 13), (⟨"DonorPartsModel", "of", "(II)I"⟩, 13), (⟨"DonorPartsModel", "strips", "(I)I"⟩, 13), (⟨"DonorPartsModel", "refusesPass", "(I)I"⟩, 13), (⟨"DonorPartsModel", "minutes", "(I)I"⟩, 13), (⟨"DonorPartsModel", "withHow", "(I)I"⟩, 13), (⟨"DonorPartsModel", "minute", "()V"⟩, 13), (⟨"DonorPartsModel", "fixer0", "(II)I"⟩, 13), (⟨"DonorPartsModel", "takes", "(I)V"⟩, 13)]
theorem lw_r2 : ∀ q ∈ lw_privs_2, lw_okq q := List.forall_mem_cons.mpr ⟨lw_p16, List.forall_mem_cons.mpr ⟨lw_p17, List.forall_mem_cons.mpr ⟨lw_p18, List.forall_mem_cons.mpr ⟨lw_p19, List.forall_mem_cons.mpr ⟨lw_p20, List.forall_mem_cons.mpr ⟨lw_p21, List.forall_mem_cons.mpr ⟨lw_p22, List.forall_mem_cons.mpr ⟨lw_p23, List.forall_mem_cons.mpr ⟨lw_p24, List.forall_mem_cons.mpr ⟨lw_p25, List.forall_mem_cons.mpr ⟨lw_p26, List.forall_mem_cons.mpr ⟨lw_p27, List.forall_mem_cons.mpr ⟨lw_p28, List.forall_mem_cons.mpr ⟨lw_p29, List.forall_mem_cons.mpr ⟨lw_p30, List.forall_mem_cons.mpr ⟨lw_p31, fun _ h => absurd h List.not_mem_nil⟩⟩⟩⟩⟩⟩⟩⟩⟩⟩⟩⟩⟩⟩⟩⟩
theorem lw_p32 : lw_okq (⟨"DonorPartsModel", "nextFor", "(I)I"⟩, 13) := ⟨⟨by decide +kernel, by decide +kernel⟩, List.mem_of_getElem? (i := 543) (by decide +kernel), List.mem_of_getElem? (i := 680) (by decide +kernel), List.mem_of_getElem? (i := 681) (by decide +kernel)⟩
theorem lw_p33 : lw_okq (⟨"DonorPartsModel", "works", "(I)V"⟩, 13) := ⟨⟨by decide +kernel, by decide +kernel⟩, List.mem_of_getElem? (i := 543) (by decide +kernel), List.mem_of_getElem? (i := 684) (by decide +kernel), List.mem_of_getElem? (i := 685) (by decide +kernel)⟩
theorem lw_p34 : lw_okq (⟨"DonorPartsModel", "more", "(II)V"⟩, 13) := ⟨⟨by decide +kernel, by decide +kernel⟩, List.mem_of_getElem? (i := 543) (by decide +kernel), List.mem_of_getElem? (i := 688) (by decide +kernel), List.mem_of_getElem? (i := 689) (by decide +kernel)⟩
theorem lw_p35 : lw_okq (⟨"DonorPartsModel", "exchanges", "(I)Z"⟩, 13) := ⟨⟨by decide +kernel, by decide +kernel⟩, List.mem_of_getElem? (i := 543) (by decide +kernel), List.mem_of_getElem? (i := 692) (by decide +kernel), List.mem_of_getElem? (i := 693) (by decide +kernel)⟩
theorem lw_p36 : lw_okq (⟨"DonorPartsModel", "tests", "(II)Z"⟩, 13) := ⟨⟨by decide +kernel, by decide +kernel⟩, List.mem_of_getElem? (i := 543) (by decide +kernel), List.mem_of_getElem? (i := 699) (by decide +kernel), List.mem_of_getElem? (i := 700) (by decide +kernel)⟩
theorem lw_p37 : lw_okq (⟨"DonorPartsModel", "givesUp", "(II)V"⟩, 13) := ⟨⟨by decide +kernel, by decide +kernel⟩, List.mem_of_getElem? (i := 543) (by decide +kernel), List.mem_of_getElem? (i := 703) (by decide +kernel), List.mem_of_getElem? (i := 704) (by decide +kernel)⟩
theorem lw_p38 : lw_okq (⟨"DonorPartsModel", "frees", "(I)V"⟩, 13) := ⟨⟨by decide +kernel, by decide +kernel⟩, List.mem_of_getElem? (i := 543) (by decide +kernel), List.mem_of_getElem? (i := 707) (by decide +kernel), List.mem_of_getElem? (i := 708) (by decide +kernel)⟩
theorem lw_p39 : lw_okq (⟨"DonorPartsModel", "fixerOf", "(I)I"⟩, 13) := ⟨⟨by decide +kernel, by decide +kernel⟩, List.mem_of_getElem? (i := 543) (by decide +kernel), List.mem_of_getElem? (i := 715) (by decide +kernel), List.mem_of_getElem? (i := 716) (by decide +kernel)⟩
theorem lw_p40 : lw_okq (⟨"DonorPartsModel", "placeOf", "(I)I"⟩, 13) := ⟨⟨by decide +kernel, by decide +kernel⟩, List.mem_of_getElem? (i := 543) (by decide +kernel), List.mem_of_getElem? (i := 719) (by decide +kernel), List.mem_of_getElem? (i := 720) (by decide +kernel)⟩
theorem lw_p41 : lw_okq (⟨"DonorPartsModel", "brokenOnes", "(I)I"⟩, 13) := ⟨⟨by decide +kernel, by decide +kernel⟩, List.mem_of_getElem? (i := 543) (by decide +kernel), List.mem_of_getElem? (i := 731) (by decide +kernel), List.mem_of_getElem? (i := 732) (by decide +kernel)⟩
theorem lw_p42 : lw_okq (⟨"DonorPartsModel", "putAside", "()V"⟩, 13) := ⟨⟨by decide +kernel, by decide +kernel⟩, List.mem_of_getElem? (i := 543) (by decide +kernel), List.mem_of_getElem? (i := 747) (by decide +kernel), List.mem_of_getElem? (i := 748) (by decide +kernel)⟩
theorem lw_p43 : lw_okq (⟨"DonorPartsModel", "takeBack", "()V"⟩, 13) := ⟨⟨by decide +kernel, by decide +kernel⟩, List.mem_of_getElem? (i := 543) (by decide +kernel), List.mem_of_getElem? (i := 751) (by decide +kernel), List.mem_of_getElem? (i := 752) (by decide +kernel)⟩
theorem lw_p44 : lw_okq (⟨"DonorPartsModel", "repairedWith", "(III)I"⟩, 13) := ⟨⟨by decide +kernel, by decide +kernel⟩, List.mem_of_getElem? (i := 543) (by decide +kernel), List.mem_of_getElem? (i := 759) (by decide +kernel), List.mem_of_getElem? (i := 760) (by decide +kernel)⟩
theorem lw_p45 : lw_okq (⟨"DonorPartsModel", "reads", "()I"⟩, 13) := ⟨⟨by decide +kernel, by decide +kernel⟩, List.mem_of_getElem? (i := 543) (by decide +kernel), List.mem_of_getElem? (i := 780) (by decide +kernel), List.mem_of_getElem? (i := 781) (by decide +kernel)⟩
theorem lw_p46 : lw_okq (⟨"DonorPartsModel", "readsOrder", "()V"⟩, 13) := ⟨⟨by decide +kernel, by decide +kernel⟩, List.mem_of_getElem? (i := 543) (by decide +kernel), List.mem_of_getElem? (i := 784) (by decide +kernel), List.mem_of_getElem? (i := 785) (by decide +kernel)⟩
theorem lw_p47 : lw_okq (⟨"DonorPartsModel", "sign", "()I"⟩, 13) := ⟨⟨by decide +kernel, by decide +kernel⟩, List.mem_of_getElem? (i := 543) (by decide +kernel), List.mem_of_getElem? (i := 788) (by decide +kernel), List.mem_of_getElem? (i := 789) (by decide +kernel)⟩
def lw_privs_3 : List (MethodName × Nat) := [(⟨"DonorPartsModel", "nextFor", "(I)I"⟩, 13), (⟨"DonorPartsModel", "works", "(I)V"⟩, 13), (⟨"DonorPartsModel", "more", "(II)V"⟩, 13), (⟨"DonorPartsModel", "exchanges", "(I)Z"⟩, 13), (⟨"DonorPartsModel", "tests", "(II)Z"⟩, 13), (⟨"DonorPartsModel", "givesUp", "(II)V"⟩, 13), (⟨"DonorPartsModel", "frees", "(I)V"⟩, 13), (⟨"DonorPartsModel", "fixerOf", "(I)I"⟩, 13), (⟨"DonorPartsModel", "placeOf", "(I)I"⟩, 13), (⟨"DonorPartsModel", "brokenOnes", "(I)I"⟩, 13), (⟨"DonorPartsModel", "putAside", "()V"⟩, 13), (⟨"DonorPartsModel", "takeBack", "()V"⟩, 13), (⟨"DonorPartsModel", "repairedWith", "(III)I"⟩, 13), (⟨"DonorPartsModel", "reads", "()I"⟩, 13), (⟨"DonorPartsModel", "readsOrder", "()V"⟩, 13), (⟨"DonorPartsModel", "sign", "()I"⟩, 13)]
theorem lw_r3 : ∀ q ∈ lw_privs_3, lw_okq q := List.forall_mem_cons.mpr ⟨lw_p32, List.forall_mem_cons.mpr ⟨lw_p33, List.forall_mem_cons.mpr ⟨lw_p34, List.forall_mem_cons.mpr ⟨lw_p35, List.forall_mem_cons.mpr ⟨lw_p36, List.forall_mem_cons.mpr ⟨lw_p37, List.forall_mem_cons.mpr ⟨lw_p38, List.forall_mem_cons.mpr ⟨lw_p39, List.forall_mem_cons.mpr ⟨lw_p40, List.forall_mem_cons.mpr ⟨lw_p41, List.forall_mem_cons.mpr ⟨lw_p42, List.forall_mem_cons.mpr ⟨lw_p43, List.forall_mem_cons.mpr ⟨lw_p44, List.forall_mem_cons.mpr ⟨lw_p45, List.forall_mem_cons.mpr ⟨lw_p46, List.forall_mem_cons.mpr ⟨lw_p47, fun _ h => absurd h List.not_mem_nil⟩⟩⟩⟩⟩⟩⟩⟩⟩⟩⟩⟩⟩⟩⟩⟩
theorem lw_p48 : lw_okq (⟨"DonorPartsModel", "digit", "(I)I"⟩, 13) := ⟨⟨by decide +kernel, by decide +kernel⟩, List.mem_of_getElem? (i := 543) (by decide +kernel), List.mem_of_getElem? (i := 792) (by decide +kernel), List.mem_of_getElem? (i := 793) (by decide +kernel)⟩
theorem lw_p49 : lw_okq (⟨"DonorPartsModel", "takesSign", "(I)Z"⟩, 13) := ⟨⟨by decide +kernel, by decide +kernel⟩, List.mem_of_getElem? (i := 543) (by decide +kernel), List.mem_of_getElem? (i := 796) (by decide +kernel), List.mem_of_getElem? (i := 797) (by decide +kernel)⟩
theorem lw_p50 : lw_okq (⟨"DonorPartsModel", "digits", "(I)I"⟩, 13) := ⟨⟨by decide +kernel, by decide +kernel⟩, List.mem_of_getElem? (i := 543) (by decide +kernel), List.mem_of_getElem? (i := 800) (by decide +kernel), List.mem_of_getElem? (i := 801) (by decide +kernel)⟩
theorem lw_p51 : lw_okq (⟨"DonorPartsModel", "number", "()I"⟩, 13) := ⟨⟨by decide +kernel, by decide +kernel⟩, List.mem_of_getElem? (i := 543) (by decide +kernel), List.mem_of_getElem? (i := 804) (by decide +kernel), List.mem_of_getElem? (i := 805) (by decide +kernel)⟩
theorem lw_p52 : lw_okq (⟨"DonorPartsModel", "refuses", "(I)I"⟩, 13) := ⟨⟨by decide +kernel, by decide +kernel⟩, List.mem_of_getElem? (i := 543) (by decide +kernel), List.mem_of_getElem? (i := 812) (by decide +kernel), List.mem_of_getElem? (i := 813) (by decide +kernel)⟩
theorem lw_p53 : lw_okq (⟨"DonorPartsModel", "does", "(I)V"⟩, 13) := ⟨⟨by decide +kernel, by decide +kernel⟩, List.mem_of_getElem? (i := 543) (by decide +kernel), List.mem_of_getElem? (i := 816) (by decide +kernel), List.mem_of_getElem? (i := 817) (by decide +kernel)⟩
def lw_privs_4 : List (MethodName × Nat) := [(⟨"DonorPartsModel", "digit", "(I)I"⟩, 13), (⟨"DonorPartsModel", "takesSign", "(I)Z"⟩, 13), (⟨"DonorPartsModel", "digits", "(I)I"⟩, 13), (⟨"DonorPartsModel", "number", "()I"⟩, 13), (⟨"DonorPartsModel", "refuses", "(I)I"⟩, 13), (⟨"DonorPartsModel", "does", "(I)V"⟩, 13)]
theorem lw_r4 : ∀ q ∈ lw_privs_4, lw_okq q := List.forall_mem_cons.mpr ⟨lw_p48, List.forall_mem_cons.mpr ⟨lw_p49, List.forall_mem_cons.mpr ⟨lw_p50, List.forall_mem_cons.mpr ⟨lw_p51, List.forall_mem_cons.mpr ⟨lw_p52, List.forall_mem_cons.mpr ⟨lw_p53, fun _ h => absurd h List.not_mem_nil⟩⟩⟩⟩⟩⟩
def lw_privs : List (MethodName × Nat) := lw_privs_1 ++ (lw_privs_2 ++ (lw_privs_3 ++ (lw_privs_4)))
def lw_tbl : List Cond := k2_sels lw_privs ++ tables_1
theorem lw_privs_ok : ∀ q ∈ lw_privs, lw_okq q := by
  show ∀ q ∈ lw_privs_1 ++ (lw_privs_2 ++ (lw_privs_3 ++ (lw_privs_4))), lw_okq q
  exact List.forall_mem_append.mpr ⟨lw_r1, List.forall_mem_append.mpr ⟨lw_r2, List.forall_mem_append.mpr ⟨lw_r3, lw_r4⟩⟩⟩
-- ===== end of PART A; then your names; then what follows =====
def RX0 : String := "DonorParts$Cafe"
def TX0 : u_T := fun k => match k with
  | 0 => ("DonorParts$Cafe", "minutes", "I", false)
  | 1 => ("DonorParts$Cafe", "things", "I", false)
  | 2 => ("DonorParts$Cafe", "fixers", "I", false)
  | 3 => ("DonorParts$Cafe", "thingRow", "[LDonorParts$Thing;", true)
  | 4 => ("DonorParts$Cafe", "fixerRow", "[LDonorParts$Fixer;", true)
  | _ => ("DonorParts$Cafe", "partRow", "[LDonorParts$Part;", true)
def tyX0 : Nat → FieldType := fun k => match k with
  | 0 => .int
  | 1 => .int
  | 2 => .int
  | 3 => .array (.object "DonorParts$Thing")
  | 4 => .array (.object "DonorParts$Fixer")
  | _ => .array (.object "DonorParts$Part")
abbrev wsX00 : List Cond := u_ws RX0 TX0 6
theorem nmX0 : ∀ a, a < 6 → ∀ b, b < 6 → a ≠ b → (TX0 a).2.1 ≠ (TX0 b).2.1 := by decide +kernel
theorem tyX0_ok : ∀ k, k < 6 → parseFieldDescriptor (TX0 k).2.2.1 = some (tyX0 k) := by decide +kernel
abbrev cX0_init : ByteArray := prog_2_method_1_code
def yX0_init : MethodName := ⟨RX0, "<init>", "()V"⟩
abbrev cX0_thingAt : ByteArray := prog_2_method_2_code
def yX0_thingAt : MethodName := ⟨RX0, "thingAt", "(I)LDonorParts$Thing;"⟩
abbrev cX0_fixerAt : ByteArray := prog_2_method_3_code
def yX0_fixerAt : MethodName := ⟨RX0, "fixerAt", "(I)LDonorParts$Fixer;"⟩
abbrev cX0_partAt : ByteArray := prog_2_method_4_code
def yX0_partAt : MethodName := ⟨RX0, "partAt", "(I)LDonorParts$Part;"⟩
abbrev cX0_copyFrom : ByteArray := prog_2_method_5_code
def yX0_copyFrom : MethodName := ⟨RX0, "copyFrom", "(LDonorParts$Cafe;)V"⟩
abbrev cX0_addThing : ByteArray := prog_2_method_6_code
def yX0_addThing : MethodName := ⟨RX0, "addThing", "(IIII)I"⟩
abbrev cX0_addFixer : ByteArray := prog_2_method_7_code
def yX0_addFixer : MethodName := ⟨RX0, "addFixer", "(II)I"⟩
abbrev cX0_fillDrawer : ByteArray := prog_2_method_8_code
def yX0_fillDrawer : MethodName := ⟨RX0, "fillDrawer", "(II)I"⟩
abbrev cX0_giveWaitingUp : ByteArray := prog_2_method_9_code
def yX0_giveWaitingUp : MethodName := ⟨RX0, "giveWaitingUp", "(I)I"⟩
abbrev cX0_letPass : ByteArray := prog_2_method_10_code
def yX0_letPass : MethodName := ⟨RX0, "letPass", "(I)I"⟩
abbrev cX0_passMinutes : ByteArray := prog_2_method_11_code
def yX0_passMinutes : MethodName := ⟨RX0, "passMinutes", "(I)I"⟩
abbrev cX0_passMinute : ByteArray := prog_2_method_12_code
def yX0_passMinute : MethodName := ⟨RX0, "passMinute", "()I"⟩
abbrev cX0_takeThing : ByteArray := prog_2_method_13_code
def yX0_takeThing : MethodName := ⟨RX0, "takeThing", "(I)V"⟩
abbrev cX0_workOf : ByteArray := prog_2_method_14_code
def yX0_workOf : MethodName := ⟨RX0, "workOf", "(I)I"⟩
abbrev cX0_exchangeLowest : ByteArray := prog_2_method_15_code
def yX0_exchangeLowest : MethodName := ⟨RX0, "exchangeLowest", "(LDonorParts$Thing;)Z"⟩
abbrev cX0_strip : ByteArray := prog_2_method_16_code
def yX0_strip : MethodName := ⟨RX0, "strip", "(LDonorParts$Thing;)I"⟩
abbrev cX0_losePatience : ByteArray := prog_2_method_17_code
def yX0_losePatience : MethodName := ⟨RX0, "losePatience", "()V"⟩
abbrev cX0_hasThingHere : ByteArray := prog_2_method_18_code
def yX0_hasThingHere : MethodName := ⟨RX0, "hasThingHere", "()Z"⟩
abbrev cX0_nextOf : ByteArray := prog_2_method_19_code
def yX0_nextOf : MethodName := ⟨RX0, "nextOf", "(I)I"⟩
abbrev cX0_placeOf : ByteArray := prog_2_method_20_code
def yX0_placeOf : MethodName := ⟨RX0, "placeOf", "(I)I"⟩
abbrev cX0_thingsThatAre : ByteArray := prog_2_method_21_code
def yX0_thingsThatAre : MethodName := ⟨RX0, "thingsThatAre", "(I)I"⟩
abbrev cX0_brokenOnes : ByteArray := prog_2_method_22_code
def yX0_brokenOnes : MethodName := ⟨RX0, "brokenOnes", "(I)I"⟩
abbrev cX0_missingOnes : ByteArray := prog_2_method_23_code
def yX0_missingOnes : MethodName := ⟨RX0, "missingOnes", "(I)I"⟩
def RX1 : String := "DonorParts$Fixer"
def TX1 : u_T := fun k => match k with
  | 0 => ("DonorParts$Fixer", "kinds", "I", false)
  | 1 => ("DonorParts$Fixer", "care", "I", false)
  | 2 => ("DonorParts$Fixer", "task", "I", false)
  | 3 => ("DonorParts$Fixer", "repaired", "I", false)
  | 4 => ("DonorParts$Fixer", "givenUp", "I", false)
  | _ => ("DonorParts$Fixer", "worked", "I", false)
def tyX1 : Nat → FieldType := fun k => match k with
  | 0 => .int
  | 1 => .int
  | 2 => .int
  | 3 => .int
  | 4 => .int
  | _ => .int
abbrev wsX10 : List Cond := u_ws RX1 TX1 6
theorem nmX1 : ∀ a, a < 6 → ∀ b, b < 6 → a ≠ b → (TX1 a).2.1 ≠ (TX1 b).2.1 := by decide +kernel
theorem tyX1_ok : ∀ k, k < 6 → parseFieldDescriptor (TX1 k).2.2.1 = some (tyX1 k) := by decide +kernel
abbrev cX1_init : ByteArray := prog_3_method_1_code
def yX1_init : MethodName := ⟨RX1, "<init>", "()V"⟩
abbrev cX1_come : ByteArray := prog_3_method_2_code
def yX1_come : MethodName := ⟨RX1, "come", "(II)V"⟩
abbrev cX1_copyFrom : ByteArray := prog_3_method_3_code
def yX1_copyFrom : MethodName := ⟨RX1, "copyFrom", "(LDonorParts$Fixer;)V"⟩
def RX2 : String := "DonorParts$Pad"
def TX2 : u_T := fun k => match k with
  | 0 => ("DonorParts$Pad", "length", "I", false)
  | 1 => ("DonorParts$Pad", "at", "I", false)
  | 2 => ("DonorParts$Pad", "letter", "I", false)
  | 3 => ("DonorParts$Pad", "digit", "I", false)
  | 4 => ("DonorParts$Pad", "set", "I", false)
  | 5 => ("DonorParts$Pad", "number", "I", false)
  | 6 => ("DonorParts$Pad", "last", "I", false)
  | _ => ("DonorParts$Pad", "signs", "[C", true)
def tyX2 : Nat → FieldType := fun k => match k with
  | 0 => .int
  | 1 => .int
  | 2 => .int
  | 3 => .int
  | 4 => .int
  | 5 => .int
  | 6 => .int
  | _ => .array .char
abbrev wsX20 : List Cond := u_ws RX2 TX2 8
theorem nmX2 : ∀ a, a < 8 → ∀ b, b < 8 → a ≠ b → (TX2 a).2.1 ≠ (TX2 b).2.1 := by decide +kernel
theorem tyX2_ok : ∀ k, k < 8 → parseFieldDescriptor (TX2 k).2.2.1 = some (tyX2 k) := by decide +kernel
abbrev cX2_init : ByteArray := prog_4_method_1_code
def yX2_init : MethodName := ⟨RX2, "<init>", "()V"⟩
abbrev cX2_append : ByteArray := prog_4_method_2_code
def yX2_append : MethodName := ⟨RX2, "append", "(I)V"⟩
abbrev cX2_sign : ByteArray := prog_4_method_3_code
def yX2_sign : MethodName := ⟨RX2, "sign", "()I"⟩
abbrev cX2_begin : ByteArray := prog_4_method_4_code
def yX2_begin : MethodName := ⟨RX2, "begin", "()V"⟩
abbrev cX2_isAtEnd : ByteArray := prog_4_method_5_code
def yX2_isAtEnd : MethodName := ⟨RX2, "isAtEnd", "()Z"⟩
abbrev cX2_readOrder : ByteArray := prog_4_method_6_code
def yX2_readOrder : MethodName := ⟨RX2, "readOrder", "()Z"⟩
abbrev cX2_readSign : ByteArray := prog_4_method_7_code
def yX2_readSign : MethodName := ⟨RX2, "readSign", "(I)Z"⟩
abbrev cX2_readThing : ByteArray := prog_4_method_8_code
def yX2_readThing : MethodName := ⟨RX2, "readThing", "()Z"⟩
abbrev cX2_readDigit : ByteArray := prog_4_method_9_code
def yX2_readDigit : MethodName := ⟨RX2, "readDigit", "(I)Z"⟩
abbrev cX2_readLast : ByteArray := prog_4_method_10_code
def yX2_readLast : MethodName := ⟨RX2, "readLast", "(I)Z"⟩
abbrev cX2_readSet : ByteArray := prog_4_method_11_code
def yX2_readSet : MethodName := ⟨RX2, "readSet", "(I)Z"⟩
abbrev cX2_readNumber : ByteArray := prog_4_method_12_code
def yX2_readNumber : MethodName := ⟨RX2, "readNumber", "()Z"⟩
abbrev cX2_digitAtMost : ByteArray := prog_4_method_13_code
def yX2_digitAtMost : MethodName := ⟨RX2, "digitAtMost", "(I)I"⟩
def RX3 : String := "DonorParts$Part"
def TX3 : u_T := fun k => match k with
  | 0 => ("DonorParts$Part", "stock", "I", false)
  | 1 => ("DonorParts$Part", "exchanged", "I", false)
  | _ => ("DonorParts$Part", "stripped", "I", false)
def tyX3 : Nat → FieldType := fun k => match k with
  | 0 => .int
  | 1 => .int
  | _ => .int
abbrev wsX30 : List Cond := u_ws RX3 TX3 3
theorem nmX3 : ∀ a, a < 3 → ∀ b, b < 3 → a ≠ b → (TX3 a).2.1 ≠ (TX3 b).2.1 := by decide +kernel
theorem tyX3_ok : ∀ k, k < 3 → parseFieldDescriptor (TX3 k).2.2.1 = some (tyX3 k) := by decide +kernel
abbrev cX3_init : ByteArray := prog_5_method_1_code
def yX3_init : MethodName := ⟨RX3, "<init>", "()V"⟩
abbrev cX3_copyFrom : ByteArray := prog_5_method_2_code
def yX3_copyFrom : MethodName := ⟨RX3, "copyFrom", "(LDonorParts$Part;)V"⟩
abbrev cX3_takeIn : ByteArray := prog_5_method_3_code
def yX3_takeIn : MethodName := ⟨RX3, "takeIn", "()Z"⟩
abbrev cX3_handOut : ByteArray := prog_5_method_4_code
def yX3_handOut : MethodName := ⟨RX3, "handOut", "()Z"⟩
def RX4 : String := "DonorParts$Past"
def TX4 : u_T := fun k => match k with
  | 0 => ("DonorParts$Past", "many", "I", false)
  | 1 => ("DonorParts$Past", "next", "I", false)
  | _ => ("DonorParts$Past", "ring", "[LDonorParts$Cafe;", true)
def tyX4 : Nat → FieldType := fun k => match k with
  | 0 => .int
  | 1 => .int
  | _ => .array (.object "DonorParts$Cafe")
abbrev wsX40 : List Cond := u_ws RX4 TX4 3
theorem nmX4 : ∀ a, a < 3 → ∀ b, b < 3 → a ≠ b → (TX4 a).2.1 ≠ (TX4 b).2.1 := by decide +kernel
theorem tyX4_ok : ∀ k, k < 3 → parseFieldDescriptor (TX4 k).2.2.1 = some (tyX4 k) := by decide +kernel
abbrev cX4_init : ByteArray := prog_6_method_1_code
def yX4_init : MethodName := ⟨RX4, "<init>", "()V"⟩
abbrev cX4_note : ByteArray := prog_6_method_2_code
def yX4_note : MethodName := ⟨RX4, "note", "(LDonorParts$Cafe;)V"⟩
abbrev cX4_keep : ByteArray := prog_6_method_3_code
def yX4_keep : MethodName := ⟨RX4, "keep", "()V"⟩
abbrev cX4_takeBack : ByteArray := prog_6_method_4_code
def yX4_takeBack : MethodName := ⟨RX4, "takeBack", "(LDonorParts$Cafe;)V"⟩
abbrev cX4_nextPlace : ByteArray := prog_6_method_5_code
def yX4_nextPlace : MethodName := ⟨RX4, "nextPlace", "()LDonorParts$Cafe;"⟩
def RX5 : String := "DonorParts$Thing"
def TX5 : u_T := fun k => match k with
  | 0 => ("DonorParts$Thing", "kind", "I", false)
  | 1 => ("DonorParts$Thing", "broken", "I", false)
  | 2 => ("DonorParts$Thing", "patience", "I", false)
  | 3 => ("DonorParts$Thing", "tests", "I", false)
  | 4 => ("DonorParts$Thing", "how", "I", false)
  | 5 => ("DonorParts$Thing", "worker", "I", false)
  | 6 => ("DonorParts$Thing", "failures", "I", false)
  | _ => ("DonorParts$Thing", "exchanged", "I", false)
def tyX5 : Nat → FieldType := fun k => match k with
  | 0 => .int
  | 1 => .int
  | 2 => .int
  | 3 => .int
  | 4 => .int
  | 5 => .int
  | 6 => .int
  | _ => .int
abbrev wsX50 : List Cond := u_ws RX5 TX5 8
theorem nmX5 : ∀ a, a < 8 → ∀ b, b < 8 → a ≠ b → (TX5 a).2.1 ≠ (TX5 b).2.1 := by decide +kernel
theorem tyX5_ok : ∀ k, k < 8 → parseFieldDescriptor (TX5 k).2.2.1 = some (tyX5 k) := by decide +kernel
abbrev cX5_init : ByteArray := prog_7_method_1_code
def yX5_init : MethodName := ⟨RX5, "<init>", "()V"⟩
abbrev cX5_come : ByteArray := prog_7_method_2_code
def yX5_come : MethodName := ⟨RX5, "come", "(IIII)V"⟩
abbrev cX5_copyFrom : ByteArray := prog_7_method_3_code
def yX5_copyFrom : MethodName := ⟨RX5, "copyFrom", "(LDonorParts$Thing;)V"⟩
abbrev cX5_isHere : ByteArray := prog_7_method_4_code
def yX5_isHere : MethodName := ⟨RX5, "isHere", "()Z"⟩
abbrev cX5_end : ByteArray := prog_7_method_5_code
def yX5_end : MethodName := ⟨RX5, "end", "(I)V"⟩
abbrev cX5_tryTest : ByteArray := prog_7_method_6_code
def yX5_tryTest : MethodName := ⟨RX5, "tryTest", "(II)Z"⟩
def RX6 : String := "DonorParts"
def TX6 : u_T := fun k => match k with
  | 0 => ("DonorParts", "now", "LDonorParts$Cafe;", true)
  | 1 => ("DonorParts", "ahead", "LDonorParts$Cafe;", true)
  | 2 => ("DonorParts", "past", "LDonorParts$Past;", true)
  | 3 => ("DonorParts", "slots", "[LDonorParts$Cafe;", true)
  | _ => ("DonorParts", "pad", "LDonorParts$Pad;", true)
def tyX6 : Nat → FieldType := fun k => match k with
  | 0 => .object "DonorParts$Cafe"
  | 1 => .object "DonorParts$Cafe"
  | 2 => .object "DonorParts$Past"
  | 3 => .array (.object "DonorParts$Cafe")
  | _ => .object "DonorParts$Pad"
abbrev wsX60 : List Cond := u_ws RX6 TX6 5
theorem nmX6 : ∀ a, a < 5 → ∀ b, b < 5 → a ≠ b → (TX6 a).2.1 ≠ (TX6 b).2.1 := by decide +kernel
theorem tyX6_ok : ∀ k, k < 5 → parseFieldDescriptor (TX6 k).2.2.1 = some (tyX6 k) := by decide +kernel
abbrev cX6_init : ByteArray := prog_1_method_1_code
def yX6_init : MethodName := ⟨RX6, "<init>", "()V"⟩
abbrev cX6_thing : ByteArray := prog_1_method_2_code
def yX6_thing : MethodName := ⟨RX6, "thing", "(IIII)I"⟩
abbrev cX6_fixer : ByteArray := prog_1_method_3_code
def yX6_fixer : MethodName := ⟨RX6, "fixer", "(II)I"⟩
abbrev cX6_drawer : ByteArray := prog_1_method_4_code
def yX6_drawer : MethodName := ⟨RX6, "drawer", "(II)I"⟩
abbrev cX6_giveUp : ByteArray := prog_1_method_5_code
def yX6_giveUp : MethodName := ⟨RX6, "giveUp", "(I)I"⟩
abbrev cX6_pass : ByteArray := prog_1_method_6_code
def yX6_pass : MethodName := ⟨RX6, "pass", "(I)I"⟩
abbrev cX6_ofThing : ByteArray := prog_1_method_7_code
def yX6_ofThing : MethodName := ⟨RX6, "ofThing", "(II)I"⟩
abbrev cX6_ofFixer : ByteArray := prog_1_method_8_code
def yX6_ofFixer : MethodName := ⟨RX6, "ofFixer", "(II)I"⟩
abbrev cX6_ofPart : ByteArray := prog_1_method_9_code
def yX6_ofPart : MethodName := ⟨RX6, "ofPart", "(II)I"⟩
abbrev cX6_count : ByteArray := prog_1_method_10_code
def yX6_count : MethodName := ⟨RX6, "count", "(I)I"⟩
abbrev cX6_scarcest : ByteArray := prog_1_method_11_code
def yX6_scarcest : MethodName := ⟨RX6, "scarcest", "()I"⟩
abbrev cX6_doneIn : ByteArray := prog_1_method_12_code
def yX6_doneIn : MethodName := ⟨RX6, "doneIn", "(I)I"⟩
abbrev cX6_withFixer : ByteArray := prog_1_method_13_code
def yX6_withFixer : MethodName := ⟨RX6, "withFixer", "(III)I"⟩
abbrev cX6_bestCare : ByteArray := prog_1_method_14_code
def yX6_bestCare : MethodName := ⟨RX6, "bestCare", "(I)I"⟩
abbrev cX6_put : ByteArray := prog_1_method_15_code
def yX6_put : MethodName := ⟨RX6, "put", "(J)I"⟩
abbrev cX6_wipe : ByteArray := prog_1_method_16_code
def yX6_wipe : MethodName := ⟨RX6, "wipe", "()I"⟩
abbrev cX6_fault : ByteArray := prog_1_method_17_code
def yX6_fault : MethodName := ⟨RX6, "fault", "()I"⟩
abbrev cX6_carryOut : ByteArray := prog_1_method_18_code
def yX6_carryOut : MethodName := ⟨RX6, "carryOut", "()I"⟩
abbrev cX6_undo : ByteArray := prog_1_method_19_code
def yX6_undo : MethodName := ⟨RX6, "undo", "()I"⟩
abbrev cX6_save : ByteArray := prog_1_method_20_code
def yX6_save : MethodName := ⟨RX6, "save", "(I)I"⟩
abbrev cX6_restore : ByteArray := prog_1_method_21_code
def yX6_restore : MethodName := ⟨RX6, "restore", "(I)I"⟩
abbrev cX6_kept : ByteArray := prog_1_method_22_code
def yX6_kept : MethodName := ⟨RX6, "kept", "(I)I"⟩
abbrev cX6_repairedWith : ByteArray := prog_1_method_23_code
def yX6_repairedWith : MethodName := ⟨RX6, "repairedWith", "(III)I"⟩
abbrev cX6_carryOrder : ByteArray := prog_1_method_24_code
def yX6_carryOrder : MethodName := ⟨RX6, "carryOrder", "()I"⟩
abbrev cX6_signsIn : ByteArray := prog_1_method_25_code
def yX6_signsIn : MethodName := ⟨RX6, "signsIn", "(J)I"⟩
abbrev cX6_isFixer : ByteArray := prog_1_method_26_code
def yX6_isFixer : MethodName := ⟨RX6, "isFixer", "(II)Z"⟩
abbrev cX6_isWhatIf : ByteArray := prog_1_method_27_code
def yX6_isWhatIf : MethodName := ⟨RX6, "isWhatIf", "(I)Z"⟩
abbrev cX6_isIn : ByteArray := prog_1_method_28_code
def yX6_isIn : MethodName := ⟨RX6, "isIn", "(II)Z"⟩
abbrev cX6_partsOf : ByteArray := prog_1_method_29_code
def yX6_partsOf : MethodName := ⟨RX6, "partsOf", "(I)I"⟩
def RX7 : String := "DonorPartsModel"
def TX7 : u_T := fun k => match k with
  | 0 => ("DonorPartsModel", "thrown", "I", false)
  | 1 => ("DonorPartsModel", "s", "[I", true)
  | 2 => ("DonorPartsModel", "aside", "[I", true)
  | 3 => ("DonorPartsModel", "undos", "[I", true)
  | 4 => ("DonorPartsModel", "undoMany", "I", false)
  | 5 => ("DonorPartsModel", "slots", "[I", true)
  | 6 => ("DonorPartsModel", "hasSlot", "[Z", true)
  | 7 => ("DonorPartsModel", "pad", "[I", true)
  | 8 => ("DonorPartsModel", "length", "I", false)
  | 9 => ("DonorPartsModel", "at", "I", false)
  | 10 => ("DonorPartsModel", "isWell", "Z", false)
  | 11 => ("DonorPartsModel", "orders", "[I", true)
  | _ => ("DonorPartsModel", "orderMany", "I", false)
def tyX7 : Nat → FieldType := fun k => match k with
  | 0 => .int
  | 1 => .array .int
  | 2 => .array .int
  | 3 => .array .int
  | 4 => .int
  | 5 => .array .int
  | 6 => .array .boolean
  | 7 => .array .int
  | 8 => .int
  | 9 => .int
  | 10 => .boolean
  | 11 => .array .int
  | _ => .int
abbrev wsX70 : List Cond := u_ws RX7 TX7 13
theorem nmX7 : ∀ a, a < 13 → ∀ b, b < 13 → a ≠ b → (TX7 a).2.1 ≠ (TX7 b).2.1 := by decide +kernel
theorem tyX7_ok : ∀ k, k < 13 → parseFieldDescriptor (TX7 k).2.2.1 = some (tyX7 k) := by decide +kernel
abbrev cX7_init : ByteArray := prog_9_method_1_code
def yX7_init : MethodName := ⟨RX7, "<init>", "()V"⟩
abbrev cX7_in : ByteArray := prog_9_method_3_code
def yX7_in : MethodName := ⟨RX7, "in", "(III)Z"⟩
abbrev cX7_of : ByteArray := prog_9_method_4_code
def yX7_of : MethodName := ⟨RX7, "of", "(II)I"⟩
abbrev cX7_lay : ByteArray := prog_9_method_5_code
def yX7_lay : MethodName := ⟨RX7, "lay", "(III)V"⟩
abbrev cX7_fixer0 : ByteArray := prog_9_method_6_code
def yX7_fixer0 : MethodName := ⟨RX7, "fixer0", "(II)I"⟩
abbrev cX7_more : ByteArray := prog_9_method_7_code
def yX7_more : MethodName := ⟨RX7, "more", "(II)V"⟩
abbrev cX7_records : ByteArray := prog_9_method_8_code
def yX7_records : MethodName := ⟨RX7, "records", "()V"⟩
abbrev cX7_putAside : ByteArray := prog_9_method_9_code
def yX7_putAside : MethodName := ⟨RX7, "putAside", "()V"⟩
abbrev cX7_takeBack : ByteArray := prog_9_method_10_code
def yX7_takeBack : MethodName := ⟨RX7, "takeBack", "()V"⟩
abbrev cX7_partsOf : ByteArray := prog_9_method_11_code
def yX7_partsOf : MethodName := ⟨RX7, "partsOf", "(I)I"⟩
abbrev cX7_lowest : ByteArray := prog_9_method_12_code
def yX7_lowest : MethodName := ⟨RX7, "lowest", "(I)I"⟩
abbrev cX7_strips : ByteArray := prog_9_method_13_code
def yX7_strips : MethodName := ⟨RX7, "strips", "(I)I"⟩
abbrev cX7_nextFor : ByteArray := prog_9_method_14_code
def yX7_nextFor : MethodName := ⟨RX7, "nextFor", "(I)I"⟩
abbrev cX7_fixerOf : ByteArray := prog_9_method_15_code
def yX7_fixerOf : MethodName := ⟨RX7, "fixerOf", "(I)I"⟩
abbrev cX7_frees : ByteArray := prog_9_method_16_code
def yX7_frees : MethodName := ⟨RX7, "frees", "(I)V"⟩
abbrev cX7_givesUp : ByteArray := prog_9_method_17_code
def yX7_givesUp : MethodName := ⟨RX7, "givesUp", "(II)V"⟩
abbrev cX7_exchanges : ByteArray := prog_9_method_18_code
def yX7_exchanges : MethodName := ⟨RX7, "exchanges", "(I)Z"⟩
abbrev cX7_tests : ByteArray := prog_9_method_19_code
def yX7_tests : MethodName := ⟨RX7, "tests", "(II)Z"⟩
abbrev cX7_works : ByteArray := prog_9_method_20_code
def yX7_works : MethodName := ⟨RX7, "works", "(I)V"⟩
abbrev cX7_takes : ByteArray := prog_9_method_21_code
def yX7_takes : MethodName := ⟨RX7, "takes", "(I)V"⟩
abbrev cX7_minute : ByteArray := prog_9_method_22_code
def yX7_minute : MethodName := ⟨RX7, "minute", "()V"⟩
abbrev cX7_withHow : ByteArray := prog_9_method_23_code
def yX7_withHow : MethodName := ⟨RX7, "withHow", "(I)I"⟩
abbrev cX7_minutes : ByteArray := prog_9_method_24_code
def yX7_minutes : MethodName := ⟨RX7, "minutes", "(I)I"⟩
abbrev cX7_refusesThing : ByteArray := prog_9_method_25_code
def yX7_refusesThing : MethodName := ⟨RX7, "refusesThing", "(IIII)I"⟩
abbrev cX7_comes : ByteArray := prog_9_method_26_code
def yX7_comes : MethodName := ⟨RX7, "comes", "(IIII)I"⟩
abbrev cX7_thing : ByteArray := prog_9_method_27_code
def yX7_thing : MethodName := ⟨RX7, "thing", "(IIII)I"⟩
abbrev cX7_refusesFixer : ByteArray := prog_9_method_28_code
def yX7_refusesFixer : MethodName := ⟨RX7, "refusesFixer", "(II)I"⟩
abbrev cX7_comesFixer : ByteArray := prog_9_method_29_code
def yX7_comesFixer : MethodName := ⟨RX7, "comesFixer", "(II)I"⟩
abbrev cX7_fixer : ByteArray := prog_9_method_30_code
def yX7_fixer : MethodName := ⟨RX7, "fixer", "(II)I"⟩
abbrev cX7_refusesDrawer : ByteArray := prog_9_method_31_code
def yX7_refusesDrawer : MethodName := ⟨RX7, "refusesDrawer", "(II)I"⟩
abbrev cX7_drawer : ByteArray := prog_9_method_32_code
def yX7_drawer : MethodName := ⟨RX7, "drawer", "(II)I"⟩
abbrev cX7_isThing : ByteArray := prog_9_method_33_code
def yX7_isThing : MethodName := ⟨RX7, "isThing", "(I)Z"⟩
abbrev cX7_giveUp : ByteArray := prog_9_method_34_code
def yX7_giveUp : MethodName := ⟨RX7, "giveUp", "(I)I"⟩
abbrev cX7_refusesPass : ByteArray := prog_9_method_35_code
def yX7_refusesPass : MethodName := ⟨RX7, "refusesPass", "(I)I"⟩
abbrev cX7_pass : ByteArray := prog_9_method_36_code
def yX7_pass : MethodName := ⟨RX7, "pass", "(I)I"⟩
abbrev cX7_placeOf : ByteArray := prog_9_method_37_code
def yX7_placeOf : MethodName := ⟨RX7, "placeOf", "(I)I"⟩
abbrev cX7_ofThing : ByteArray := prog_9_method_38_code
def yX7_ofThing : MethodName := ⟨RX7, "ofThing", "(II)I"⟩
abbrev cX7_ofFixer : ByteArray := prog_9_method_39_code
def yX7_ofFixer : MethodName := ⟨RX7, "ofFixer", "(II)I"⟩
abbrev cX7_brokenOnes : ByteArray := prog_9_method_40_code
def yX7_brokenOnes : MethodName := ⟨RX7, "brokenOnes", "(I)I"⟩
abbrev cX7_ofPart : ByteArray := prog_9_method_41_code
def yX7_ofPart : MethodName := ⟨RX7, "ofPart", "(II)I"⟩
abbrev cX7_count : ByteArray := prog_9_method_42_code
def yX7_count : MethodName := ⟨RX7, "count", "(I)I"⟩
abbrev cX7_scarcest : ByteArray := prog_9_method_43_code
def yX7_scarcest : MethodName := ⟨RX7, "scarcest", "()I"⟩
abbrev cX7_doneIn : ByteArray := prog_9_method_44_code
def yX7_doneIn : MethodName := ⟨RX7, "doneIn", "(I)I"⟩
abbrev cX7_repairedWith : ByteArray := prog_9_method_45_code
def yX7_repairedWith : MethodName := ⟨RX7, "repairedWith", "(III)I"⟩
abbrev cX7_withFixer : ByteArray := prog_9_method_46_code
def yX7_withFixer : MethodName := ⟨RX7, "withFixer", "(III)I"⟩
abbrev cX7_bestCare : ByteArray := prog_9_method_47_code
def yX7_bestCare : MethodName := ⟨RX7, "bestCare", "(I)I"⟩
abbrev cX7_put : ByteArray := prog_9_method_48_code
def yX7_put : MethodName := ⟨RX7, "put", "(J)I"⟩
abbrev cX7_wipe : ByteArray := prog_9_method_49_code
def yX7_wipe : MethodName := ⟨RX7, "wipe", "()I"⟩
abbrev cX7_sign : ByteArray := prog_9_method_50_code
def yX7_sign : MethodName := ⟨RX7, "sign", "()I"⟩
abbrev cX7_takesSign : ByteArray := prog_9_method_51_code
def yX7_takesSign : MethodName := ⟨RX7, "takesSign", "(I)Z"⟩
abbrev cX7_digit : ByteArray := prog_9_method_52_code
def yX7_digit : MethodName := ⟨RX7, "digit", "(I)I"⟩
abbrev cX7_digits : ByteArray := prog_9_method_53_code
def yX7_digits : MethodName := ⟨RX7, "digits", "(I)I"⟩
abbrev cX7_number : ByteArray := prog_9_method_54_code
def yX7_number : MethodName := ⟨RX7, "number", "()I"⟩
abbrev cX7_readsOrder : ByteArray := prog_9_method_55_code
def yX7_readsOrder : MethodName := ⟨RX7, "readsOrder", "()V"⟩
abbrev cX7_reads : ByteArray := prog_9_method_56_code
def yX7_reads : MethodName := ⟨RX7, "reads", "()I"⟩
abbrev cX7_fault : ByteArray := prog_9_method_57_code
def yX7_fault : MethodName := ⟨RX7, "fault", "()I"⟩
abbrev cX7_refuses : ByteArray := prog_9_method_58_code
def yX7_refuses : MethodName := ⟨RX7, "refuses", "(I)I"⟩
abbrev cX7_does : ByteArray := prog_9_method_59_code
def yX7_does : MethodName := ⟨RX7, "does", "(I)V"⟩
abbrev cX7_carryOut : ByteArray := prog_9_method_60_code
def yX7_carryOut : MethodName := ⟨RX7, "carryOut", "()I"⟩
abbrev cX7_undo : ByteArray := prog_9_method_61_code
def yX7_undo : MethodName := ⟨RX7, "undo", "()I"⟩
abbrev cX7_save : ByteArray := prog_9_method_62_code
def yX7_save : MethodName := ⟨RX7, "save", "(I)I"⟩
abbrev cX7_restore : ByteArray := prog_9_method_63_code
def yX7_restore : MethodName := ⟨RX7, "restore", "(I)I"⟩
def RJ9 : String := "java/lang/Math"
abbrev cJ9_min_7cf53 : ByteArray := prog_10_method_69_code
def yJ9_min_7cf53 : MethodName := ⟨RJ9, "min", "(II)I"⟩
def RL : String := "DonorPartsLaw"
abbrev cL_law : ByteArray := code
def yL_law : MethodName := ⟨RL, "law", "([I)Z"⟩
abbrev vwCl : List vw_C := [(RX0, TX0, 6), (RX1, TX1, 6), (RX2, TX2, 8), (RX3, TX3, 3), (RX4, TX4, 3), (RX5, TX5, 8), (RX6, TX6, 5), (RX7, TX7, 13)]
