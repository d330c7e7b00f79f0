section
-- ===== PART A: goes FIRST, ahead of the names: the tables' words, and 'selects' of the private methods out of them =====
/-- a private method of a class that the tables say can be made, by its rows of tables_1 -/
def lw_okq (q : MethodName × Nat) : Prop := (q.1.cls ≠ "java/lang/invoke/MethodHandle" ∧ q.1.cls ≠ "java/lang/invoke/VarHandle") ∧ Cond.instantiable q.1.cls q.2 ∈ tables_1 ∧ Cond.privateMethod q.1 ∈ tables_1 ∧ Cond.instanceMethod q.1 ∈ tables_1
theorem lw_p0 : lw_okq (⟨"DonorParts$Past", "nextPlace", "()LDonorParts$Cafe;"⟩, 3) := ⟨⟨by decide +kernel, by decide +kernel⟩, List.mem_of_getElem? (i := 153) (by decide +kernel), List.mem_of_getElem? (i := 236) (by decide +kernel), List.mem_of_getElem? (i := 237) (by decide +kernel)⟩
theorem lw_p1 : lw_okq (⟨"DonorParts", "kept", "(I)I"⟩, 5) := ⟨⟨by decide +kernel, by decide +kernel⟩, List.mem_of_getElem? (i := 11) (by decide +kernel), List.mem_of_getElem? (i := 279) (by decide +kernel), List.mem_of_getElem? (i := 280) (by decide +kernel)⟩
theorem lw_p2 : lw_okq (⟨"DonorParts$Cafe", "strip", "(LDonorParts$Thing;)I"⟩, 6) := ⟨⟨by decide +kernel, by decide +kernel⟩, List.mem_of_getElem? (i := 19) (by decide +kernel), List.mem_of_getElem? (i := 321) (by decide +kernel), List.mem_of_getElem? (i := 322) (by decide +kernel)⟩
theorem lw_p3 : lw_okq (⟨"DonorParts$Cafe", "hasThingHere", "()Z"⟩, 6) := ⟨⟨by decide +kernel, by decide +kernel⟩, List.mem_of_getElem? (i := 19) (by decide +kernel), List.mem_of_getElem? (i := 348) (by decide +kernel), List.mem_of_getElem? (i := 349) (by decide +kernel)⟩
theorem lw_p4 : lw_okq (⟨"DonorParts$Cafe", "takeThing", "(I)V"⟩, 6) := ⟨⟨by decide +kernel, by decide +kernel⟩, List.mem_of_getElem? (i := 19) (by decide +kernel), List.mem_of_getElem? (i := 360) (by decide +kernel), List.mem_of_getElem? (i := 361) (by decide +kernel)⟩
theorem lw_p5 : lw_okq (⟨"DonorParts$Cafe", "workOf", "(I)I"⟩, 6) := ⟨⟨by decide +kernel, by decide +kernel⟩, List.mem_of_getElem? (i := 19) (by decide +kernel), List.mem_of_getElem? (i := 368) (by decide +kernel), List.mem_of_getElem? (i := 369) (by decide +kernel)⟩
theorem lw_p6 : lw_okq (⟨"DonorParts$Cafe", "exchangeLowest", "(LDonorParts$Thing;)Z"⟩, 6) := ⟨⟨by decide +kernel, by decide +kernel⟩, List.mem_of_getElem? (i := 19) (by decide +kernel), List.mem_of_getElem? (i := 372) (by decide +kernel), List.mem_of_getElem? (i := 373) (by decide +kernel)⟩
theorem lw_p7 : lw_okq (⟨"DonorParts$Cafe", "losePatience", "()V"⟩, 6) := ⟨⟨by decide +kernel, by decide +kernel⟩, List.mem_of_getElem? (i := 19) (by decide +kernel), List.mem_of_getElem? (i := 384) (by decide +kernel), List.mem_of_getElem? (i := 385) (by decide +kernel)⟩
theorem lw_p8 : lw_okq (⟨"DonorParts", "repairedWith", "(III)I"⟩, 5) := ⟨⟨by decide +kernel, by decide +kernel⟩, List.mem_of_getElem? (i := 11) (by decide +kernel), List.mem_of_getElem? (i := 444) (by decide +kernel), List.mem_of_getElem? (i := 445) (by decide +kernel)⟩
theorem lw_p9 : lw_okq (⟨"DonorParts$Pad", "sign", "()I"⟩, 8) := ⟨⟨by decide +kernel, by decide +kernel⟩, List.mem_of_getElem? (i := 173) (by decide +kernel), List.mem_of_getElem? (i := 481) (by decide +kernel), List.mem_of_getElem? (i := 482) (by decide +kernel)⟩
theorem lw_p10 : lw_okq (⟨"DonorParts$Pad", "readThing", "()Z"⟩, 8) := ⟨⟨by decide +kernel, by decide +kernel⟩, List.mem_of_getElem? (i := 173) (by decide +kernel), List.mem_of_getElem? (i := 489) (by decide +kernel), List.mem_of_getElem? (i := 490) (by decide +kernel)⟩
theorem lw_p11 : lw_okq (⟨"DonorParts$Pad", "readDigit", "(I)Z"⟩, 8) := ⟨⟨by decide +kernel, by decide +kernel⟩, List.mem_of_getElem? (i := 173) (by decide +kernel), List.mem_of_getElem? (i := 493) (by decide +kernel), List.mem_of_getElem? (i := 494) (by decide +kernel)⟩
theorem lw_p12 : lw_okq (⟨"DonorParts$Pad", "digitAtMost", "(I)I"⟩, 8) := ⟨⟨by decide +kernel, by decide +kernel⟩, List.mem_of_getElem? (i := 173) (by decide +kernel), List.mem_of_getElem? (i := 497) (by decide +kernel), List.mem_of_getElem? (i := 498) (by decide +kernel)⟩
theorem lw_p13 : lw_okq (⟨"DonorParts$Pad", "readSet", "(I)Z"⟩, 8) := ⟨⟨by decide +kernel, by decide +kernel⟩, List.mem_of_getElem? (i := 173) (by decide +kernel), List.mem_of_getElem? (i := 501) (by decide +kernel), List.mem_of_getElem? (i := 502) (by decide +kernel)⟩
theorem lw_p14 : lw_okq (⟨"DonorParts$Pad", "readNumber", "()Z"⟩, 8) := ⟨⟨by decide +kernel, by decide +kernel⟩, List.mem_of_getElem? (i := 173) (by decide +kernel), List.mem_of_getElem? (i := 505) (by decide +kernel), List.mem_of_getElem? (i := 506) (by decide +kernel)⟩
theorem lw_p15 : lw_okq (⟨"DonorParts$Pad", "readLast", "(I)Z"⟩, 8) := ⟨⟨by decide +kernel, by decide +kernel⟩, List.mem_of_getElem? (i := 173) (by decide +kernel), List.mem_of_getElem? (i := 509) (by decide +kernel), List.mem_of_getElem? (i := 510) (by decide +kernel)⟩
def lw_privs_1 : List (MethodName × Nat) := [(⟨"DonorParts$Past", "nextPlace", "()LDonorParts$Cafe;"⟩, 3), (⟨"DonorParts", "kept", "(I)I"⟩, 5), (⟨"DonorParts$Cafe", "strip", "(LDonorParts$Thing;)I"⟩, 6), (⟨"DonorParts$Cafe", "hasThingHere", "()Z"⟩, 6), (⟨"DonorParts$Cafe", "takeThing", "(I)V"⟩, 6), (⟨"DonorParts$Cafe", "workOf", "(I)I"⟩, 6), (⟨"DonorParts$Cafe", "exchangeLowest", "(LDonorParts$Thing;)Z"⟩, 6), (⟨"DonorParts$Cafe", "losePatience", "()V"⟩, 6), (⟨"DonorParts", "repairedWith", "(III)I"⟩, 5), (⟨"DonorParts$Pad", "sign", "()I"⟩, 8), (⟨"DonorParts$Pad", "readThing", "()Z"⟩, 8), (⟨"DonorParts$Pad", "readDigit", "(I)Z"⟩, 8), (⟨"DonorParts$Pad", "digitAtMost", "(I)I"⟩, 8), (⟨"DonorParts$Pad", "readSet", "(I)Z"⟩, 8), (⟨"DonorParts$Pad", "readNumber", "()Z"⟩, 8), (⟨"DonorParts$Pad", "readLast", "(I)Z"⟩, 8)]
theorem lw_r1 : ∀ q ∈ lw_privs_1, lw_okq q := List.forall_mem_cons.mpr ⟨lw_p0, List.forall_mem_cons.mpr ⟨lw_p1, List.forall_mem_cons.mpr ⟨lw_p2, List.forall_mem_cons.mpr ⟨lw_p3, List.forall_mem_cons.mpr ⟨lw_p4, List.forall_mem_cons.mpr ⟨lw_p5, List.forall_mem_cons.mpr ⟨lw_p6, List.forall_mem_cons.mpr ⟨lw_p7, List.forall_mem_cons.mpr ⟨lw_p8, List.forall_mem_cons.mpr ⟨lw_p9, List.forall_mem_cons.mpr ⟨lw_p10, List.forall_mem_cons.mpr ⟨lw_p11, List.forall_mem_cons.mpr ⟨lw_p12, List.forall_mem_cons.mpr ⟨lw_p13, List.forall_mem_cons.mpr ⟨lw_p14, List.forall_mem_cons.mpr ⟨lw_p15, fun _ h => absurd h List.not_mem_nil⟩⟩⟩⟩⟩⟩⟩⟩⟩⟩⟩⟩⟩⟩⟩⟩
theorem lw_p16 : lw_okq (⟨"DonorParts", "carryOrder", "()I"⟩, 5) := ⟨⟨by decide +kernel, by decide +kernel⟩, List.mem_of_getElem? (i := 11) (by decide +kernel), List.mem_of_getElem? (i := 523) (by decide +kernel), List.mem_of_getElem? (i := 524) (by decide +kernel)⟩
theorem lw_p17 : lw_okq (⟨"DonorPartsModel", "refusesThing", "(IIII)I"⟩, 13) := ⟨⟨by decide +kernel, by decide +kernel⟩, List.mem_of_getElem? (i := 543) (by decide +kernel), List.mem_of_getElem? (i := 595) (by decide +kernel), List.mem_of_getElem? (i := 596) (by decide +kernel)⟩
theorem lw_p18 : lw_okq (⟨"DonorPartsModel", "records", "()V"⟩, 13) := ⟨⟨by decide +kernel, by decide +kernel⟩, List.mem_of_getElem? (i := 543) (by decide +kernel), List.mem_of_getElem? (i := 605) (by decide +kernel), List.mem_of_getElem? (i := 606) (by decide +kernel)⟩
theorem lw_p19 : lw_okq (⟨"DonorPartsModel", "comes", "(IIII)I"⟩, 13) := ⟨⟨by decide +kernel, by decide +kernel⟩, List.mem_of_getElem? (i := 543) (by decide +kernel), List.mem_of_getElem? (i := 609) (by decide +kernel), List.mem_of_getElem? (i := 610) (by decide +kernel)⟩
theorem lw_p20 : lw_okq (⟨"DonorPartsModel", "lay", "(III)V"⟩, 13) := ⟨⟨by decide +kernel, by decide +kernel⟩, List.mem_of_getElem? (i := 543) (by decide +kernel), List.mem_of_getElem? (i := 613) (by decide +kernel), List.mem_of_getElem? (i := 614) (by decide +kernel)⟩
theorem lw_p21 : lw_okq (⟨"DonorPartsModel", "refusesFixer", "(II)I"⟩, 13) := ⟨⟨by decide +kernel, by decide +kernel⟩, List.mem_of_getElem? (i := 543) (by decide +kernel), List.mem_of_getElem? (i := 621) (by decide +kernel), List.mem_of_getElem? (i := 622) (by decide +kernel)⟩
theorem lw_p22 : lw_okq (⟨"DonorPartsModel", "comesFixer", "(II)I"⟩, 13) := ⟨⟨by decide +kernel, by decide +kernel⟩, List.mem_of_getElem? (i := 543) (by decide +kernel), List.mem_of_getElem? (i := 625) (by decide +kernel), List.mem_of_getElem? (i := 626) (by decide +kernel)⟩
theorem lw_p23 : lw_okq (⟨"DonorPartsModel", "isThing", "(I)Z"⟩, 13) := ⟨⟨by decide +kernel, by decide +kernel⟩, List.mem_of_getElem? (i := 543) (by decide +kernel), List.mem_of_getElem? (i := 640) (by decide +kernel), List.mem_of_getElem? (i := 641) (by decide +kernel)⟩
theorem lw_p24 : lw_okq (⟨"DonorPartsModel", "of", "(II)I"⟩, 13) := ⟨⟨by decide +kernel, by decide +kernel⟩, List.mem_of_getElem? (i := 543) (by decide +kernel), List.mem_of_getElem? (i := 644) (by decide +kernel), List.mem_of_getElem? (i := 645) (by decide +kernel)⟩
theorem lw_p25 : lw_okq (⟨"DonorPartsModel", "strips", "(I)I"⟩, 13) := ⟨⟨by decide +kernel, by decide +kernel⟩, List.mem_of_getElem? (i := 543) (by decide +kernel), List.mem_of_getElem? (i := 648) (by decide +kernel), List.mem_of_getElem? (i := 649) (by decide +kernel)⟩
theorem lw_p26 : lw_okq (⟨"DonorPartsModel", "refusesPass", "(I)I"⟩, 13) := ⟨⟨by decide +kernel, by decide +kernel⟩, List.mem_of_getElem? (i := 543) (by decide +kernel), List.mem_of_getElem? (i := 656) (by decide +kernel), List.mem_of_getElem? (i := 657) (by decide +kernel)⟩
theorem lw_p27 : lw_okq (⟨"DonorPartsModel", "minutes", "(I)I"⟩, 13) := ⟨⟨by decide +kernel, by decide +kernel⟩, List.mem_of_getElem? (i := 543) (by decide +kernel), List.mem_of_getElem? (i := 660) (by decide +kernel), List.mem_of_getElem? (i := 661) (by decide +kernel)⟩
theorem lw_p28 : lw_okq (⟨"DonorPartsModel", "withHow", "(I)I"⟩, 13) := ⟨⟨by decide +kernel, by decide +kernel⟩, List.mem_of_getElem? (i := 543) (by decide +kernel), List.mem_of_getElem? (i := 664) (by decide +kernel), List.mem_of_getElem? (i := 665) (by decide +kernel)⟩
theorem lw_p29 : lw_okq (⟨"DonorPartsModel", "minute", "()V"⟩, 13) := ⟨⟨by decide +kernel, by decide +kernel⟩, List.mem_of_getElem? (i := 543) (by decide +kernel), List.mem_of_getElem? (i := 668) (by decide +kernel), List.mem_of_getElem? (i := 669) (by decide +kernel)⟩
theorem lw_p30 : lw_okq (⟨"DonorPartsModel", "fixer0", "(II)I"⟩, 13) := ⟨⟨by decide +kernel, by decide +kernel⟩, List.mem_of_getElem? (i := 543) (by decide +kernel), List.mem_of_getElem? (i := 672) (by decide +kernel), List.mem_of_getElem? (i := 673) (by decide +kernel)⟩
theorem lw_p31 : lw_okq (⟨"DonorPartsModel", "takes", "(I)V"⟩, 13) := ⟨⟨by decide +kernel, by decide +kernel⟩, List.mem_of_getElem? (i := 543) (by decide +kernel), List.mem_of_getElem? (i := 676) (by decide +kernel), List.mem_of_getElem? (i := 677) (by decide +kernel)⟩
def lw_privs_2 : List (MethodName × Nat) := [(⟨"DonorParts", "carryOrder", "()I"⟩, 5), (⟨"DonorPartsModel", "refusesThing", "(IIII)I"⟩, 13), (⟨"DonorPartsModel", "records", "()V"⟩, 13), (⟨"DonorPartsModel", "comes", "(IIII)I"⟩, 13), (⟨"DonorPartsModel", "lay", "(III)V"⟩, 13), (⟨"DonorPartsModel", "refusesFixer", "(II)I"⟩, 13), (⟨"DonorPartsModel", "comesFixer", "(II)I"⟩, 13), (⟨"DonorPartsModel", "isThing", "(I)Z"⟩, 13), (⟨"DonorPartsModel", "of", "(II)I"⟩, 13), (⟨"DonorPartsModel", "strips", "(I)I"⟩, 13), (⟨"DonorPartsModel", "refusesPass", "(I)I"⟩, 13), (⟨"DonorPartsModel", "minutes", "(I)I"⟩, 13), (⟨"DonorPartsModel", "withHow", "(I)I"⟩, 13), (⟨"DonorPartsModel", "minute", "()V"⟩, 13), (⟨"DonorPartsModel", "fixer0", "(II)I"⟩, 13), (⟨"DonorPartsModel", "takes", "(I)V"⟩, 13)]
theorem lw_r2 : ∀ q ∈ lw_privs_2, lw_okq q := List.forall_mem_cons.mpr ⟨lw_p16, List.forall_mem_cons.mpr ⟨lw_p17, List.forall_mem_cons.mpr ⟨lw_p18, List.forall_mem_cons.mpr ⟨lw_p19, List.forall_mem_cons.mpr ⟨lw_p20, List.forall_mem_cons.mpr ⟨lw_p21, List.forall_mem_cons.mpr ⟨lw_p22, List.forall_mem_cons.mpr ⟨lw_p23, List.forall_mem_cons.mpr ⟨lw_p24, List.forall_mem_cons.mpr ⟨lw_p25, List.forall_mem_cons.mpr ⟨lw_p26, List.forall_mem_cons.mpr ⟨lw_p27, List.forall_mem_cons.mpr ⟨lw_p28, List.forall_mem_cons.mpr ⟨lw_p29, List.forall_mem_cons.mpr ⟨lw_p30, List.forall_mem_cons.mpr ⟨lw_p31, fun _ h => absurd h List.not_mem_nil⟩⟩⟩⟩⟩⟩⟩⟩⟩⟩⟩⟩⟩⟩⟩⟩
theorem lw_p32 : lw_okq (⟨"DonorPartsModel", "nextFor", "(I)I"⟩, 13) := ⟨⟨by decide +kernel, by decide +kernel⟩, List.mem_of_getElem? (i := 543) (by decide +kernel), List.mem_of_getElem? (i := 680) (by decide +kernel), List.mem_of_getElem? (i := 681) (by decide +kernel)⟩
theorem lw_p33 : lw_okq (⟨"DonorPartsModel", "works", "(I)V"⟩, 13) := ⟨⟨by decide +kernel, by decide +kernel⟩, List.mem_of_getElem? (i := 543) (by decide +kernel), List.mem_of_getElem? (i := 684) (by decide +kernel), List.mem_of_getElem? (i := 685) (by decide +kernel)⟩
theorem lw_p34 : lw_okq (⟨"DonorPartsModel", "more", "(II)V"⟩, 13) := ⟨⟨by decide +kernel, by decide +kernel⟩, List.mem_of_getElem? (i := 543) (by decide +kernel), List.mem_of_getElem? (i := 688) (by decide +kernel), List.mem_of_getElem? (i := 689) (by decide +kernel)⟩
theorem lw_p35 : lw_okq (⟨"DonorPartsModel", "exchanges", "(I)Z"⟩, 13) := ⟨⟨by decide +kernel, by decide +kernel⟩, List.mem_of_getElem? (i := 543) (by decide +kernel), List.mem_of_getElem? (i := 692) (by decide +kernel), List.mem_of_getElem? (i := 693) (by decide +kernel)⟩
theorem lw_p36 : lw_okq (⟨"DonorPartsModel", "tests", "(II)Z"⟩, 13) := ⟨⟨by decide +kernel, by decide +kernel⟩, List.mem_of_getElem? (i := 543) (by decide +kernel), List.mem_of_getElem? (i := 699) (by decide +kernel), List.mem_of_getElem? (i := 700) (by decide +kernel)⟩
theorem lw_p37 : lw_okq (⟨"DonorPartsModel", "givesUp", "(II)V"⟩, 13) := ⟨⟨by decide +kernel, by decide +kernel⟩, List.mem_of_getElem? (i := 543) (by decide +kernel), List.mem_of_getElem? (i := 703) (by decide +kernel), List.mem_of_getElem? (i := 704) (by decide +kernel)⟩
theorem lw_p38 : lw_okq (⟨"DonorPartsModel", "frees", "(I)V"⟩, 13) := ⟨⟨by decide +kernel, by decide +kernel⟩, List.mem_of_getElem? (i := 543) (by decide +kernel), List.mem_of_getElem? (i := 707) (by decide +kernel), List.mem_of_getElem? (i := 708) (by decide +kernel)⟩
theorem lw_p39 : lw_okq (⟨"DonorPartsModel", "fixerOf", "(I)I"⟩, 13) := ⟨⟨by decide +kernel, by decide +kernel⟩, List.mem_of_getElem? (i := 543) (by decide +kernel), List.mem_of_getElem? (i := 715) (by decide +kernel), List.mem_of_getElem? (i := 716) (by decide +kernel)⟩
theorem lw_p40 : lw_okq (⟨"DonorPartsModel", "placeOf", "(I)I"⟩, 13) := ⟨⟨by decide +kernel, by decide +kernel⟩, List.mem_of_getElem? (i := 543) (by decide +kernel), List.mem_of_getElem? (i := 719) (by decide +kernel), List.mem_of_getElem? (i := 720) (by decide +kernel)⟩
theorem lw_p41 : lw_okq (⟨"DonorPartsModel", "brokenOnes", "(I)I"⟩, 13) := ⟨⟨by decide +kernel, by decide +kernel⟩, List.mem_of_getElem? (i := 543) (by decide +kernel), List.mem_of_getElem? (i := 731) (by decide +kernel), List.mem_of_getElem? (i := 732) (by decide +kernel)⟩
theorem lw_p42 : lw_okq (⟨"DonorPartsModel", "putAside", "()V"⟩, 13) := ⟨⟨by decide +kernel, by decide +kernel⟩, List.mem_of_getElem? (i := 543) (by decide +kernel), List.mem_of_getElem? (i := 747) (by decide +kernel), List.mem_of_getElem? (i := 748) (by decide +kernel)⟩
theorem lw_p43 : lw_okq (⟨"DonorPartsModel", "takeBack", "()V"⟩, 13) := ⟨⟨by decide +kernel, by decide +kernel⟩, List.mem_of_getElem? (i := 543) (by decide +kernel), List.mem_of_getElem? (i := 751) (by decide +kernel), List.mem_of_getElem? (i := 752) (by decide +kernel)⟩
theorem lw_p44 : lw_okq (⟨"DonorPartsModel", "repairedWith", "(III)I"⟩, 13) := ⟨⟨by decide +kernel, by decide +kernel⟩, List.mem_of_getElem? (i := 543) (by decide +kernel), List.mem_of_getElem? (i := 759) (by decide +kernel), List.mem_of_getElem? (i := 760) (by decide +kernel)⟩
theorem lw_p45 : lw_okq (⟨"DonorPartsModel", "reads", "()I"⟩, 13) := ⟨⟨by decide +kernel, by decide +kernel⟩, List.mem_of_getElem? (i := 543) (by decide +kernel), List.mem_of_getElem? (i := 780) (by decide +kernel), List.mem_of_getElem? (i := 781) (by decide +kernel)⟩
theorem lw_p46 : lw_okq (⟨"DonorPartsModel", "readsOrder", "()V"⟩, 13) := ⟨⟨by decide +kernel, by decide +kernel⟩, List.mem_of_getElem? (i := 543) (by decide +kernel), List.mem_of_getElem? (i := 784) (by decide +kernel), List.mem_of_getElem? (i := 785) (by decide +kernel)⟩
theorem lw_p47 : lw_okq (⟨"DonorPartsModel", "sign", "()I"⟩, 13) := ⟨⟨by decide +kernel, by decide +kernel⟩, List.mem_of_getElem? (i := 543) (by decide +kernel), List.mem_of_getElem? (i := 788) (by decide +kernel), List.mem_of_getElem? (i := 789) (by decide +kernel)⟩
def lw_privs_3 : List (MethodName × Nat) := [(⟨"DonorPartsModel", "nextFor", "(I)I"⟩, 13), (⟨"DonorPartsModel", "works", "(I)V"⟩, 13), (⟨"DonorPartsModel", "more", "(II)V"⟩, 13), (⟨"DonorPartsModel", "exchanges", "(I)Z"⟩, 13), (⟨"DonorPartsModel", "tests", "(II)Z"⟩, 13), (⟨"DonorPartsModel", "givesUp", "(II)V"⟩, 13), (⟨"DonorPartsModel", "frees", "(I)V"⟩, 13), (⟨"DonorPartsModel", "fixerOf", "(I)I"⟩, 13), (⟨"DonorPartsModel", "placeOf", "(I)I"⟩, 13), (⟨"DonorPartsModel", "brokenOnes", "(I)I"⟩, 13), (⟨"DonorPartsModel", "putAside", "()V"⟩, 13), (⟨"DonorPartsModel", "takeBack", "()V"⟩, 13), (⟨"DonorPartsModel", "repairedWith", "(III)I"⟩, 13), (⟨"DonorPartsModel", "reads", "()I"⟩, 13), (⟨"DonorPartsModel", "readsOrder", "()V"⟩, 13), (⟨"DonorPartsModel", "sign", "()I"⟩, 13)]
theorem lw_r3 : ∀ q ∈ lw_privs_3, lw_okq q := List.forall_mem_cons.mpr ⟨lw_p32, List.forall_mem_cons.mpr ⟨lw_p33, List.forall_mem_cons.mpr ⟨lw_p34, List.forall_mem_cons.mpr ⟨lw_p35, List.forall_mem_cons.mpr ⟨lw_p36, List.forall_mem_cons.mpr ⟨lw_p37, List.forall_mem_cons.mpr ⟨lw_p38, List.forall_mem_cons.mpr ⟨lw_p39, List.forall_mem_cons.mpr ⟨lw_p40, List.forall_mem_cons.mpr ⟨lw_p41, List.forall_mem_cons.mpr ⟨lw_p42, List.forall_mem_cons.mpr ⟨lw_p43, List.forall_mem_cons.mpr ⟨lw_p44, List.forall_mem_cons.mpr ⟨lw_p45, List.forall_mem_cons.mpr ⟨lw_p46, List.forall_mem_cons.mpr ⟨lw_p47, fun _ h => absurd h List.not_mem_nil⟩⟩⟩⟩⟩⟩⟩⟩⟩⟩⟩⟩⟩⟩⟩⟩
theorem lw_p48 : lw_okq (⟨"DonorPartsModel", "digit", "(I)I"⟩, 13) := ⟨⟨by decide +kernel, by decide +kernel⟩, List.mem_of_getElem? (i := 543) (by decide +kernel), List.mem_of_getElem? (i := 792) (by decide +kernel), List.mem_of_getElem? (i := 793) (by decide +kernel)⟩
theorem lw_p49 : lw_okq (⟨"DonorPartsModel", "takesSign", "(I)Z"⟩, 13) := ⟨⟨by decide +kernel, by decide +kernel⟩, List.mem_of_getElem? (i := 543) (by decide +kernel), List.mem_of_getElem? (i := 796) (by decide +kernel), List.mem_of_getElem? (i := 797) (by decide +kernel)⟩
theorem lw_p50 : lw_okq (⟨"DonorPartsModel", "digits", "(I)I"⟩, 13) := ⟨⟨by decide +kernel, by decide +kernel⟩, List.mem_of_getElem? (i := 543) (by decide +kernel), List.mem_of_getElem? (i := 800) (by decide +kernel), List.mem_of_getElem? (i := 801) (by decide +kernel)⟩
theorem lw_p51 : lw_okq (⟨"DonorPartsModel", "number", "()I"⟩, 13) := ⟨⟨by decide +kernel, by decide +kernel⟩, List.mem_of_getElem? (i := 543) (by decide +kernel), List.mem_of_getElem? (i := 804) (by decide +kernel), List.mem_of_getElem? (i := 805) (by decide +kernel)⟩
theorem lw_p52 : lw_okq (⟨"DonorPartsModel", "refuses", "(I)I"⟩, 13) := ⟨⟨by decide +kernel, by decide +kernel⟩, List.mem_of_getElem? (i := 543) (by decide +kernel), List.mem_of_getElem? (i := 812) (by decide +kernel), List.mem_of_getElem? (i := 813) (by decide +kernel)⟩
theorem lw_p53 : lw_okq (⟨"DonorPartsModel", "does", "(I)V"⟩, 13) := ⟨⟨by decide +kernel, by decide +kernel⟩, List.mem_of_getElem? (i := 543) (by decide +kernel), List.mem_of_getElem? (i := 816) (by decide +kernel), List.mem_of_getElem? (i := 817) (by decide +kernel)⟩
def lw_privs_4 : List (MethodName × Nat) := [(⟨"DonorPartsModel", "digit", "(I)I"⟩, 13), (⟨"DonorPartsModel", "takesSign", "(I)Z"⟩, 13), (⟨"DonorPartsModel", "digits", "(I)I"⟩, 13), (⟨"DonorPartsModel", "number", "()I"⟩, 13), (⟨"DonorPartsModel", "refuses", "(I)I"⟩, 13), (⟨"DonorPartsModel", "does", "(I)V"⟩, 13)]
theorem lw_r4 : ∀ q ∈ lw_privs_4, lw_okq q := List.forall_mem_cons.mpr ⟨lw_p48, List.forall_mem_cons.mpr ⟨lw_p49, List.forall_mem_cons.mpr ⟨lw_p50, List.forall_mem_cons.mpr ⟨lw_p51, List.forall_mem_cons.mpr ⟨lw_p52, List.forall_mem_cons.mpr ⟨lw_p53, fun _ h => absurd h List.not_mem_nil⟩⟩⟩⟩⟩⟩
def lw_privs : List (MethodName × Nat) := lw_privs_1 ++ (lw_privs_2 ++ (lw_privs_3 ++ (lw_privs_4)))
def lw_tbl : List Cond := k2_sels lw_privs ++ tables_1
theorem lw_privs_ok : ∀ q ∈ lw_privs, lw_okq q := by
  show ∀ q ∈ lw_privs_1 ++ (lw_privs_2 ++ (lw_privs_3 ++ (lw_privs_4))), lw_okq q
  exact List.forall_mem_append.mpr ⟨lw_r1, List.forall_mem_append.mpr ⟨lw_r2, List.forall_mem_append.mpr ⟨lw_r3, lw_r4⟩⟩⟩
-- ===== end of PART A; then your names; then what follows =====
def RX0 : String := "DonorParts$Cafe"
def TX0 : u_T := fun k => match k with
  | 0 => ("DonorParts$Cafe", "minutes", "I", false)
  | 1 => ("DonorParts$Cafe", "things", "I", false)
  | 2 => ("DonorParts$Cafe", "fixers", "I", false)
  | 3 => ("DonorParts$Cafe", "thingRow", "[LDonorParts$Thing;", true)
  | 4 => ("DonorParts$Cafe", "fixerRow", "[LDonorParts$Fixer;", true)
  | _ => ("DonorParts$Cafe", "partRow", "[LDonorParts$Part;", true)
def tyX0 : Nat → FieldType := fun k => match k with
  | 0 => .int
  | 1 => .int
  | 2 => .int
  | 3 => .array (.object "DonorParts$Thing")
  | 4 => .array (.object "DonorParts$Fixer")
  | _ => .array (.object "DonorParts$Part")
abbrev wsX00 : List Cond := u_ws RX0 TX0 6
theorem nmX0 : ∀ a, a < 6 → ∀ b, b < 6 → a ≠ b → (TX0 a).2.1 ≠ (TX0 b).2.1 := by decide +kernel
theorem tyX0_ok : ∀ k, k < 6 → parseFieldDescriptor (TX0 k).2.2.1 = some (tyX0 k) := by decide +kernel
abbrev cX0_init : ByteArray := prog_2_method_1_code
def yX0_init : MethodName := ⟨RX0, "<init>", "()V"⟩
abbrev cX0_thingAt : ByteArray := prog_2_method_2_code
def yX0_thingAt : MethodName := ⟨RX0, "thingAt", "(I)LDonorParts$Thing;"⟩
abbrev cX0_fixerAt : ByteArray := prog_2_method_3_code
def yX0_fixerAt : MethodName := ⟨RX0, "fixerAt", "(I)LDonorParts$Fixer;"⟩
abbrev cX0_partAt : ByteArray := prog_2_method_4_code
def yX0_partAt : MethodName := ⟨RX0, "partAt", "(I)LDonorParts$Part;"⟩
abbrev cX0_copyFrom : ByteArray := prog_2_method_5_code
def yX0_copyFrom : MethodName := ⟨RX0, "copyFrom", "(LDonorParts$Cafe;)V"⟩
abbrev cX0_addThing : ByteArray := prog_2_method_6_code
def yX0_addThing : MethodName := ⟨RX0, "addThing", "(IIII)I"⟩
abbrev cX0_addFixer : ByteArray := prog_2_method_7_code
def yX0_addFixer : MethodName := ⟨RX0, "addFixer", "(II)I"⟩
abbrev cX0_fillDrawer : ByteArray := prog_2_method_8_code
def yX0_fillDrawer : MethodName := ⟨RX0, "fillDrawer", "(II)I"⟩
abbrev cX0_giveWaitingUp : ByteArray := prog_2_method_9_code
def yX0_giveWaitingUp : MethodName := ⟨RX0, "giveWaitingUp", "(I)I"⟩
abbrev cX0_letPass : ByteArray := prog_2_method_10_code
def yX0_letPass : MethodName := ⟨RX0, "letPass", "(I)I"⟩
abbrev cX0_passMinutes : ByteArray := prog_2_method_11_code
def yX0_passMinutes : MethodName := ⟨RX0, "passMinutes", "(I)I"⟩
abbrev cX0_passMinute : ByteArray := prog_2_method_12_code
def yX0_passMinute : MethodName := ⟨RX0, "passMinute", "()I"⟩
abbrev cX0_takeThing : ByteArray := prog_2_method_13_code
def yX0_takeThing : MethodName := ⟨RX0, "takeThing", "(I)V"⟩
abbrev cX0_workOf : ByteArray := prog_2_method_14_code
def yX0_workOf : MethodName := ⟨RX0, "workOf", "(I)I"⟩
abbrev cX0_exchangeLowest : ByteArray := prog_2_method_15_code
def yX0_exchangeLowest : MethodName := ⟨RX0, "exchangeLowest", "(LDonorParts$Thing;)Z"⟩
abbrev cX0_strip : ByteArray := prog_2_method_16_code
def yX0_strip : MethodName := ⟨RX0, "strip", "(LDonorParts$Thing;)I"⟩
abbrev cX0_losePatience : ByteArray := prog_2_method_17_code
def yX0_losePatience : MethodName := ⟨RX0, "losePatience", "()V"⟩
abbrev cX0_hasThingHere : ByteArray := prog_2_method_18_code
def yX0_hasThingHere : MethodName := ⟨RX0, "hasThingHere", "()Z"⟩
abbrev cX0_nextOf : ByteArray := prog_2_method_19_code
def yX0_nextOf : MethodName := ⟨RX0, "nextOf", "(I)I"⟩
abbrev cX0_placeOf : ByteArray := prog_2_method_20_code
def yX0_placeOf : MethodName := ⟨RX0, "placeOf", "(I)I"⟩
abbrev cX0_thingsThatAre : ByteArray := prog_2_method_21_code
def yX0_thingsThatAre : MethodName := ⟨RX0, "thingsThatAre", "(I)I"⟩
abbrev cX0_brokenOnes : ByteArray := prog_2_method_22_code
def yX0_brokenOnes : MethodName := ⟨RX0, "brokenOnes", "(I)I"⟩
abbrev cX0_missingOnes : ByteArray := prog_2_method_23_code
def yX0_missingOnes : MethodName := ⟨RX0, "missingOnes", "(I)I"⟩
def RX1 : String := "DonorParts$Fixer"
def TX1 : u_T := fun k => match k with
  | 0 => ("DonorParts$Fixer", "kinds", "I", false)
  | 1 => ("DonorParts$Fixer", "care", "I", false)
  | 2 => ("DonorParts$Fixer", "task", "I", false)
  | 3 => ("DonorParts$Fixer", "repaired", "I", false)
  | 4 => ("DonorParts$Fixer", "givenUp", "I", false)
  | _ => ("DonorParts$Fixer", "worked", "I", false)
def tyX1 : Nat → FieldType := fun k => match k with
  | 0 => .int
  | 1 => .int
  | 2 => .int
  | 3 => .int
  | 4 => .int
  | _ => .int
abbrev wsX10 : List Cond := u_ws RX1 TX1 6
theorem nmX1 : ∀ a, a < 6 → ∀ b, b < 6 → a ≠ b → (TX1 a).2.1 ≠ (TX1 b).2.1 := by decide +kernel
theorem tyX1_ok : ∀ k, k < 6 → parseFieldDescriptor (TX1 k).2.2.1 = some (tyX1 k) := by decide +kernel
abbrev cX1_init : ByteArray := prog_3_method_1_code
def yX1_init : MethodName := ⟨RX1, "<init>", "()V"⟩
abbrev cX1_come : ByteArray := prog_3_method_2_code
def yX1_come : MethodName := ⟨RX1, "come", "(II)V"⟩
abbrev cX1_copyFrom : ByteArray := prog_3_method_3_code
def yX1_copyFrom : MethodName := ⟨RX1, "copyFrom", "(LDonorParts$Fixer;)V"⟩
def RX2 : String := "DonorParts$Pad"
def TX2 : u_T := fun k => match k with
  | 0 => ("DonorParts$Pad", "length", "I", false)
  | 1 => ("DonorParts$Pad", "at", "I", false)
  | 2 => ("DonorParts$Pad", "letter", "I", false)
  | 3 => ("DonorParts$Pad", "digit", "I", false)
  | 4 => ("DonorParts$Pad", "set", "I", false)
  | 5 => ("DonorParts$Pad", "number", "I", false)
  | 6 => ("DonorParts$Pad", "last", "I", false)
  | _ => ("DonorParts$Pad", "signs", "[C", true)
def tyX2 : Nat → FieldType := fun k => match k with
  | 0 => .int
  | 1 => .int
  | 2 => .int
  | 3 => .int
  | 4 => .int
  | 5 => .int
  | 6 => .int
  | _ => .array .char
abbrev wsX20 : List Cond := u_ws RX2 TX2 8
theorem nmX2 : ∀ a, a < 8 → ∀ b, b < 8 → a ≠ b → (TX2 a).2.1 ≠ (TX2 b).2.1 := by decide +kernel
theorem tyX2_ok : ∀ k, k < 8 → parseFieldDescriptor (TX2 k).2.2.1 = some (tyX2 k) := by decide +kernel
abbrev cX2_init : ByteArray := prog_4_method_1_code
def yX2_init : MethodName := ⟨RX2, "<init>", "()V"⟩
abbrev cX2_append : ByteArray := prog_4_method_2_code
def yX2_append : MethodName := ⟨RX2, "append", "(I)V"⟩
abbrev cX2_sign : ByteArray := prog_4_method_3_code
def yX2_sign : MethodName := ⟨RX2, "sign", "()I"⟩
abbrev cX2_begin : ByteArray := prog_4_method_4_code
def yX2_begin : MethodName := ⟨RX2, "begin", "()V"⟩
abbrev cX2_isAtEnd : ByteArray := prog_4_method_5_code
def yX2_isAtEnd : MethodName := ⟨RX2, "isAtEnd", "()Z"⟩
abbrev cX2_readOrder : ByteArray := prog_4_method_6_code
def yX2_readOrder : MethodName := ⟨RX2, "readOrder", "()Z"⟩
abbrev cX2_readSign : ByteArray := prog_4_method_7_code
def yX2_readSign : MethodName := ⟨RX2, "readSign", "(I)Z"⟩
abbrev cX2_readThing : ByteArray := prog_4_method_8_code
def yX2_readThing : MethodName := ⟨RX2, "readThing", "()Z"⟩
abbrev cX2_readDigit : ByteArray := prog_4_method_9_code
def yX2_readDigit : MethodName := ⟨RX2, "readDigit", "(I)Z"⟩
abbrev cX2_readLast : ByteArray := prog_4_method_10_code
def yX2_readLast : MethodName := ⟨RX2, "readLast", "(I)Z"⟩
abbrev cX2_readSet : ByteArray := prog_4_method_11_code
def yX2_readSet : MethodName := ⟨RX2, "readSet", "(I)Z"⟩
abbrev cX2_readNumber : ByteArray := prog_4_method_12_code
def yX2_readNumber : MethodName := ⟨RX2, "readNumber", "()Z"⟩
abbrev cX2_digitAtMost : ByteArray := prog_4_method_13_code
def yX2_digitAtMost : MethodName := ⟨RX2, "digitAtMost", "(I)I"⟩
def RX3 : String := "DonorParts$Part"
def TX3 : u_T := fun k => match k with
  | 0 => ("DonorParts$Part", "stock", "I", false)
  | 1 => ("DonorParts$Part", "exchanged", "I", false)
  | _ => ("DonorParts$Part", "stripped", "I", false)
def tyX3 : Nat → FieldType := fun k => match k with
  | 0 => .int
  | 1 => .int
  | _ => .int
abbrev wsX30 : List Cond := u_ws RX3 TX3 3
theorem nmX3 : ∀ a, a < 3 → ∀ b, b < 3 → a ≠ b → (TX3 a).2.1 ≠ (TX3 b).2.1 := by decide +kernel
theorem tyX3_ok : ∀ k, k < 3 → parseFieldDescriptor (TX3 k).2.2.1 = some (tyX3 k) := by decide +kernel
abbrev cX3_init : ByteArray := prog_5_method_1_code
def yX3_init : MethodName := ⟨RX3, "<init>", "()V"⟩
abbrev cX3_copyFrom : ByteArray := prog_5_method_2_code
def yX3_copyFrom : MethodName := ⟨RX3, "copyFrom", "(LDonorParts$Part;)V"⟩
abbrev cX3_takeIn : ByteArray := prog_5_method_3_code
def yX3_takeIn : MethodName := ⟨RX3, "takeIn", "()Z"⟩
abbrev cX3_handOut : ByteArray := prog_5_method_4_code
def yX3_handOut : MethodName := ⟨RX3, "handOut", "()Z"⟩
def RX4 : String := "DonorParts$Past"
def TX4 : u_T := fun k => match k with
  | 0 => ("DonorParts$Past", "many", "I", false)
  | 1 => ("DonorParts$Past", "next", "I", false)
  | _ => ("DonorParts$Past", "ring", "[LDonorParts$Cafe;", true)
def tyX4 : Nat → FieldType := fun k => match k with
  | 0 => .int
  | 1 => .int
  | _ => .array (.object "DonorParts$Cafe")
abbrev wsX40 : List Cond := u_ws RX4 TX4 3
theorem nmX4 : ∀ a, a < 3 → ∀ b, b < 3 → a ≠ b → (TX4 a).2.1 ≠ (TX4 b).2.1 := by decide +kernel
theorem tyX4_ok : ∀ k, k < 3 → parseFieldDescriptor (TX4 k).2.2.1 = some (tyX4 k) := by decide +kernel
abbrev cX4_init : ByteArray := prog_6_method_1_code
def yX4_init : MethodName := ⟨RX4, "<init>", "()V"⟩
abbrev cX4_note : ByteArray := prog_6_method_2_code
def yX4_note : MethodName := ⟨RX4, "note", "(LDonorParts$Cafe;)V"⟩
abbrev cX4_keep : ByteArray := prog_6_method_3_code
def yX4_keep : MethodName := ⟨RX4, "keep", "()V"⟩
abbrev cX4_takeBack : ByteArray := prog_6_method_4_code
def yX4_takeBack : MethodName := ⟨RX4, "takeBack", "(LDonorParts$Cafe;)V"⟩
abbrev cX4_nextPlace : ByteArray := prog_6_method_5_code
def yX4_nextPlace : MethodName := ⟨RX4, "nextPlace", "()LDonorParts$Cafe;"⟩
def RX5 : String := "DonorParts$Thing"
def TX5 : u_T := fun k => match k with
  | 0 => ("DonorParts$Thing", "kind", "I", false)
  | 1 => ("DonorParts$Thing", "broken", "I", false)
  | 2 => ("DonorParts$Thing", "patience", "I", false)
  | 3 => ("DonorParts$Thing", "tests", "I", false)
  | 4 => ("DonorParts$Thing", "how", "I", false)
  | 5 => ("DonorParts$Thing", "worker", "I", false)
  | 6 => ("DonorParts$Thing", "failures", "I", false)
  | _ => ("DonorParts$Thing", "exchanged", "I", false)
def tyX5 : Nat → FieldType := fun k => match k with
  | 0 => .int
  | 1 => .int
  | 2 => .int
  | 3 => .int
  | 4 => .int
  | 5 => .int
  | 6 => .int
  | _ => .int
abbrev wsX50 : List Cond := u_ws RX5 TX5 8
theorem nmX5 : ∀ a, a < 8 → ∀ b, b < 8 → a ≠ b → (TX5 a).2.1 ≠ (TX5 b).2.1 := by decide +kernel
theorem tyX5_ok : ∀ k, k < 8 → parseFieldDescriptor (TX5 k).2.2.1 = some (tyX5 k) := by decide +kernel
abbrev cX5_init : ByteArray := prog_7_method_1_code
def yX5_init : MethodName := ⟨RX5, "<init>", "()V"⟩
abbrev cX5_come : ByteArray := prog_7_method_2_code
def yX5_come : MethodName := ⟨RX5, "come", "(IIII)V"⟩
abbrev cX5_copyFrom : ByteArray := prog_7_method_3_code
def yX5_copyFrom : MethodName := ⟨RX5, "copyFrom", "(LDonorParts$Thing;)V"⟩
abbrev cX5_isHere : ByteArray := prog_7_method_4_code
def yX5_isHere : MethodName := ⟨RX5, "isHere", "()Z"⟩
abbrev cX5_end : ByteArray := prog_7_method_5_code
def yX5_end : MethodName := ⟨RX5, "end", "(I)V"⟩
abbrev cX5_tryTest : ByteArray := prog_7_method_6_code
def yX5_tryTest : MethodName := ⟨RX5, "tryTest", "(II)Z"⟩
def RX6 : String := "DonorParts"
def TX6 : u_T := fun k => match k with
  | 0 => ("DonorParts", "now", "LDonorParts$Cafe;", true)
  | 1 => ("DonorParts", "ahead", "LDonorParts$Cafe;", true)
  | 2 => ("DonorParts", "past", "LDonorParts$Past;", true)
  | 3 => ("DonorParts", "slots", "[LDonorParts$Cafe;", true)
  | _ => ("DonorParts", "pad", "LDonorParts$Pad;", true)
def tyX6 : Nat → FieldType := fun k => match k with
  | 0 => .object "DonorParts$Cafe"
  | 1 => .object "DonorParts$Cafe"
  | 2 => .object "DonorParts$Past"
  | 3 => .array (.object "DonorParts$Cafe")
  | _ => .object "DonorParts$Pad"
abbrev wsX60 : List Cond := u_ws RX6 TX6 5
theorem nmX6 : ∀ a, a < 5 → ∀ b, b < 5 → a ≠ b → (TX6 a).2.1 ≠ (TX6 b).2.1 := by decide +kernel
theorem tyX6_ok : ∀ k, k < 5 → parseFieldDescriptor (TX6 k).2.2.1 = some (tyX6 k) := by decide +kernel
abbrev cX6_init : ByteArray := prog_1_method_1_code
def yX6_init : MethodName := ⟨RX6, "<init>", "()V"⟩
abbrev cX6_thing : ByteArray := prog_1_method_2_code
def yX6_thing : MethodName := ⟨RX6, "thing", "(IIII)I"⟩
abbrev cX6_fixer : ByteArray := prog_1_method_3_code
def yX6_fixer : MethodName := ⟨RX6, "fixer", "(II)I"⟩
abbrev cX6_drawer : ByteArray := prog_1_method_4_code
def yX6_drawer : MethodName := ⟨RX6, "drawer", "(II)I"⟩
abbrev cX6_giveUp : ByteArray := prog_1_method_5_code
def yX6_giveUp : MethodName := ⟨RX6, "giveUp", "(I)I"⟩
abbrev cX6_pass : ByteArray := prog_1_method_6_code
def yX6_pass : MethodName := ⟨RX6, "pass", "(I)I"⟩
abbrev cX6_ofThing : ByteArray := prog_1_method_7_code
def yX6_ofThing : MethodName := ⟨RX6, "ofThing", "(II)I"⟩
abbrev cX6_ofFixer : ByteArray := prog_1_method_8_code
def yX6_ofFixer : MethodName := ⟨RX6, "ofFixer", "(II)I"⟩
abbrev cX6_ofPart : ByteArray := prog_1_method_9_code
def yX6_ofPart : MethodName := ⟨RX6, "ofPart", "(II)I"⟩
abbrev cX6_count : ByteArray := prog_1_method_10_code
def yX6_count : MethodName := ⟨RX6, "count", "(I)I"⟩
abbrev cX6_scarcest : ByteArray := prog_1_method_11_code
def yX6_scarcest : MethodName := ⟨RX6, "scarcest", "()I"⟩
abbrev cX6_doneIn : ByteArray := prog_1_method_12_code
def yX6_doneIn : MethodName := ⟨RX6, "doneIn", "(I)I"⟩
abbrev cX6_withFixer : ByteArray := prog_1_method_13_code
def yX6_withFixer : MethodName := ⟨RX6, "withFixer", "(III)I"⟩
abbrev cX6_bestCare : ByteArray := prog_1_method_14_code
def yX6_bestCare : MethodName := ⟨RX6, "bestCare", "(I)I"⟩
abbrev cX6_put : ByteArray := prog_1_method_15_code
def yX6_put : MethodName := ⟨RX6, "put", "(J)I"⟩
abbrev cX6_wipe : ByteArray := prog_1_method_16_code
def yX6_wipe : MethodName := ⟨RX6, "wipe", "()I"⟩
abbrev cX6_fault : ByteArray := prog_1_method_17_code
def yX6_fault : MethodName := ⟨RX6, "fault", "()I"⟩
abbrev cX6_carryOut : ByteArray := prog_1_method_18_code
def yX6_carryOut : MethodName := ⟨RX6, "carryOut", "()I"⟩
abbrev cX6_undo : ByteArray := prog_1_method_19_code
def yX6_undo : MethodName := ⟨RX6, "undo", "()I"⟩
abbrev cX6_save : ByteArray := prog_1_method_20_code
def yX6_save : MethodName := ⟨RX6, "save", "(I)I"⟩
abbrev cX6_restore : ByteArray := prog_1_method_21_code
def yX6_restore : MethodName := ⟨RX6, "restore", "(I)I"⟩
abbrev cX6_kept : ByteArray := prog_1_method_22_code
def yX6_kept : MethodName := ⟨RX6, "kept", "(I)I"⟩
abbrev cX6_repairedWith : ByteArray := prog_1_method_23_code
def yX6_repairedWith : MethodName := ⟨RX6, "repairedWith", "(III)I"⟩
abbrev cX6_carryOrder : ByteArray := prog_1_method_24_code
def yX6_carryOrder : MethodName := ⟨RX6, "carryOrder", "()I"⟩
abbrev cX6_signsIn : ByteArray := prog_1_method_25_code
def yX6_signsIn : MethodName := ⟨RX6, "signsIn", "(J)I"⟩
abbrev cX6_isFixer : ByteArray := prog_1_method_26_code
def yX6_isFixer : MethodName := ⟨RX6, "isFixer", "(II)Z"⟩
abbrev cX6_isWhatIf : ByteArray := prog_1_method_27_code
def yX6_isWhatIf : MethodName := ⟨RX6, "isWhatIf", "(I)Z"⟩
abbrev cX6_isIn : ByteArray := prog_1_method_28_code
def yX6_isIn : MethodName := ⟨RX6, "isIn", "(II)Z"⟩
abbrev cX6_partsOf : ByteArray := prog_1_method_29_code
def yX6_partsOf : MethodName := ⟨RX6, "partsOf", "(I)I"⟩
def RX7 : String := "DonorPartsModel"
def TX7 : u_T := fun k => match k with
  | 0 => ("DonorPartsModel", "thrown", "I", false)
  | 1 => ("DonorPartsModel", "s", "[I", true)
  | 2 => ("DonorPartsModel", "aside", "[I", true)
  | 3 => ("DonorPartsModel", "undos", "[I", true)
  | 4 => ("DonorPartsModel", "undoMany", "I", false)
  | 5 => ("DonorPartsModel", "slots", "[I", true)
  | 6 => ("DonorPartsModel", "hasSlot", "[Z", true)
  | 7 => ("DonorPartsModel", "pad", "[I", true)
  | 8 => ("DonorPartsModel", "length", "I", false)
  | 9 => ("DonorPartsModel", "at", "I", false)
  | 10 => ("DonorPartsModel", "isWell", "Z", false)
  | 11 => ("DonorPartsModel", "orders", "[I", true)
  | _ => ("DonorPartsModel", "orderMany", "I", false)
def tyX7 : Nat → FieldType := fun k => match k with
  | 0 => .int
  | 1 => .array .int
  | 2 => .array .int
  | 3 => .array .int
  | 4 => .int
  | 5 => .array .int
  | 6 => .array .boolean
  | 7 => .array .int
  | 8 => .int
  | 9 => .int
  | 10 => .boolean
  | 11 => .array .int
  | _ => .int
abbrev wsX70 : List Cond := u_ws RX7 TX7 13
theorem nmX7 : ∀ a, a < 13 → ∀ b, b < 13 → a ≠ b → (TX7 a).2.1 ≠ (TX7 b).2.1 := by decide +kernel
theorem tyX7_ok : ∀ k, k < 13 → parseFieldDescriptor (TX7 k).2.2.1 = some (tyX7 k) := by decide +kernel
abbrev cX7_init : ByteArray := prog_9_method_1_code
def yX7_init : MethodName := ⟨RX7, "<init>", "()V"⟩
abbrev cX7_in : ByteArray := prog_9_method_3_code
def yX7_in : MethodName := ⟨RX7, "in", "(III)Z"⟩
abbrev cX7_of : ByteArray := prog_9_method_4_code
def yX7_of : MethodName := ⟨RX7, "of", "(II)I"⟩
abbrev cX7_lay : ByteArray := prog_9_method_5_code
def yX7_lay : MethodName := ⟨RX7, "lay", "(III)V"⟩
abbrev cX7_fixer0 : ByteArray := prog_9_method_6_code
def yX7_fixer0 : MethodName := ⟨RX7, "fixer0", "(II)I"⟩
abbrev cX7_more : ByteArray := prog_9_method_7_code
def yX7_more : MethodName := ⟨RX7, "more", "(II)V"⟩
abbrev cX7_records : ByteArray := prog_9_method_8_code
def yX7_records : MethodName := ⟨RX7, "records", "()V"⟩
abbrev cX7_putAside : ByteArray := prog_9_method_9_code
def yX7_putAside : MethodName := ⟨RX7, "putAside", "()V"⟩
abbrev cX7_takeBack : ByteArray := prog_9_method_10_code
def yX7_takeBack : MethodName := ⟨RX7, "takeBack", "()V"⟩
abbrev cX7_partsOf : ByteArray := prog_9_method_11_code
def yX7_partsOf : MethodName := ⟨RX7, "partsOf", "(I)I"⟩
abbrev cX7_lowest : ByteArray := prog_9_method_12_code
def yX7_lowest : MethodName := ⟨RX7, "lowest", "(I)I"⟩
abbrev cX7_strips : ByteArray := prog_9_method_13_code
def yX7_strips : MethodName := ⟨RX7, "strips", "(I)I"⟩
abbrev cX7_nextFor : ByteArray := prog_9_method_14_code
def yX7_nextFor : MethodName := ⟨RX7, "nextFor", "(I)I"⟩
abbrev cX7_fixerOf : ByteArray := prog_9_method_15_code
def yX7_fixerOf : MethodName := ⟨RX7, "fixerOf", "(I)I"⟩
abbrev cX7_frees : ByteArray := prog_9_method_16_code
def yX7_frees : MethodName := ⟨RX7, "frees", "(I)V"⟩
abbrev cX7_givesUp : ByteArray := prog_9_method_17_code
def yX7_givesUp : MethodName := ⟨RX7, "givesUp", "(II)V"⟩
abbrev cX7_exchanges : ByteArray := prog_9_method_18_code
def yX7_exchanges : MethodName := ⟨RX7, "exchanges", "(I)Z"⟩
abbrev cX7_tests : ByteArray := prog_9_method_19_code
def yX7_tests : MethodName := ⟨RX7, "tests", "(II)Z"⟩
abbrev cX7_works : ByteArray := prog_9_method_20_code
def yX7_works : MethodName := ⟨RX7, "works", "(I)V"⟩
abbrev cX7_takes : ByteArray := prog_9_method_21_code
def yX7_takes : MethodName := ⟨RX7, "takes", "(I)V"⟩
abbrev cX7_minute : ByteArray := prog_9_method_22_code
def yX7_minute : MethodName := ⟨RX7, "minute", "()V"⟩
abbrev cX7_withHow : ByteArray := prog_9_method_23_code
def yX7_withHow : MethodName := ⟨RX7, "withHow", "(I)I"⟩
abbrev cX7_minutes : ByteArray := prog_9_method_24_code
def yX7_minutes : MethodName := ⟨RX7, "minutes", "(I)I"⟩
abbrev cX7_refusesThing : ByteArray := prog_9_method_25_code
def yX7_refusesThing : MethodName := ⟨RX7, "refusesThing", "(IIII)I"⟩
abbrev cX7_comes : ByteArray := prog_9_method_26_code
def yX7_comes : MethodName := ⟨RX7, "comes", "(IIII)I"⟩
abbrev cX7_thing : ByteArray := prog_9_method_27_code
def yX7_thing : MethodName := ⟨RX7, "thing", "(IIII)I"⟩
abbrev cX7_refusesFixer : ByteArray := prog_9_method_28_code
def yX7_refusesFixer : MethodName := ⟨RX7, "refusesFixer", "(II)I"⟩
abbrev cX7_comesFixer : ByteArray := prog_9_method_29_code
def yX7_comesFixer : MethodName := ⟨RX7, "comesFixer", "(II)I"⟩
abbrev cX7_fixer : ByteArray := prog_9_method_30_code
def yX7_fixer : MethodName := ⟨RX7, "fixer", "(II)I"⟩
abbrev cX7_refusesDrawer : ByteArray := prog_9_method_31_code
def yX7_refusesDrawer : MethodName := ⟨RX7, "refusesDrawer", "(II)I"⟩
abbrev cX7_drawer : ByteArray := prog_9_method_32_code
def yX7_drawer : MethodName := ⟨RX7, "drawer", "(II)I"⟩
abbrev cX7_isThing : ByteArray := prog_9_method_33_code
def yX7_isThing : MethodName := ⟨RX7, "isThing", "(I)Z"⟩
abbrev cX7_giveUp : ByteArray := prog_9_method_34_code
def yX7_giveUp : MethodName := ⟨RX7, "giveUp", "(I)I"⟩
abbrev cX7_refusesPass : ByteArray := prog_9_method_35_code
def yX7_refusesPass : MethodName := ⟨RX7, "refusesPass", "(I)I"⟩
abbrev cX7_pass : ByteArray := prog_9_method_36_code
def yX7_pass : MethodName := ⟨RX7, "pass", "(I)I"⟩
abbrev cX7_placeOf : ByteArray := prog_9_method_37_code
def yX7_placeOf : MethodName := ⟨RX7, "placeOf", "(I)I"⟩
abbrev cX7_ofThing : ByteArray := prog_9_method_38_code
def yX7_ofThing : MethodName := ⟨RX7, "ofThing", "(II)I"⟩
abbrev cX7_ofFixer : ByteArray := prog_9_method_39_code
def yX7_ofFixer : MethodName := ⟨RX7, "ofFixer", "(II)I"⟩
abbrev cX7_brokenOnes : ByteArray := prog_9_method_40_code
def yX7_brokenOnes : MethodName := ⟨RX7, "brokenOnes", "(I)I"⟩
abbrev cX7_ofPart : ByteArray := prog_9_method_41_code
def yX7_ofPart : MethodName := ⟨RX7, "ofPart", "(II)I"⟩
abbrev cX7_count : ByteArray := prog_9_method_42_code
def yX7_count : MethodName := ⟨RX7, "count", "(I)I"⟩
abbrev cX7_scarcest : ByteArray := prog_9_method_43_code
def yX7_scarcest : MethodName := ⟨RX7, "scarcest", "()I"⟩
abbrev cX7_doneIn : ByteArray := prog_9_method_44_code
def yX7_doneIn : MethodName := ⟨RX7, "doneIn", "(I)I"⟩
abbrev cX7_repairedWith : ByteArray := prog_9_method_45_code
def yX7_repairedWith : MethodName := ⟨RX7, "repairedWith", "(III)I"⟩
abbrev cX7_withFixer : ByteArray := prog_9_method_46_code
def yX7_withFixer : MethodName := ⟨RX7, "withFixer", "(III)I"⟩
abbrev cX7_bestCare : ByteArray := prog_9_method_47_code
def yX7_bestCare : MethodName := ⟨RX7, "bestCare", "(I)I"⟩
abbrev cX7_put : ByteArray := prog_9_method_48_code
def yX7_put : MethodName := ⟨RX7, "put", "(J)I"⟩
abbrev cX7_wipe : ByteArray := prog_9_method_49_code
def yX7_wipe : MethodName := ⟨RX7, "wipe", "()I"⟩
abbrev cX7_sign : ByteArray := prog_9_method_50_code
def yX7_sign : MethodName := ⟨RX7, "sign", "()I"⟩
abbrev cX7_takesSign : ByteArray := prog_9_method_51_code
def yX7_takesSign : MethodName := ⟨RX7, "takesSign", "(I)Z"⟩
abbrev cX7_digit : ByteArray := prog_9_method_52_code
def yX7_digit : MethodName := ⟨RX7, "digit", "(I)I"⟩
abbrev cX7_digits : ByteArray := prog_9_method_53_code
def yX7_digits : MethodName := ⟨RX7, "digits", "(I)I"⟩
abbrev cX7_number : ByteArray := prog_9_method_54_code
def yX7_number : MethodName := ⟨RX7, "number", "()I"⟩
abbrev cX7_readsOrder : ByteArray := prog_9_method_55_code
def yX7_readsOrder : MethodName := ⟨RX7, "readsOrder", "()V"⟩
abbrev cX7_reads : ByteArray := prog_9_method_56_code
def yX7_reads : MethodName := ⟨RX7, "reads", "()I"⟩
abbrev cX7_fault : ByteArray := prog_9_method_57_code
def yX7_fault : MethodName := ⟨RX7, "fault", "()I"⟩
abbrev cX7_refuses : ByteArray := prog_9_method_58_code
def yX7_refuses : MethodName := ⟨RX7, "refuses", "(I)I"⟩
abbrev cX7_does : ByteArray := prog_9_method_59_code
def yX7_does : MethodName := ⟨RX7, "does", "(I)V"⟩
abbrev cX7_carryOut : ByteArray := prog_9_method_60_code
def yX7_carryOut : MethodName := ⟨RX7, "carryOut", "()I"⟩
abbrev cX7_undo : ByteArray := prog_9_method_61_code
def yX7_undo : MethodName := ⟨RX7, "undo", "()I"⟩
abbrev cX7_save : ByteArray := prog_9_method_62_code
def yX7_save : MethodName := ⟨RX7, "save", "(I)I"⟩
abbrev cX7_restore : ByteArray := prog_9_method_63_code
def yX7_restore : MethodName := ⟨RX7, "restore", "(I)I"⟩
def RJ9 : String := "java/lang/Math"
abbrev cJ9_min_7cf53 : ByteArray := prog_10_method_69_code
def yJ9_min_7cf53 : MethodName := ⟨RJ9, "min", "(II)I"⟩
def RL : String := "DonorPartsLaw"
abbrev cL_law : ByteArray := code
def yL_law : MethodName := ⟨RL, "law", "([I)Z"⟩
abbrev vwCl : List vw_C := [(RX0, TX0, 6), (RX1, TX1, 6), (RX2, TX2, 8), (RX3, TX3, 3), (RX4, TX4, 3), (RX5, TX5, 8), (RX6, TX6, 5), (RX7, TX7, 13)]
end
section
/-! one flat memory: a place is a number (in the order of making), a field or an element a second one; ints and references apart. A world of the kit is read off it. -/
abbrev q_Mth : Type := MethodName × ByteArray × Nat × Option FieldType
abbrev q_Kd : Type := Nat ⊕ (Nat × Nat)
abbrev q_Mem : Type := Nat → Nat → Int32
abbrev q_Sh : Type := Nat × (Nat → q_Kd) × (Nat → Nat → Option Nat)
def q_cv (ad : Nat → Nat) : Value → Value
  | .ref a => .ref (ad a)
  | .int x => .int x
  | .long x => .long x
  | .null => .null
  | v => v
def q_ty : Nat → Nat → FieldType
  | 0 => tyX0
  | 1 => tyX1
  | 2 => tyX2
  | 3 => tyX3
  | 4 => tyX4
  | 5 => tyX5
  | 6 => tyX6
  | _ => tyX7
def q_N : Nat → Nat
  | 0 => 6
  | 1 => 6
  | 2 => 8
  | 3 => 3
  | 4 => 3
  | 5 => 8
  | 6 => 5
  | _ => 13
def q_tys (cA : Nat → ClassId) : List (ClassId × FieldType) := [(cA 0, .int), (cA 1, .boolean), (cA 2, .char), (cA 3, .object RX5), (cA 4, .object RX1), (cA 5, .object RX3), (cA 6, .object RX0)]
def q_isR : FieldType → Bool
  | .object _ => true
  | .array _ => true
  | _ => false
def q_fv (ad : Nat → Nat) (I : q_Mem) (R : Nat → Nat → Option Nat) (l ci k : Nat) : Value := if q_isR (q_ty ci k) = true then va_rf ((R l k).map ad) else .int (I l k)
def q_E (cA : Nat → ClassId) (ad : Nat → Nat) (K : Nat → q_Kd) (R : Nat → Nat → Option Nat) (I : q_Mem) (l : Nat) : va_E := match K l with
  | .inl ci => .inr (ci, (List.range (q_N ci)).map (fun k => q_fv ad I R l ci k))
  | .inr (t, n) => .inl (cA t, n, if t < 3 then .inl (I l) else .inr (.inr (.inr (.inr (fun j => (R l j).map ad)))))
def q_ws (cA : Nat → ClassId) (ad : Nat → Nat) (Sh : q_Sh) (I : q_Mem) : va_W := (List.range Sh.1).map (fun l => (ad l, q_E cA ad Sh.2.1 Sh.2.2 I l))
def q_is (Sh : q_Sh) (l ci : Nat) : Prop := l < Sh.1 ∧ Sh.2.1 l = .inl ci
def q_ar (Sh : q_Sh) (l t n : Nat) : Prop := l < Sh.1 ∧ Sh.2.1 l = .inr (t, n)
def q_upI (I : q_Mem) (l k : Nat) (v : Int32) : q_Mem := fun a b => if a = l ∧ b = k then v else I a b
def q_upR (R : Nat → Nat → Option Nat) (l k : Nat) (v : Option Nat) : Nat → Nat → Option Nat := fun a b => if a = l ∧ b = k then v else R a b
/-- the words that every method's contract asks for -/
def q_WS : List Cond := lw_tbl.filter goodWord
theorem q_mem {w : Cond} (i : Nat) (h : lw_tbl[i]? = some w) (hg : goodWord w = true) : w ∈ q_WS := List.mem_filter.mpr ⟨List.mem_of_getElem? h, hg⟩
def q_ws1 (Y : q_Mth) : List Cond := .code Y.1 Y.2.1 Y.2.2.1 Y.2.2.2 :: q_WS
theorem q_good {Ts : List Cond} (h : ∀ w ∈ q_WS, w ∈ Ts) : GoodIn Ts q_WS := fun w hw => ⟨h w hw, good_of_word (List.mem_filter.mp hw).2⟩
/-- words that warming keeps by laws of their own -/
def q_nl : List Cond := [.methodLinkNest RX0 39 yX5_init RX6, .methodLinkNest RX0 40 yX1_init RX6, .methodLinkNest RX0 41 yX3_init RX6, .methodLinkNest RX6 32 yX2_init RX6, .methodLinkNest RX0 64 yX6_partsOf RX6, .methodLinkNest RX0 72 yX6_isFixer RX6, .methodLinkNest RX0 150 yX6_isIn RX6]
def q_al : List String := [RX0, RX1, RX3, RX5]
def q_ext (U : State) : Prop := (∀ w ∈ q_nl, va_Nw w U) ∧ (∀ C ∈ q_al, va_AO C U)
theorem q_ext_moved {s U : State} (hW : s.WarmedH U.vm) (h : q_ext s) : q_ext U := by
  refine ⟨fun w hw => ?_, fun C hC => (h.2 C hC).moved hW.alike⟩
  have h1 := h.1 w hw
  simp only [q_nl, List.mem_cons, List.not_mem_nil, or_false] at hw
  rcases hw with rfl | rfl | rfl | rfl | rfl | rfl | rfl <;> exact va_Nw.warmM hW h1
theorem q_ext_calling {U : State} (g : JFrame) (mk : MethodId) (a : Array Value) (h : q_ext U) : q_ext (U.calling g mk a) := by
  refine ⟨fun w hw => ?_, fun C hC => (h.2 C hC).moved (Vm.Alike.refl U.vm)⟩
  have h1 := h.1 w hw
  simp only [q_nl, List.mem_cons, List.not_mem_nil, or_false] at hw
  rcases hw with rfl | rfl | rfl | rfl | rfl | rfl | rfl <;> exact va_Nw.same rfl rfl h1
/-! reading and setting a world at a place -/
theorem q_ws_at {cA : Nat → ClassId} {ad : Nat → Nat} {Sh : q_Sh} {I : q_Mem} {l : Nat} (h : l < Sh.1) : (q_ws cA ad Sh I)[l]? = some (ad l, q_E cA ad Sh.2.1 Sh.2.2 I l) := by
  simp [q_ws, h]
theorem q_E_obj {cA : Nat → ClassId} {ad : Nat → Nat} {K : Nat → q_Kd} {R : Nat → Nat → Option Nat} {I : q_Mem} {l ci : Nat} (h : K l = .inl ci) : q_E cA ad K R I l = .inr (ci, (List.range (q_N ci)).map (fun k => q_fv ad I R l ci k)) := by
  unfold q_E; rw [h]
theorem q_E_arr {cA : Nat → ClassId} {ad : Nat → Nat} {K : Nat → q_Kd} {R : Nat → Nat → Option Nat} {I : q_Mem} {l t n : Nat} (h : K l = .inr (t, n)) : q_E cA ad K R I l = .inl (cA t, n, if t < 3 then .inl (I l) else .inr (.inr (.inr (.inr (fun j => (R l j).map ad))))) := by
  unfold q_E; rw [h]
theorem q_fs_at {ad : Nat → Nat} {I : q_Mem} {R : Nat → Nat → Option Nat} {l ci k : Nat} (h : k < q_N ci) : ((List.range (q_N ci)).map (fun k => q_fv ad I R l ci k))[k]? = some (q_fv ad I R l ci k) := by
  simp [h]
theorem q_map_set {α : Type} {n i : Nat} {f g : Nat → α} {x : α} (hx : g i = x) (ho : ∀ j, j ≠ i → g j = f j) : ((List.range n).map f).set i x = (List.range n).map g := by
  apply List.ext_getElem?
  intro j
  rw [List.getElem?_set]
  by_cases hj : i = j
  · subst hj
    by_cases hi : i < n
    · simp [hi, hx]
    · simp [hi]
  · simp [hj]
    by_cases hi : j < n
    · simp [hi, ho j (Ne.symm hj)]
    · simp [hi]
theorem q_E_other {cA : Nat → ClassId} {ad : Nat → Nat} {K : Nat → q_Kd} {R : Nat → Nat → Option Nat} {I : q_Mem} {l k j : Nat} {v : Int32} (h : j ≠ l) : q_E cA ad K R (q_upI I l k v) j = q_E cA ad K R I j := by
  have e : q_upI I l k v j = I j := by funext b; simp [q_upI, h]
  unfold q_E q_fv
  simp only [e]
theorem q_E_otherR {cA : Nat → ClassId} {ad : Nat → Nat} {K : Nat → q_Kd} {R : Nat → Nat → Option Nat} {I : q_Mem} {l k j : Nat} {v : Option Nat} (h : j ≠ l) : q_E cA ad K (q_upR R l k v) I j = q_E cA ad K R I j := by
  have e : q_upR R l k v j = R j := by funext b; simp [q_upR, h]
  unfold q_E q_fv
  simp only [e]
theorem q_ws_put {cA : Nat → ClassId} {ad : Nat → Nat} {Sh : q_Sh} {I : q_Mem} {l ci k : Nat} {v : Int32} (hK : Sh.2.1 l = .inl ci) (hr : q_isR (q_ty ci k) = false) :
    (q_ws cA ad Sh I).set l (ad l, .inr (ci, ((List.range (q_N ci)).map (fun k => q_fv ad I Sh.2.2 l ci k)).set k (.int v))) = q_ws cA ad Sh (q_upI I l k v) := by
  refine q_map_set ?_ (fun j hj => by rw [q_E_other hj])
  rw [q_E_obj hK]
  congr 3
  symm
  refine q_map_set ?_ (fun j hj => ?_)
  · simp [q_fv, hr, q_upI]
  · simp [q_fv, q_upI, hj]
theorem q_ws_putR {cA : Nat → ClassId} {ad : Nat → Nat} {Sh : q_Sh} {I : q_Mem} {l ci k : Nat} {v : Option Nat} (hK : Sh.2.1 l = .inl ci) (hr : q_isR (q_ty ci k) = true) :
    (q_ws cA ad Sh I).set l (ad l, .inr (ci, ((List.range (q_N ci)).map (fun k => q_fv ad I Sh.2.2 l ci k)).set k (va_rf (v.map ad)))) = q_ws cA ad (Sh.1, Sh.2.1, q_upR Sh.2.2 l k v) I := by
  refine q_map_set ?_ (fun j hj => by rw [q_E_otherR hj])
  rw [q_E_obj hK]
  congr 3
  symm
  refine q_map_set ?_ (fun j hj => ?_)
  · simp [q_fv, hr, q_upR]
  · simp [q_fv, q_upR, hj]
theorem q_ws_ast {cA : Nat → ClassId} {ad : Nat → Nat} {Sh : q_Sh} {I : q_Mem} {l t n k : Nat} {v : Int32} (hK : Sh.2.1 l = .inr (t, n)) (ht : t < 3) :
    (q_ws cA ad Sh I).set l (ad l, .inl (cA t, n, .inl (upd (I l) k v))) = q_ws cA ad Sh (q_upI I l k v) := by
  refine q_map_set ?_ (fun j hj => by rw [q_E_other hj])
  have e : upd (I l) k v = q_upI I l k v l := funext fun b => by simp [upd, q_upI]
  rw [q_E_arr hK, if_pos ht, e]
theorem q_ws_astq {cA : Nat → ClassId} {ad : Nat → Nat} {Sh : q_Sh} {I : q_Mem} {l t n k : Nat} {v : Nat} (hK : Sh.2.1 l = .inr (t, n)) (ht : ¬ t < 3) :
    (q_ws cA ad Sh I).set l (ad l, .inl (cA t, n, .inr (.inr (.inr (.inr (va_up (fun j => (Sh.2.2 l j).map ad) k (some (ad v)))))))) = q_ws cA ad (Sh.1, Sh.2.1, q_upR Sh.2.2 l k (some v)) I := by
  refine q_map_set ?_ (fun j hj => by rw [q_E_otherR hj])
  have e : va_up (fun j => (Sh.2.2 l j).map ad) k (some (ad v)) = fun j => (q_upR Sh.2.2 l k (some v) l j).map ad := funext fun b => by
    by_cases hb : b = k
    · simp [va_up, q_upR, hb]
    · simp [va_up, q_upR, hb]
  rw [q_E_arr hK, if_neg ht, e]
/-! where a walk stands -/
abbrev q_Cx : Type := Program × Launch × Env × Room × State × MethodId × Array Value × List Frame × Method × Code × va_G × (Nat → ClassId) × (Nat → Prop) × (State → Prop) × (Nat × Nat) × Nat × (Nat → Nat)
abbrev q_p (Γ : q_Cx) := Γ.1
abbrev q_l (Γ : q_Cx) := Γ.2.1
abbrev q_e (Γ : q_Cx) := Γ.2.2.1
abbrev q_R (Γ : q_Cx) := Γ.2.2.2.1
abbrev q_s (Γ : q_Cx) := Γ.2.2.2.2.1
abbrev q_m (Γ : q_Cx) := Γ.2.2.2.2.2.1
abbrev q_args (Γ : q_Cx) := Γ.2.2.2.2.2.2.1
abbrev q_below (Γ : q_Cx) := Γ.2.2.2.2.2.2.2.1
abbrev q_meth (Γ : q_Cx) := Γ.2.2.2.2.2.2.2.2.1
abbrev q_c (Γ : q_Cx) := Γ.2.2.2.2.2.2.2.2.2.1
abbrev q_D (Γ : q_Cx) := Γ.2.2.2.2.2.2.2.2.2.2.1
abbrev q_cA (Γ : q_Cx) := Γ.2.2.2.2.2.2.2.2.2.2.2.1
abbrev q_A (Γ : q_Cx) := Γ.2.2.2.2.2.2.2.2.2.2.2.2.1
abbrev q_Q (Γ : q_Cx) := Γ.2.2.2.2.2.2.2.2.2.2.2.2.2.1
abbrev q_bud (Γ : q_Cx) := Γ.2.2.2.2.2.2.2.2.2.2.2.2.2.2.1
abbrev q_n0 (Γ : q_Cx) := Γ.2.2.2.2.2.2.2.2.2.2.2.2.2.2.2.1
abbrev q_ad0 (Γ : q_Cx) := Γ.2.2.2.2.2.2.2.2.2.2.2.2.2.2.2.2
/-- the addresses of what was there at the start stay; nothing made: all stay -/
def q_grow (n0 : Nat) (ad0 : Nat → Nat) (n : Nat) (ad : Nat → Nat) : Prop := n0 ≤ n ∧ (∀ l, l < n0 → ad l = ad0 l) ∧ (n = n0 → ad = ad0)
theorem q_grow_rf {n : Nat} {ad : Nat → Nat} : q_grow n ad n ad := ⟨Nat.le_refl _, fun _ _ => rfl, fun _ => rfl⟩
theorem q_grow_tr {n0 n1 n2 : Nat} {a0 a1 a2 : Nat → Nat} (h : q_grow n0 a0 n1 a1) (k : q_grow n1 a1 n2 a2) : q_grow n0 a0 n2 a2 :=
  ⟨Nat.le_trans h.1 k.1, fun l hl => (k.2.1 l (Nat.lt_of_lt_of_le hl h.1)).trans (h.2.1 l hl), fun e => by
    have e1 : n1 = n0 := Nat.le_antisymm (e ▸ k.1) h.1
    exact (k.2.2 (e.trans e1.symm)).trans (h.2.2 e1)⟩
def q_lvm (ad : Nat → Nat) (lv : List (Nat × Value)) : List (Nat × Value) := lv.map (fun q => (q.1, q_cv ad q.2))
def q_W (Γ : q_Cx) (Y : q_Mth) (rc rs : Nat) (Sh : q_Sh) (I : q_Mem) (pc : Nat) (lv : List (Nat × Value)) (st : List Value) : Prop :=
  ∀ (ad : Nat → Nat) (H : Heap) (locs : List Loc) (cells slots : Nat) (ls : Array Slot),
    cells + rc ≤ (q_bud Γ).1 → slots + rs ≤ (q_bud Γ).2 →
    va_P (q_D Γ) vwCl (q_ws (q_cA Γ) ad Sh I) H → va_D (q_A Γ) (q_ws (q_cA Γ) ad Sh I) → va_S (q_A Γ) (q_s Γ).heap H locs →
    q_grow (q_n0 Γ) (q_ad0 Γ) Sh.1 ad → lv_has ls Y.2.2.1 (q_lvm ad lv) →
    W (q_p Γ) (q_l Γ) (q_e Γ) (q_R Γ) (q_s Γ) (q_m Γ) (q_args Γ) (q_below Γ) (q_meth Γ) (q_c Γ) H locs cells slots (q_Q Γ) (F0 (q_m Γ) pc ls (st.map (q_cv ad)))
def q_Ok (Γ : q_Cx) (Y : q_Mth) (d : Nat) : Prop :=
  (q_p Γ).tables.exec = Jvm.exec ∧ (q_c Γ).code = Y.2.1 ∧ (q_c Γ).maxLocals = Y.2.2.1 ∧ (q_s Γ).vm.findClass Y.1.cls = some (q_m Γ).cls ∧ (∀ w ∈ q_WS, w.before (q_args Γ) (q_s Γ) = true) ∧
  (q_meth Γ).locks = false ∧ va_K (q_D Γ) vwCl (q_tys (q_cA Γ)) (q_s Γ) ∧ (∀ q : Nat, (q_s Γ).heap.size ≤ q → q_A Γ q) ∧ q_ext (q_s Γ) ∧ ((q_bud Γ).1 ≤ (q_R Γ).cells ∧ (q_bud Γ).2 ≤ (q_R Γ).slots) ∧
  (q_meth Γ).name = Y.1.name ∧ d ≤ (q_R Γ).frames ∧ 30 * d ≤ (q_R Γ).locals
/-- a method's end -/
def q_Qc (D : va_G) (cA : Nat → ClassId) (n0 : Nat) (ad0 : Nat → Nat) (K : Option Value → q_Sh → q_Mem → Prop) (A : Nat → Prop) : Array Value → State → Outcome → State → Prop := fun _ st oc t =>
  (∃ (v : Option Value) (Sh : q_Sh) (I : q_Mem) (ad : Nat → Nat), oc = .returned (v.map (q_cv ad)) ∧ K v Sh I ∧ q_grow n0 ad0 Sh.1 ad ∧ va_P D vwCl (q_ws cA ad Sh I) t.heap ∧ va_D A (q_ws cA ad Sh I)) ∧ va_F A st t
def q_rm (d mc ms : Nat) : Room := { frames := d, cells := mc, slots := ms, locals := 30 * d }
def q_Pc (D : va_G) (cA : Nat → ClassId) (ad : Nat → Nat) (sz : Nat) (args : List Value) (Sh : q_Sh) (I : q_Mem) : Array Value → State → Prop :=
  va_Pc (args.map (q_cv ad)) (fun U => U.heap.size = sz ∧ va_P D vwCl (q_ws cA ad Sh I) U.heap ∧ va_K D vwCl (q_tys cA) U ∧ va_D (fun _ => True) (q_ws cA ad Sh I) ∧ q_ext U)
/-- method Y, called with args in the memory (Sh, I), returns, and K holds of its answer and the memory then; at most d frames, mc cells, ms slots -/
def q_Call (Y : q_Mth) (d mc ms : Nat) (args : List Value) (Sh : q_Sh) (I : q_Mem) (K : Option Value → q_Sh → q_Mem → Prop) : Prop :=
  ∀ (l : Launch) (D : va_G) (cA : Nat → ClassId) (ad : Nat → Nat) (sz : Nat),
    Met l Y.1 (q_ws1 Y) (q_rm d mc ms) (q_Pc D cA ad sz args Sh I) (q_Qc D cA Sh.1 ad K (va_A (q_ws cA ad Sh I) sz)) mc ms (va_A (q_ws cA ad Sh I) sz)
def q_OkM (Γ : q_Cx) (Y : q_Mth) (d : Nat) (K : Option Value → q_Sh → q_Mem → Prop) : Prop :=
  q_Ok Γ Y d ∧ (q_meth Γ).sig.returnType = Y.2.2.2 ∧ q_Q Γ = MQ (q_below Γ) (q_Qc (q_D Γ) (q_cA Γ) (q_n0 Γ) (q_ad0 Γ) K (q_A Γ)) (q_args Γ) (q_s Γ) (q_bud Γ).1 (q_bud Γ).2 (q_A Γ)
theorem q_sl_len (ad : Nat → Nat) (vs : List Value) : (lg_sl (vs.map (q_cv ad))).length = (lg_sl vs).length := by
  induction vs with
  | nil => rfl
  | cons v t ih =>
    have hc : (q_cv ad v).category = v.category := by cases v <;> rfl
    simp only [lg_sl, List.map_cons, List.flatMap_cons, List.length_append] at ih ⊢
    rw [ih, hc]
    by_cases h : v.category = 2 <;> simp [h]
theorem q_cat (ad : Nat → Nat) (v : Value) : (q_cv ad v).category = v.category := by cases v <;> rfl
theorem q_args_map (ad : Nat → Nat) (vs : List Value) : ∀ i, lv_args i (vs.map (q_cv ad)) = q_lvm ad (lv_args i vs) := by
  induction vs with
  | nil => intro i; rfl
  | cons v t ih =>
    intro i
    simp only [List.map_cons, lv_args, q_lvm, q_cat] at ih ⊢
    rw [ih]
/-- a method's contract out of its walk -/
theorem q_call_of {Y : q_Mth} {d mc ms : Nat} {args : List Value} {Sh : q_Sh} {I : q_Mem} {K : Option Value → q_Sh → q_Mem → Prop} (hy : plainName Y.1.cls = true) (hn : (lg_sl args).length ≤ Y.2.2.1)
    (body : ∀ Γ : q_Cx, q_OkM Γ Y d K → q_W Γ Y mc ms Sh I 0 (lv_args 0 args) []) : q_Call Y d mc ms args Sh I K := by
  intro l D cA ad sz
  refine Met.ofW (cc := Y.2.1) (maxL := Y.2.2.1) (ret := Y.2.2.2) hy rfl ?_
  intro p e s m as below meth c s₁ B hml hv
  obtain ⟨rfl, hsz, hP, hK, hD0, hE⟩ := hv
  have hts0 := atoms_spec (ws := q_ws1 Y) B.pre
  have hown : s.vm.findClass Y.1.cls = some m.cls := findClass_of_methodNamed B.named
  have hin : meth.name = Y.1.name := (name_of_methodNamed B.named B.method).1
  subst hsz
  have hD := hD0.self (sz := s.heap.size)
  have h := body (p, l, e, q_rm d mc ms, s, m, (args.map (q_cv ad)).toArray, below, meth, c, D, cA, va_A (q_ws cA ad Sh I) s.heap.size, MQ below (q_Qc D cA Sh.1 ad K (va_A (q_ws cA ad Sh I) s.heap.size)) (args.map (q_cv ad)).toArray s mc ms (va_A (q_ws cA ad Sh I) s.heap.size), (mc, ms), Sh.1, ad)
    ⟨⟨B.exec, B.bytes, hml, hown, fun w hw => hts0 w (List.mem_cons_of_mem _ hw), B.notSynchronized, hK, fun q hq => Or.inr hq, hE, ⟨Nat.le_refl _, Nat.le_refl _⟩, hin, Nat.le_refl _, Nat.le_refl _⟩, B.returns, rfl⟩
  have hl := lv_entry (args.map (q_cv ad)) (n := Y.2.2.1) (by rw [q_sl_len]; exact hn)
  rw [lg_entry_eq]
  rw [q_args_map] at hl
  exact h ad s.heap [] 0 0 _ (by simp) (by simp) hP hD va_S.rf q_grow_rf hl
theorem q_call_mono {Y : q_Mth} {d mc ms : Nat} {args : List Value} {Sh : q_Sh} {I : q_Mem} {K K' : Option Value → q_Sh → q_Mem → Prop} (h : q_Call Y d mc ms args Sh I K) (hk : ∀ v Sh' I', K v Sh' I' → K' v Sh' I') : q_Call Y d mc ms args Sh I K' := by
  intro l D cA ad sz p e ha hc hk2 s m as below hf happ hp ht
  obtain ⟨k, o, h1, h2, h3, h4⟩ := h l D cA ad sz p e ha hc hk2 s m as below hf happ hp ht
  refine ⟨k, o, h1, h2, h3, ?_⟩
  obtain ⟨⟨⟨v, Sh', I', ad', g1, g2, g3⟩, g4⟩, g5⟩ := h4
  exact ⟨⟨⟨v, Sh', I', ad', g1, hk _ _ _ g2, g3⟩, g4⟩, g5⟩

section QROWS
variable {K0 : Option Value → q_Sh → q_Mem → Prop} {Γ : q_Cx} {Y : q_Mth} {d rc rs : Nat} {Sh : q_Sh} {I : q_Mem} {pc : Nat} {lv : List (Nat × Value)} {st : List Value}
/-! locals: looked up and set by computing -/
def q_lk : List (Nat × Value) → Nat → Option Value
  | [], _ => none
  | (j, v) :: t, i => bif Nat.beq j i then some v else q_lk t i
def q_rm1 : List (Nat × Value) → Nat → List (Nat × Value)
  | [], _ => []
  | (j, v) :: t, i => bif Nat.beq j i then q_rm1 t i else (j, v) :: q_rm1 t i
def q_set (lv : List (Nat × Value)) (i : Nat) (v : Value) : List (Nat × Value) := (i, v) :: q_rm1 lv i
theorem q_lk_mem {lv : List (Nat × Value)} {i : Nat} {v : Value} (h : q_lk lv i = some v) : (i, v) ∈ lv := by
  induction lv with
  | nil => cases h
  | cons a t ih =>
    obtain ⟨j, w⟩ := a
    unfold q_lk at h
    cases hb : Nat.beq j i with
    | true =>
      rw [hb] at h
      have e : j = i := Nat.eq_of_beq_eq_true hb
      subst e
      cases h
      exact List.mem_cons_self
    | false =>
      rw [hb] at h
      exact List.mem_cons_of_mem _ (ih h)
theorem q_lk_at {ad : Nat → Nat} {ls : Array Slot} {nL : Nat} {lv : List (Nat × Value)} {i : Nat} {v : Value} (hl : lv_has ls nL (q_lvm ad lv)) (h : q_lk lv i = some v) : ls[i]? = some (.val (q_cv ad v)) :=
  hl.2.2 (i, q_cv ad v) (List.mem_map.mpr ⟨(i, v), q_lk_mem h, rfl⟩)
theorem q_rm1_mem {lv : List (Nat × Value)} {i : Nat} {q : Nat × Value} (h : q ∈ q_rm1 lv i) : q ∈ lv ∧ q.1 ≠ i := by
  induction lv with
  | nil => cases h
  | cons a t ih =>
    obtain ⟨j, w⟩ := a
    unfold q_rm1 at h
    cases hb : Nat.beq j i with
    | true =>
      rw [hb] at h
      exact ⟨List.mem_cons_of_mem _ (ih h).1, (ih h).2⟩
    | false =>
      rw [hb] at h
      rcases List.mem_cons.mp h with e | h
      · subst e
        exact ⟨List.mem_cons_self, fun e => by simp at e; subst e; simp at hb⟩
      · exact ⟨List.mem_cons_of_mem _ (ih h).1, (ih h).2⟩
/-- no long stands at the place in front -/
def q_fr (lv : List (Nat × Value)) (i : Nat) : Bool := lv.all (fun q => !(Nat.beq (q.1 + 1) i && Nat.beq q.2.category 2))
theorem q_has_set {ad : Nat → Nat} {ls : Array Slot} {nL : Nat} {lv : List (Nat × Value)} {i : Nat} {v : Value} (h : lv_has ls nL ((i, q_cv ad v) :: (q_lvm ad lv).filter (fun q => !(q.1 == i) && !(q.1 + 1 == i && q.2.category == 2)))) (hf : q_fr lv i = true) : lv_has ls nL (q_lvm ad (q_set lv i v)) := by
  refine ⟨h.1, h.2.1, fun q hq => h.2.2 q ?_⟩
  obtain ⟨r, hr, rfl⟩ := List.mem_map.mp hq
  rcases List.mem_cons.mp hr with rfl | hr
  · exact List.mem_cons_self
  · obtain ⟨h1, h2⟩ := q_rm1_mem hr
    refine List.mem_cons_of_mem _ (List.mem_filter.mpr ⟨List.mem_map.mpr ⟨r, h1, rfl⟩, ?_⟩)
    have h3 := List.all_eq_true.mp hf r h1
    simp only [q_cat]
    simp only [Bool.not_eq_true', Bool.and_eq_false_iff] at h3
    have e1 : (r.1 == i) = false := by simpa using h2
    rw [e1]
    rcases h3 with h3 | h3
    · have : (r.1 + 1 == i) = false := by
        cases hx : (r.1 + 1 == i) with
        | false => rfl
        | true =>
          have e := eq_of_beq hx
          rw [e] at h3
          simp at h3
      rw [this]; rfl
    · have : (r.2.category == 2) = false := by
        cases hx : (r.2.category == 2) with
        | false => rfl
        | true =>
          have e := eq_of_beq hx
          rw [e] at h3
          simp at h3
      rw [this]; simp
theorem q_lv_exact {ad : Nat → Nat} {ls : Array Slot} {nL : Nat} {lv : List (Nat × Value)} (h : lv_has ls nL (q_lvm ad lv)) : ls.size = nL := h.1
/-! the same place: other locals by computing, other memory by an equality -/
theorem q_lvto {lv' : List (Nat × Value)} (h : lv'.all (fun q => (q_lk lv q.1).isSome) = true) (he : ∀ q ∈ lv', q_lk lv q.1 = some q.2) (k : q_W Γ Y rc rs Sh I pc lv' st) : q_W Γ Y rc rs Sh I pc lv st := by
  intro ad H locs cells slots ls h1 h2 hP hD hS hn hl
  refine k ad H locs cells slots ls h1 h2 hP hD hS hn ⟨hl.1, hl.2.1, fun q hq => ?_⟩
  obtain ⟨r, hr, rfl⟩ := List.mem_map.mp hq
  exact q_lk_at hl (he r hr)

theorem q_iconst (B : q_Ok Γ Y d) {n : Int} {v : Int32} (hd : decode Y.2.1 pc = .ok (.iconst n, 1)) (hv : Int32.ofInt n = v) (k : q_W Γ Y rc rs Sh I (pc + 1) lv (.int v :: st)) : q_W Γ Y rc rs Sh I pc lv (st) := by
  intro ad H locs cells slots ls h1 h2 hP hD hS hn hl
  exact lv_iconst B.1 B.2.1 hd hv (k ad H locs cells slots ls h1 h2 hP hD hS hn hl)
theorem q_bipush (B : q_Ok Γ Y d) {n : Int} {v : Int32} (hd : decode Y.2.1 pc = .ok (.bipush n, 2)) (hv : (Int8.ofInt n).toInt32 = v) (k : q_W Γ Y rc rs Sh I (pc + 2) lv (.int v :: st)) : q_W Γ Y rc rs Sh I pc lv (st) := by
  intro ad H locs cells slots ls h1 h2 hP hD hS hn hl
  exact lv_bipush B.1 B.2.1 hd hv (k ad H locs cells slots ls h1 h2 hP hD hS hn hl)
theorem q_sipush (B : q_Ok Γ Y d) {n : Int} {v : Int32} (hd : decode Y.2.1 pc = .ok (.sipush n, 3)) (hv : (Int16.ofInt n).toInt32 = v) (k : q_W Γ Y rc rs Sh I (pc + 3) lv (.int v :: st)) : q_W Γ Y rc rs Sh I pc lv (st) := by
  intro ad H locs cells slots ls h1 h2 hP hD hS hn hl
  exact lv_sipush B.1 B.2.1 hd hv (k ad H locs cells slots ls h1 h2 hP hD hS hn hl)
theorem q_lconst (B : q_Ok Γ Y d) {n : Fin 2} {v : Int64} (hd : decode Y.2.1 pc = .ok (.lconst n, 1)) (hv : Int64.ofNat (n : Nat) = v) (k : q_W Γ Y rc rs Sh I (pc + 1) lv (.long v :: st)) : q_W Γ Y rc rs Sh I pc lv (st) := by
  intro ad H locs cells slots ls h1 h2 hP hD hS hn hl
  exact lv_lconst B.1 B.2.1 hd hv (k ad H locs cells slots ls h1 h2 hP hD hS hn hl)
theorem q_null (B : q_Ok Γ Y d) (hd : decode Y.2.1 pc = .ok (.aconst_null, 1)) (k : q_W Γ Y rc rs Sh I (pc + 1) lv (.null :: st)) : q_W Γ Y rc rs Sh I pc lv (st) := by
  intro ad H locs cells slots ls h1 h2 hP hD hS hn hl
  exact lv_null B.1 B.2.1 hd (k ad H locs cells slots ls h1 h2 hP hD hS hn hl)
theorem q_iload_n (B : q_Ok Γ Y d) {j : Fin 4} {i : Nat} {x : Int32} (hd : decode Y.2.1 pc = .ok (.iload_n j, 1)) (hi : (j : Nat) = i) (hx : q_lk lv i = some (.int x)) (k : q_W Γ Y rc rs Sh I (pc + 1) lv (.int x :: st)) : q_W Γ Y rc rs Sh I pc lv (st) := by
  intro ad H locs cells slots ls h1 h2 hP hD hS hn hl
  exact lv_iload_n B.1 B.2.1 hd hi (q_lk_at hl hx) (k ad H locs cells slots ls h1 h2 hP hD hS hn hl)
theorem q_iload (B : q_Ok Γ Y d) {i : Nat} {x : Int32} (hd : decode Y.2.1 pc = .ok (.iload i, 2)) (hx : q_lk lv i = some (.int x)) (k : q_W Γ Y rc rs Sh I (pc + 2) lv (.int x :: st)) : q_W Γ Y rc rs Sh I pc lv (st) := by
  intro ad H locs cells slots ls h1 h2 hP hD hS hn hl
  exact lv_iload B.1 B.2.1 hd (q_lk_at hl hx) (k ad H locs cells slots ls h1 h2 hP hD hS hn hl)
theorem q_lload_n (B : q_Ok Γ Y d) {j : Fin 4} {i : Nat} {x : Int64} (hd : decode Y.2.1 pc = .ok (.lload_n j, 1)) (hi : (j : Nat) = i) (hx : q_lk lv i = some (.long x)) (k : q_W Γ Y rc rs Sh I (pc + 1) lv (.long x :: st)) : q_W Γ Y rc rs Sh I pc lv (st) := by
  intro ad H locs cells slots ls h1 h2 hP hD hS hn hl
  exact lv_lload_n B.1 B.2.1 hd hi (q_lk_at hl hx) (k ad H locs cells slots ls h1 h2 hP hD hS hn hl)
theorem q_lload (B : q_Ok Γ Y d) {i : Nat} {x : Int64} (hd : decode Y.2.1 pc = .ok (.lload i, 2)) (hx : q_lk lv i = some (.long x)) (k : q_W Γ Y rc rs Sh I (pc + 2) lv (.long x :: st)) : q_W Γ Y rc rs Sh I pc lv (st) := by
  intro ad H locs cells slots ls h1 h2 hP hD hS hn hl
  exact lv_lload B.1 B.2.1 hd (q_lk_at hl hx) (k ad H locs cells slots ls h1 h2 hP hD hS hn hl)
theorem q_aload_n (B : q_Ok Γ Y d) {j : Fin 4} {i : Nat} {x : Nat} (hd : decode Y.2.1 pc = .ok (.aload_n j, 1)) (hi : (j : Nat) = i) (hx : q_lk lv i = some (.ref x)) (k : q_W Γ Y rc rs Sh I (pc + 1) lv (.ref x :: st)) : q_W Γ Y rc rs Sh I pc lv (st) := by
  intro ad H locs cells slots ls h1 h2 hP hD hS hn hl
  exact lv_aload_n B.1 B.2.1 hd hi (q_lk_at hl hx) (k ad H locs cells slots ls h1 h2 hP hD hS hn hl)
theorem q_aload (B : q_Ok Γ Y d) {i : Nat} {x : Nat} (hd : decode Y.2.1 pc = .ok (.aload i, 2)) (hx : q_lk lv i = some (.ref x)) (k : q_W Γ Y rc rs Sh I (pc + 2) lv (.ref x :: st)) : q_W Γ Y rc rs Sh I pc lv (st) := by
  intro ad H locs cells slots ls h1 h2 hP hD hS hn hl
  exact lv_aload B.1 B.2.1 hd (q_lk_at hl hx) (k ad H locs cells slots ls h1 h2 hP hD hS hn hl)
theorem q_aloadN_n (B : q_Ok Γ Y d) {j : Fin 4} {i : Nat} (hd : decode Y.2.1 pc = .ok (.aload_n j, 1)) (hi : (j : Nat) = i) (hx : q_lk lv i = some .null) (k : q_W Γ Y rc rs Sh I (pc + 1) lv (.null :: st)) : q_W Γ Y rc rs Sh I pc lv st := by
  subst hi
  intro ad H locs cells slots ls h1 h2 hP hD hS hn hl
  have hg := q_lk_at hl hx
  have k2 := (k ad H locs cells slots ls h1 h2 hP hD hS hn hl)
  intro T hT X
  obtain ⟨t, a, b⟩ := k2 T hT X
  refine ⟨t, ?_, b⟩
  have hb := B.2.1
  have hexec := B.1
  simp only [q_cv] at hg
  jvm_step X.here [X.here.top, hexec, hb, hd, hg]
  exact ⟨rfl, a⟩
theorem q_aloadN (B : q_Ok Γ Y d) {i : Nat} (hd : decode Y.2.1 pc = .ok (.aload i, 2)) (hx : q_lk lv i = some .null) (k : q_W Γ Y rc rs Sh I (pc + 2) lv (.null :: st)) : q_W Γ Y rc rs Sh I pc lv st := by
  intro ad H locs cells slots ls h1 h2 hP hD hS hn hl
  have hg := q_lk_at hl hx
  have k2 := (k ad H locs cells slots ls h1 h2 hP hD hS hn hl)
  intro T hT X
  obtain ⟨t, a, b⟩ := k2 T hT X
  refine ⟨t, ?_, b⟩
  have hb := B.2.1
  have hexec := B.1
  simp only [q_cv] at hg
  jvm_step X.here [X.here.top, hexec, hb, hd, hg]
  exact ⟨rfl, a⟩
theorem q_iadd (B : q_Ok Γ Y d) {x y : Int32} (hd : decode Y.2.1 pc = .ok (.iadd, 1)) (k : q_W Γ Y rc rs Sh I (pc + 1) lv (.int (x + y) :: st)) : q_W Γ Y rc rs Sh I pc lv (.int y :: .int x :: st) := by
  intro ad H locs cells slots ls h1 h2 hP hD hS hn hl
  exact lv_iadd B.1 B.2.1 hd (k ad H locs cells slots ls h1 h2 hP hD hS hn hl)
theorem q_isub (B : q_Ok Γ Y d) {x y : Int32} (hd : decode Y.2.1 pc = .ok (.isub, 1)) (k : q_W Γ Y rc rs Sh I (pc + 1) lv (.int (x - y) :: st)) : q_W Γ Y rc rs Sh I pc lv (.int y :: .int x :: st) := by
  intro ad H locs cells slots ls h1 h2 hP hD hS hn hl
  exact lv_isub B.1 B.2.1 hd (k ad H locs cells slots ls h1 h2 hP hD hS hn hl)
theorem q_imul (B : q_Ok Γ Y d) {x y : Int32} (hd : decode Y.2.1 pc = .ok (.imul, 1)) (k : q_W Γ Y rc rs Sh I (pc + 1) lv (.int (x * y) :: st)) : q_W Γ Y rc rs Sh I pc lv (.int y :: .int x :: st) := by
  intro ad H locs cells slots ls h1 h2 hP hD hS hn hl
  exact lv_imul B.1 B.2.1 hd (k ad H locs cells slots ls h1 h2 hP hD hS hn hl)
theorem q_iand (B : q_Ok Γ Y d) {x y : Int32} (hd : decode Y.2.1 pc = .ok (.iand, 1)) (k : q_W Γ Y rc rs Sh I (pc + 1) lv (.int (x &&& y) :: st)) : q_W Γ Y rc rs Sh I pc lv (.int y :: .int x :: st) := by
  intro ad H locs cells slots ls h1 h2 hP hD hS hn hl
  exact lv_iand B.1 B.2.1 hd (k ad H locs cells slots ls h1 h2 hP hD hS hn hl)
theorem q_ior (B : q_Ok Γ Y d) {x y : Int32} (hd : decode Y.2.1 pc = .ok (.ior, 1)) (k : q_W Γ Y rc rs Sh I (pc + 1) lv (.int (x ||| y) :: st)) : q_W Γ Y rc rs Sh I pc lv (.int y :: .int x :: st) := by
  intro ad H locs cells slots ls h1 h2 hP hD hS hn hl
  exact lv_ior B.1 B.2.1 hd (k ad H locs cells slots ls h1 h2 hP hD hS hn hl)
theorem q_ixor (B : q_Ok Γ Y d) {x y : Int32} (hd : decode Y.2.1 pc = .ok (.ixor, 1)) (k : q_W Γ Y rc rs Sh I (pc + 1) lv (.int (x ^^^ y) :: st)) : q_W Γ Y rc rs Sh I pc lv (.int y :: .int x :: st) := by
  intro ad H locs cells slots ls h1 h2 hP hD hS hn hl
  exact lv_ixor B.1 B.2.1 hd (k ad H locs cells slots ls h1 h2 hP hD hS hn hl)
theorem q_land (B : q_Ok Γ Y d) {x y : Int64} (hd : decode Y.2.1 pc = .ok (.land, 1)) (k : q_W Γ Y rc rs Sh I (pc + 1) lv (.long (x &&& y) :: st)) : q_W Γ Y rc rs Sh I pc lv (.long y :: .long x :: st) := by
  intro ad H locs cells slots ls h1 h2 hP hD hS hn hl
  exact lv_land B.1 B.2.1 hd (k ad H locs cells slots ls h1 h2 hP hD hS hn hl)
theorem q_lor (B : q_Ok Γ Y d) {x y : Int64} (hd : decode Y.2.1 pc = .ok (.lor, 1)) (k : q_W Γ Y rc rs Sh I (pc + 1) lv (.long (x ||| y) :: st)) : q_W Γ Y rc rs Sh I pc lv (.long y :: .long x :: st) := by
  intro ad H locs cells slots ls h1 h2 hP hD hS hn hl
  exact lv_lor B.1 B.2.1 hd (k ad H locs cells slots ls h1 h2 hP hD hS hn hl)
theorem q_irem (B : q_Ok Γ Y d) {x y : Int32} (hd : decode Y.2.1 pc = .ok (.irem, 1)) (hne : ¬ y = 0) (k : q_W Γ Y rc rs Sh I (pc + 1) lv (.int (x - x / y * y) :: st)) : q_W Γ Y rc rs Sh I pc lv (.int y :: .int x :: st) := by
  intro ad H locs cells slots ls h1 h2 hP hD hS hn hl
  exact lv_irem B.1 B.2.1 hd hne (k ad H locs cells slots ls h1 h2 hP hD hS hn hl)
theorem q_ishl (B : q_Ok Γ Y d) {x y : Int32} (hd : decode Y.2.1 pc = .ok (.ishl, 1)) (k : q_W Γ Y rc rs Sh I (pc + 1) lv (.int (x <<< (y &&& 31)) :: st)) : q_W Γ Y rc rs Sh I pc lv (.int y :: .int x :: st) := by
  intro ad H locs cells slots ls h1 h2 hP hD hS hn hl
  exact lv_ishl B.1 B.2.1 hd (k ad H locs cells slots ls h1 h2 hP hD hS hn hl)
theorem q_ishr (B : q_Ok Γ Y d) {x y : Int32} (hd : decode Y.2.1 pc = .ok (.ishr, 1)) (k : q_W Γ Y rc rs Sh I (pc + 1) lv (.int (x >>> (y &&& 31)) :: st)) : q_W Γ Y rc rs Sh I pc lv (.int y :: .int x :: st) := by
  intro ad H locs cells slots ls h1 h2 hP hD hS hn hl
  exact lv_ishr B.1 B.2.1 hd (k ad H locs cells slots ls h1 h2 hP hD hS hn hl)
theorem q_lshl (B : q_Ok Γ Y d) {x : Int64} {y : Int32} (hd : decode Y.2.1 pc = .ok (.lshl, 1)) (k : q_W Γ Y rc rs Sh I (pc + 1) lv (.long (x <<< (y.toInt64 &&& 63)) :: st)) : q_W Γ Y rc rs Sh I pc lv (.int y :: .long x :: st) := by
  intro ad H locs cells slots ls h1 h2 hP hD hS hn hl
  exact lv_lshl B.1 B.2.1 hd rfl (k ad H locs cells slots ls h1 h2 hP hD hS hn hl)
theorem q_lushr (B : q_Ok Γ Y d) {x : Int64} {y : Int32} (hd : decode Y.2.1 pc = .ok (.lushr, 1)) (k : q_W Γ Y rc rs Sh I (pc + 1) lv (.long ((x.toUInt64 >>> (y.toInt64.toUInt64 &&& Int64.toUInt64 63)).toInt64) :: st)) : q_W Γ Y rc rs Sh I pc lv (.int y :: .long x :: st) := by
  intro ad H locs cells slots ls h1 h2 hP hD hS hn hl
  exact lv_lushr B.1 B.2.1 hd rfl (k ad H locs cells slots ls h1 h2 hP hD hS hn hl)
theorem q_i2l (B : q_Ok Γ Y d) {x : Int32} (hd : decode Y.2.1 pc = .ok (.i2l, 1)) (k : q_W Γ Y rc rs Sh I (pc + 1) lv (.long x.toInt64 :: st)) : q_W Γ Y rc rs Sh I pc lv (.int x :: st) := by
  intro ad H locs cells slots ls h1 h2 hP hD hS hn hl
  exact lv_i2l B.1 B.2.1 hd rfl (k ad H locs cells slots ls h1 h2 hP hD hS hn hl)
theorem q_l2i (B : q_Ok Γ Y d) {x : Int64} (hd : decode Y.2.1 pc = .ok (.l2i, 1)) (k : q_W Γ Y rc rs Sh I (pc + 1) lv (.int x.toInt32 :: st)) : q_W Γ Y rc rs Sh I pc lv (.long x :: st) := by
  intro ad H locs cells slots ls h1 h2 hP hD hS hn hl
  exact lv_l2i B.1 B.2.1 hd rfl (k ad H locs cells slots ls h1 h2 hP hD hS hn hl)
theorem q_i2c (B : q_Ok Γ Y d) {x : Int32} (hd : decode Y.2.1 pc = .ok (.i2c, 1)) (k : q_W Γ Y rc rs Sh I (pc + 1) lv (.int ((x.toUInt32 % 65536).toInt32) :: st)) : q_W Γ Y rc rs Sh I pc lv (.int x :: st) := by
  intro ad H locs cells slots ls h1 h2 hP hD hS hn hl
  exact lv_i2c B.1 B.2.1 hd rfl (k ad H locs cells slots ls h1 h2 hP hD hS hn hl)
theorem q_lcmp (B : q_Ok Γ Y d) {x y : Int64} (hd : decode Y.2.1 pc = .ok (.lcmp, 1)) (k : q_W Γ Y rc rs Sh I (pc + 1) lv (.int (lg_cmp x y) :: st)) : q_W Γ Y rc rs Sh I pc lv (.long y :: .long x :: st) := by
  intro ad H locs cells slots ls h1 h2 hP hD hS hn hl
  exact W.lcmp B.1 B.2.1 hd (k ad H locs cells slots ls h1 h2 hP hD hS hn hl)
theorem q_dup (B : q_Ok Γ Y d) {va : Value} (hd : decode Y.2.1 pc = .ok (.dup, 1)) (hv : va.category = 1) (k : q_W Γ Y rc rs Sh I (pc + 1) lv (va :: va :: st)) : q_W Γ Y rc rs Sh I pc lv (va :: st) := by
  intro ad H locs cells slots ls h1 h2 hP hD hS hn hl
  exact lv_dup B.1 B.2.1 hd ((q_cat ad va).trans hv) (k ad H locs cells slots ls h1 h2 hP hD hS hn hl)
theorem q_dup2 (B : q_Ok Γ Y d) {va vb : Value} (hd : decode Y.2.1 pc = .ok (.dup2, 1)) (hv : va.category = 1) (hw : vb.category = 1) (k : q_W Γ Y rc rs Sh I (pc + 1) lv (va :: vb :: va :: vb :: st)) : q_W Γ Y rc rs Sh I pc lv (va :: vb :: st) := by
  intro ad H locs cells slots ls h1 h2 hP hD hS hn hl
  exact lv_dup2_11 B.1 B.2.1 hd ((q_cat ad va).trans hv) ((q_cat ad vb).trans hw) (k ad H locs cells slots ls h1 h2 hP hD hS hn hl)
theorem q_pop (B : q_Ok Γ Y d) {va : Value} (hd : decode Y.2.1 pc = .ok (.pop, 1)) (hv : va.category = 1) (k : q_W Γ Y rc rs Sh I (pc + 1) lv (st)) : q_W Γ Y rc rs Sh I pc lv (va :: st) := by
  intro ad H locs cells slots ls h1 h2 hP hD hS hn hl
  exact lv_pop B.1 B.2.1 hd ((q_cat ad va).trans hv) (k ad H locs cells slots ls h1 h2 hP hD hS hn hl)
theorem q_goto (B : q_Ok Γ Y d) {off : Int} {tgt : Nat} (hd : decode Y.2.1 pc = .ok (.goto off, 3)) (ht : (pc : Int) + off = (tgt : Int)) (k : q_W Γ Y rc rs Sh I (tgt) lv (st)) : q_W Γ Y rc rs Sh I pc lv (st) := by
  intro ad H locs cells slots ls h1 h2 hP hD hS hn hl
  exact lv_goto B.1 B.2.1 hd ht (k ad H locs cells slots ls h1 h2 hP hD hS hn hl)
theorem q_lk_ne {lv : List (Nat × Value)} {i : Nat} {v : Value} (h : (i, v) ∈ lv) : ¬ q_lk lv i = none := by
  induction lv with
  | nil => cases h
  | cons a t ih =>
    obtain ⟨j, w⟩ := a
    intro q
    unfold q_lk at q
    cases hb : Nat.beq j i with
    | true => rw [hb] at q; cases q
    | false =>
      rw [hb] at q
      rcases List.mem_cons.mp h with e | h
      · cases e; simp at hb
      · exact ih h q
theorem q_istore_n (B : q_Ok Γ Y d) {j : Fin 4} {i : Nat} {x : Int32} (hd : decode Y.2.1 pc = .ok (.istore_n j, 1)) (hi : (j : Nat) = i) (hn : i < Y.2.2.1) (hf : q_fr lv i = true) (k : q_W Γ Y rc rs Sh I (pc + 1) (q_set lv i (.int x)) st) : q_W Γ Y rc rs Sh I pc lv (.int x :: st) := by
  intro ad H locs cells slots ls h1 h2 hP hD hS hn0 hl
  exact lv_istore_n B.1 B.2.1 hd hi hl hn rfl (fun ls2 hl2 => k ad H locs cells slots ls2 h1 h2 hP hD hS hn0 (q_has_set hl2 hf))
theorem q_istore (B : q_Ok Γ Y d) {i : Nat} {x : Int32} (hd : decode Y.2.1 pc = .ok (.istore i, 2)) (hn : i < Y.2.2.1) (hf : q_fr lv i = true) (k : q_W Γ Y rc rs Sh I (pc + 2) (q_set lv i (.int x)) st) : q_W Γ Y rc rs Sh I pc lv (.int x :: st) := by
  intro ad H locs cells slots ls h1 h2 hP hD hS hn0 hl
  exact lv_istore B.1 B.2.1 hd  hl hn rfl (fun ls2 hl2 => k ad H locs cells slots ls2 h1 h2 hP hD hS hn0 (q_has_set hl2 hf))
theorem q_astore_n (B : q_Ok Γ Y d) {j : Fin 4} {i : Nat} {x : Nat} (hd : decode Y.2.1 pc = .ok (.astore_n j, 1)) (hi : (j : Nat) = i) (hn : i < Y.2.2.1) (hf : q_fr lv i = true) (k : q_W Γ Y rc rs Sh I (pc + 1) (q_set lv i (.ref x)) st) : q_W Γ Y rc rs Sh I pc lv (.ref x :: st) := by
  intro ad H locs cells slots ls h1 h2 hP hD hS hn0 hl
  exact lv_astore_n B.1 B.2.1 hd hi hl hn rfl (fun ls2 hl2 => k ad H locs cells slots ls2 h1 h2 hP hD hS hn0 (q_has_set hl2 hf))
theorem q_astore (B : q_Ok Γ Y d) {i : Nat} {x : Nat} (hd : decode Y.2.1 pc = .ok (.astore i, 2)) (hn : i < Y.2.2.1) (hf : q_fr lv i = true) (k : q_W Γ Y rc rs Sh I (pc + 2) (q_set lv i (.ref x)) st) : q_W Γ Y rc rs Sh I pc lv (.ref x :: st) := by
  intro ad H locs cells slots ls h1 h2 hP hD hS hn0 hl
  exact lv_astore B.1 B.2.1 hd  hl hn rfl (fun ls2 hl2 => k ad H locs cells slots ls2 h1 h2 hP hD hS hn0 (q_has_set hl2 hf))
theorem q_astoreN_n (B : q_Ok Γ Y d) {j : Fin 4} {i : Nat} (hd : decode Y.2.1 pc = .ok (.astore_n j, 1)) (hi : (j : Nat) = i) (hn : i < Y.2.2.1) (hf : q_fr lv i = true) (k : q_W Γ Y rc rs Sh I (pc + 1) (q_set lv i .null) st) : q_W Γ Y rc rs Sh I pc lv (.null :: st) := by
  subst hi
  intro ad H locs cells slots ls h1 h2 hP hD hS hn0 hl
  have hb := B.2.1
  have hexec := B.1
  obtain ⟨ls2, e', h'⟩ := lv_store1 (v := .null) hl hn rfl
  have k2 := k ad H locs cells slots ls2 h1 h2 hP hD hS hn0 (q_has_set h' hf)
  intro T hT X
  obtain ⟨t, a, b⟩ := k2 T hT X
  refine ⟨t, ?_, b⟩
  jvm_step X.here [X.here.top, ↓top_set X.here.top, hexec, hb, hd, e', q_cv]
  exact ⟨rfl, a⟩
theorem q_astoreN (B : q_Ok Γ Y d) {i : Nat} (hd : decode Y.2.1 pc = .ok (.astore i, 2)) (hn : i < Y.2.2.1) (hf : q_fr lv i = true) (k : q_W Γ Y rc rs Sh I (pc + 2) (q_set lv i .null) st) : q_W Γ Y rc rs Sh I pc lv (.null :: st) := by
  intro ad H locs cells slots ls h1 h2 hP hD hS hn0 hl
  have hb := B.2.1
  have hexec := B.1
  obtain ⟨ls2, e', h'⟩ := lv_store1 (v := .null) hl hn rfl
  have k2 := k ad H locs cells slots ls2 h1 h2 hP hD hS hn0 (q_has_set h' hf)
  intro T hT X
  obtain ⟨t, a, b⟩ := k2 T hT X
  refine ⟨t, ?_, b⟩
  jvm_step X.here [X.here.top, ↓top_set X.here.top, hexec, hb, hd, e', q_cv]
  exact ⟨rfl, a⟩
theorem q_lstore_n (B : q_Ok Γ Y d) {j : Fin 4} {i : Nat} {x : Int64} (hd : decode Y.2.1 pc = .ok (.lstore_n j, 1)) (hi : (j : Nat) = i) (hn : i + 1 < Y.2.2.1) (hf : q_fr lv i = true) (hf2 : q_lk lv (i + 1) = none) (k : q_W Γ Y rc rs Sh I (pc + 1) (q_set lv i (.long x)) st) : q_W Γ Y rc rs Sh I pc lv (.long x :: st) := by
  intro ad H locs cells slots ls h1 h2 hP hD hS hn0 hl
  exact lv_lstore_n B.1 B.2.1 hd hi hl hn rfl (fun ls2 hl2 => k ad H locs cells slots ls2 h1 h2 hP hD hS hn0 (q_has_set ⟨hl2.1, hl2.2.1, fun q hq => hl2.2.2 q (by
    rcases List.mem_cons.mp hq with rfl | hq
    · exact List.mem_cons_self
    · obtain ⟨m1, m2⟩ := List.mem_filter.mp hq
      refine List.mem_cons_of_mem _ (List.mem_filter.mpr ⟨m1, ?_⟩)
      obtain ⟨r, hr, rfl⟩ := List.mem_map.mp m1
      have e : (r.1 == i + 1) = false := by
        cases hx : (r.1 == i + 1) with
        | false => rfl
        | true => exact absurd hf2 (q_lk_ne (v := r.2) (by have e := eq_of_beq hx; rw [← e]; exact hr))
      simp only [Bool.and_eq_true] at m2
      simp [e, m2.1, m2.2])⟩ hf))
theorem q_lstore (B : q_Ok Γ Y d) {i : Nat} {x : Int64} (hd : decode Y.2.1 pc = .ok (.lstore i, 2)) (hn : i + 1 < Y.2.2.1) (hf : q_fr lv i = true) (hf2 : q_lk lv (i + 1) = none) (k : q_W Γ Y rc rs Sh I (pc + 2) (q_set lv i (.long x)) st) : q_W Γ Y rc rs Sh I pc lv (.long x :: st) := by
  intro ad H locs cells slots ls h1 h2 hP hD hS hn0 hl
  exact lv_lstore B.1 B.2.1 hd  hl hn rfl (fun ls2 hl2 => k ad H locs cells slots ls2 h1 h2 hP hD hS hn0 (q_has_set ⟨hl2.1, hl2.2.1, fun q hq => hl2.2.2 q (by
    rcases List.mem_cons.mp hq with rfl | hq
    · exact List.mem_cons_self
    · obtain ⟨m1, m2⟩ := List.mem_filter.mp hq
      refine List.mem_cons_of_mem _ (List.mem_filter.mpr ⟨m1, ?_⟩)
      obtain ⟨r, hr, rfl⟩ := List.mem_map.mp m1
      have e : (r.1 == i + 1) = false := by
        cases hx : (r.1 == i + 1) with
        | false => rfl
        | true => exact absurd hf2 (q_lk_ne (v := r.2) (by have e := eq_of_beq hx; rw [← e]; exact hr))
      simp only [Bool.and_eq_true] at m2
      simp [e, m2.1, m2.2])⟩ hf))
theorem q_iinc (B : q_Ok Γ Y d) {i : Nat} {n : Int} {x : Int32} (hd : decode Y.2.1 pc = .ok (.iinc i n, 3)) (hx : q_lk lv i = some (.int x)) (hn : i < Y.2.2.1) (hf : q_fr lv i = true) (k : q_W Γ Y rc rs Sh I (pc + 3) (q_set lv i (.int (x + Int32.ofInt n))) st) : q_W Γ Y rc rs Sh I pc lv st := by
  intro ad H locs cells slots ls h1 h2 hP hD hS hn0 hl
  obtain ⟨m, hm⟩ := List.getElem?_of_mem (List.mem_map.mpr ⟨_, q_lk_mem hx, rfl⟩ : (i, q_cv ad (.int x)) ∈ q_lvm ad lv)
  exact lv_iinc B.1 B.2.1 hd hl hm rfl hn rfl (fun ls2 hl2 => k ad H locs cells slots ls2 h1 h2 hP hD hS hn0 (q_has_set hl2 hf))
theorem q_icmp_eq (B : q_Ok Γ Y d) {x y : Int32} {off : Int} {tgt : Nat} (hd : decode Y.2.1 pc = .ok (.if_icmp .eq off, 3)) (ht : (pc : Int) + off = (tgt : Int)) (kt : x = y → q_W Γ Y rc rs Sh I tgt lv st) (kf : ¬ x = y → q_W Γ Y rc rs Sh I (pc + 3) lv st) : q_W Γ Y rc rs Sh I pc lv (.int y :: .int x :: st) := by
  intro ad H locs cells slots ls h1 h2 hP hD hS hn hl
  exact lv_icmp_eq B.1 B.2.1 hd ht (fun q => kt q ad H locs cells slots ls h1 h2 hP hD hS hn hl) (fun q => kf q ad H locs cells slots ls h1 h2 hP hD hS hn hl)
theorem q_icmp_ne (B : q_Ok Γ Y d) {x y : Int32} {off : Int} {tgt : Nat} (hd : decode Y.2.1 pc = .ok (.if_icmp .ne off, 3)) (ht : (pc : Int) + off = (tgt : Int)) (kt : ¬ x = y → q_W Γ Y rc rs Sh I tgt lv st) (kf : x = y → q_W Γ Y rc rs Sh I (pc + 3) lv st) : q_W Γ Y rc rs Sh I pc lv (.int y :: .int x :: st) := by
  intro ad H locs cells slots ls h1 h2 hP hD hS hn hl
  exact lv_icmp_ne B.1 B.2.1 hd ht (fun q => kt q ad H locs cells slots ls h1 h2 hP hD hS hn hl) (fun q => kf q ad H locs cells slots ls h1 h2 hP hD hS hn hl)
theorem q_icmp_lt (B : q_Ok Γ Y d) {x y : Int32} {off : Int} {tgt : Nat} (hd : decode Y.2.1 pc = .ok (.if_icmp .lt off, 3)) (ht : (pc : Int) + off = (tgt : Int)) (kt : x < y → q_W Γ Y rc rs Sh I tgt lv st) (kf : ¬ x < y → q_W Γ Y rc rs Sh I (pc + 3) lv st) : q_W Γ Y rc rs Sh I pc lv (.int y :: .int x :: st) := by
  intro ad H locs cells slots ls h1 h2 hP hD hS hn hl
  exact lv_icmp_lt B.1 B.2.1 hd ht (fun q => kt q ad H locs cells slots ls h1 h2 hP hD hS hn hl) (fun q => kf q ad H locs cells slots ls h1 h2 hP hD hS hn hl)
theorem q_icmp_ge (B : q_Ok Γ Y d) {x y : Int32} {off : Int} {tgt : Nat} (hd : decode Y.2.1 pc = .ok (.if_icmp .ge off, 3)) (ht : (pc : Int) + off = (tgt : Int)) (kt : y ≤ x → q_W Γ Y rc rs Sh I tgt lv st) (kf : ¬ y ≤ x → q_W Γ Y rc rs Sh I (pc + 3) lv st) : q_W Γ Y rc rs Sh I pc lv (.int y :: .int x :: st) := by
  intro ad H locs cells slots ls h1 h2 hP hD hS hn hl
  exact lv_icmp_ge B.1 B.2.1 hd ht (fun q => kt q ad H locs cells slots ls h1 h2 hP hD hS hn hl) (fun q => kf q ad H locs cells slots ls h1 h2 hP hD hS hn hl)
theorem q_icmp_gt (B : q_Ok Γ Y d) {x y : Int32} {off : Int} {tgt : Nat} (hd : decode Y.2.1 pc = .ok (.if_icmp .gt off, 3)) (ht : (pc : Int) + off = (tgt : Int)) (kt : y < x → q_W Γ Y rc rs Sh I tgt lv st) (kf : ¬ y < x → q_W Γ Y rc rs Sh I (pc + 3) lv st) : q_W Γ Y rc rs Sh I pc lv (.int y :: .int x :: st) := by
  intro ad H locs cells slots ls h1 h2 hP hD hS hn hl
  exact lv_icmp_gt B.1 B.2.1 hd ht (fun q => kt q ad H locs cells slots ls h1 h2 hP hD hS hn hl) (fun q => kf q ad H locs cells slots ls h1 h2 hP hD hS hn hl)
theorem q_icmp_le (B : q_Ok Γ Y d) {x y : Int32} {off : Int} {tgt : Nat} (hd : decode Y.2.1 pc = .ok (.if_icmp .le off, 3)) (ht : (pc : Int) + off = (tgt : Int)) (kt : x ≤ y → q_W Γ Y rc rs Sh I tgt lv st) (kf : ¬ x ≤ y → q_W Γ Y rc rs Sh I (pc + 3) lv st) : q_W Γ Y rc rs Sh I pc lv (.int y :: .int x :: st) := by
  intro ad H locs cells slots ls h1 h2 hP hD hS hn hl
  exact lv_icmp_le B.1 B.2.1 hd ht (fun q => kt q ad H locs cells slots ls h1 h2 hP hD hS hn hl) (fun q => kf q ad H locs cells slots ls h1 h2 hP hD hS hn hl)
theorem q_if_eq (B : q_Ok Γ Y d) {x : Int32} {off : Int} {tgt : Nat} (hd : decode Y.2.1 pc = .ok (.ifCond .eq off, 3)) (ht : (pc : Int) + off = (tgt : Int)) (kt : x = 0 → q_W Γ Y rc rs Sh I tgt lv st) (kf : ¬ x = 0 → q_W Γ Y rc rs Sh I (pc + 3) lv st) : q_W Γ Y rc rs Sh I pc lv (.int x :: st) := by
  intro ad H locs cells slots ls h1 h2 hP hD hS hn hl
  exact lv_if_eq B.1 B.2.1 hd ht (fun q => kt q ad H locs cells slots ls h1 h2 hP hD hS hn hl) (fun q => kf q ad H locs cells slots ls h1 h2 hP hD hS hn hl)
theorem q_if_ne (B : q_Ok Γ Y d) {x : Int32} {off : Int} {tgt : Nat} (hd : decode Y.2.1 pc = .ok (.ifCond .ne off, 3)) (ht : (pc : Int) + off = (tgt : Int)) (kt : ¬ x = 0 → q_W Γ Y rc rs Sh I tgt lv st) (kf : x = 0 → q_W Γ Y rc rs Sh I (pc + 3) lv st) : q_W Γ Y rc rs Sh I pc lv (.int x :: st) := by
  intro ad H locs cells slots ls h1 h2 hP hD hS hn hl
  exact lv_if_ne B.1 B.2.1 hd ht (fun q => kt q ad H locs cells slots ls h1 h2 hP hD hS hn hl) (fun q => kf q ad H locs cells slots ls h1 h2 hP hD hS hn hl)
theorem q_if_lt (B : q_Ok Γ Y d) {x : Int32} {off : Int} {tgt : Nat} (hd : decode Y.2.1 pc = .ok (.ifCond .lt off, 3)) (ht : (pc : Int) + off = (tgt : Int)) (kt : x < 0 → q_W Γ Y rc rs Sh I tgt lv st) (kf : ¬ x < 0 → q_W Γ Y rc rs Sh I (pc + 3) lv st) : q_W Γ Y rc rs Sh I pc lv (.int x :: st) := by
  intro ad H locs cells slots ls h1 h2 hP hD hS hn hl
  exact lv_if_lt B.1 B.2.1 hd ht (fun q => kt q ad H locs cells slots ls h1 h2 hP hD hS hn hl) (fun q => kf q ad H locs cells slots ls h1 h2 hP hD hS hn hl)
theorem q_if_ge (B : q_Ok Γ Y d) {x : Int32} {off : Int} {tgt : Nat} (hd : decode Y.2.1 pc = .ok (.ifCond .ge off, 3)) (ht : (pc : Int) + off = (tgt : Int)) (kt : 0 ≤ x → q_W Γ Y rc rs Sh I tgt lv st) (kf : ¬ 0 ≤ x → q_W Γ Y rc rs Sh I (pc + 3) lv st) : q_W Γ Y rc rs Sh I pc lv (.int x :: st) := by
  intro ad H locs cells slots ls h1 h2 hP hD hS hn hl
  exact lv_if_ge B.1 B.2.1 hd ht (fun q => kt q ad H locs cells slots ls h1 h2 hP hD hS hn hl) (fun q => kf q ad H locs cells slots ls h1 h2 hP hD hS hn hl)
theorem q_if_gt (B : q_Ok Γ Y d) {x : Int32} {off : Int} {tgt : Nat} (hd : decode Y.2.1 pc = .ok (.ifCond .gt off, 3)) (ht : (pc : Int) + off = (tgt : Int)) (kt : 0 < x → q_W Γ Y rc rs Sh I tgt lv st) (kf : ¬ 0 < x → q_W Γ Y rc rs Sh I (pc + 3) lv st) : q_W Γ Y rc rs Sh I pc lv (.int x :: st) := by
  intro ad H locs cells slots ls h1 h2 hP hD hS hn hl
  exact lv_if_gt B.1 B.2.1 hd ht (fun q => kt q ad H locs cells slots ls h1 h2 hP hD hS hn hl) (fun q => kf q ad H locs cells slots ls h1 h2 hP hD hS hn hl)
theorem q_if_le (B : q_Ok Γ Y d) {x : Int32} {off : Int} {tgt : Nat} (hd : decode Y.2.1 pc = .ok (.ifCond .le off, 3)) (ht : (pc : Int) + off = (tgt : Int)) (kt : x ≤ 0 → q_W Γ Y rc rs Sh I tgt lv st) (kf : ¬ x ≤ 0 → q_W Γ Y rc rs Sh I (pc + 3) lv st) : q_W Γ Y rc rs Sh I pc lv (.int x :: st) := by
  intro ad H locs cells slots ls h1 h2 hP hD hS hn hl
  exact lv_if_le B.1 B.2.1 hd ht (fun q => kt q ad H locs cells slots ls h1 h2 hP hD hS hn hl) (fun q => kf q ad H locs cells slots ls h1 h2 hP hD hS hn hl)
theorem q_ifnull (B : q_Ok Γ Y d) {x : Nat} {off : Int} (hd : decode Y.2.1 pc = .ok (.ifnull off, 3)) (k : q_W Γ Y rc rs Sh I (pc + 3) lv st) : q_W Γ Y rc rs Sh I pc lv (.ref x :: st) := by
  intro ad H locs cells slots ls h1 h2 hP hD hS hn hl
  exact lv_ifnull B.1 B.2.1 hd (k ad H locs cells slots ls h1 h2 hP hD hS hn hl)
theorem q_ifnullN (B : q_Ok Γ Y d) {off : Int} {tgt : Nat} (hd : decode Y.2.1 pc = .ok (.ifnull off, 3)) (ht : (pc : Int) + off = (tgt : Int)) (k : q_W Γ Y rc rs Sh I tgt lv st) : q_W Γ Y rc rs Sh I pc lv (.null :: st) := by
  intro ad H locs cells slots ls h1 h2 hP hD hS hn hl
  exact lv_ifnullN B.1 B.2.1 hd ht (k ad H locs cells slots ls h1 h2 hP hD hS hn hl)
theorem q_ifnonnull (B : q_Ok Γ Y d) {x : Nat} {off : Int} {tgt : Nat} (hd : decode Y.2.1 pc = .ok (.ifnonnull off, 3)) (ht : (pc : Int) + off = (tgt : Int)) (k : q_W Γ Y rc rs Sh I tgt lv st) : q_W Γ Y rc rs Sh I pc lv (.ref x :: st) := by
  intro ad H locs cells slots ls h1 h2 hP hD hS hn hl
  exact lv_ifnonnull B.1 B.2.1 hd ht (k ad H locs cells slots ls h1 h2 hP hD hS hn hl)
theorem q_ifnonnullN (B : q_Ok Γ Y d) {off : Int} (hd : decode Y.2.1 pc = .ok (.ifnonnull off, 3)) (k : q_W Γ Y rc rs Sh I (pc + 3) lv st) : q_W Γ Y rc rs Sh I pc lv (.null :: st) := by
  intro ad H locs cells slots ls h1 h2 hP hD hS hn hl
  exact lv_ifnonnullN B.1 B.2.1 hd (k ad H locs cells slots ls h1 h2 hP hD hS hn hl)
theorem q_tableIn (B : q_Ok Γ Y d) {dflt lo hi : Int} {offs : Array Int} {len : Nat} {x : Int32} {off : Int} {tgt : Nat} (hd : decode Y.2.1 pc = .ok (.tableswitch dflt lo hi offs, len)) (g1 : ¬ x.toInt < lo) (g2 : ¬ hi < x.toInt) (ho : offs[(x.toInt - lo).toNat]? = some off) (ht : (pc : Int) + off = (tgt : Int)) (k : q_W Γ Y rc rs Sh I tgt lv st) : q_W Γ Y rc rs Sh I pc lv (.int x :: st) := by
  intro ad H locs cells slots ls h1 h2 hP hD hS hn hl
  exact lv_tableIn B.1 B.2.1 hd g1 g2 ho ht (k ad H locs cells slots ls h1 h2 hP hD hS hn hl)
theorem q_tableOut (B : q_Ok Γ Y d) {dflt lo hi : Int} {offs : Array Int} {len : Nat} {x : Int32} {tgt : Nat} (hd : decode Y.2.1 pc = .ok (.tableswitch dflt lo hi offs, len)) (g : x.toInt < lo ∨ hi < x.toInt) (ht : (pc : Int) + dflt = (tgt : Int)) (k : q_W Γ Y rc rs Sh I tgt lv st) : q_W Γ Y rc rs Sh I pc lv (.int x :: st) := by
  intro ad H locs cells slots ls h1 h2 hP hD hS hn hl
  exact lv_tableOut B.1 B.2.1 hd g ht (k ad H locs cells slots ls h1 h2 hP hD hS hn hl)
theorem q_lookup (B : q_Ok Γ Y d) {dflt : Int} {ps : Array (Int × Int)} {len : Nat} {x : Int32} {off : Int} {tgt : Nat} (hd : decode Y.2.1 pc = .ok (.lookupswitch dflt ps, len)) (hp : (ps.toList.zip (ps.toList.drop 1)).all (fun (a, next) => a.1 < next.1) = true) (ho : Op.lookupswitch.offset ps.toList dflt x.toInt = off) (ht : (pc : Int) + off = (tgt : Int)) (k : q_W Γ Y rc rs Sh I tgt lv st) : q_W Γ Y rc rs Sh I pc lv (.int x :: st) := by
  intro ad H locs cells slots ls h1 h2 hP hD hS hn hl
  exact lv_lookup B.1 B.2.1 hd hp ho ht (k ad H locs cells slots ls h1 h2 hP hD hS hn hl)
def q_Cl (ci : Nat) (C : String) (T : u_T) (N : Nat) : Prop := vwCl[ci]? = some (C, T, N) ∧ (∀ w ∈ u_ws C T N, w ∈ q_WS) ∧ (∀ k, k < N → parseFieldDescriptor (T k).2.2.1 = some (q_ty ci k)) ∧ (∀ a, a < N → ∀ b, b < N → a ≠ b → (T a).2.1 ≠ (T b).2.1) ∧ q_N ci = N
theorem q_getI (B : q_Ok Γ Y d) {C : String} {T : u_T} {N ci i k l : Nat} (hC : q_Cl ci C T N) (hk : k < N) (hr : q_isR (q_ty ci k) = false) (hw : Cond.fieldLink Y.1.cls i (T k).1 (T k).2.1 (T k).2.2.1 ∈ q_WS) (hl : q_is Sh l ci) (hd : decode Y.2.1 pc = .ok (.getfield i, 3))
    (kk : q_W Γ Y rc rs Sh I (pc + 3) lv (.int (I l k) :: st)) : q_W Γ Y rc rs Sh I pc lv (.ref l :: st) := by
  intro ad H locs cells slots ls h1 h2 hP hD hS hn hls
  have he := q_ws_at (cA := q_cA Γ) (ad := ad) (I := I) hl.1
  rw [q_E_obj hl.2] at he
  refine va_get (v := .int (I l k)) B.1 B.2.1 B.2.2.2.2.1 hC.2.1 B.2.2.2.1 B.2.2.2.2.2.2.1 hP l he hC.1 k hk (B.2.2.2.2.1 _ hw) (fun _ h => h) ?_ hd (kk ad H locs cells slots ls h1 h2 hP hD hS hn hls)
  rw [q_fs_at (by rw [hC.2.2.2.2]; exact hk)]
  simp [q_fv, hr]
theorem q_getR (B : q_Ok Γ Y d) {C : String} {T : u_T} {N ci i k l b : Nat} (hC : q_Cl ci C T N) (hk : k < N) (hr : q_isR (q_ty ci k) = true) (hw : Cond.fieldLink Y.1.cls i (T k).1 (T k).2.1 (T k).2.2.1 ∈ q_WS) (hl : q_is Sh l ci) (hb : Sh.2.2 l k = some b) (hd : decode Y.2.1 pc = .ok (.getfield i, 3))
    (kk : q_W Γ Y rc rs Sh I (pc + 3) lv (.ref b :: st)) : q_W Γ Y rc rs Sh I pc lv (.ref l :: st) := by
  intro ad H locs cells slots ls h1 h2 hP hD hS hn hls
  have he := q_ws_at (cA := q_cA Γ) (ad := ad) (I := I) hl.1
  rw [q_E_obj hl.2] at he
  refine va_get (v := .ref (ad b)) B.1 B.2.1 B.2.2.2.2.1 hC.2.1 B.2.2.2.1 B.2.2.2.2.2.2.1 hP l he hC.1 k hk (B.2.2.2.2.1 _ hw) (fun _ h => h) ?_ hd (kk ad H locs cells slots ls h1 h2 hP hD hS hn hls)
  rw [q_fs_at (by rw [hC.2.2.2.2]; exact hk)]
  simp [q_fv, hr, hb, va_rf]
theorem q_putI (B : q_Ok Γ Y d) {C : String} {T : u_T} {N ci i k l : Nat} {v : Int32} (hC : q_Cl ci C T N) (hk : k < N) (hr : q_isR (q_ty ci k) = false) (hw : Cond.fieldLink Y.1.cls i (T k).1 (T k).2.1 (T k).2.2.1 ∈ q_WS) (hfin : (T k).2.2.2 = false) (hnar : narrow (q_ty ci k) (.int v) = .int v) (hfit : fits (q_ty ci k) (.int v) = true) (hl : q_is Sh l ci) (hd : decode Y.2.1 pc = .ok (.putfield i, 3))
    (kk : q_W Γ Y rc rs Sh (q_upI I l k v) (pc + 3) lv st) : q_W Γ Y rc rs Sh I pc lv (.int v :: .ref l :: st) := by
  intro ad H locs cells slots ls h1 h2 hP hD hS hn hls
  have he := q_ws_at (cA := q_cA Γ) (ad := ad) (I := I) hl.1
  rw [q_E_obj hl.2] at he
  refine va_put (v := .int v) B.1 B.2.1 B.2.2.2.2.1 hC.2.1 (q_ty ci) hC.2.2.1 hC.2.2.2.1 B.2.2.2.1 B.2.2.2.2.2.2.1 hP hD hS l he hC.1 k hk (B.2.2.2.2.1 _ hw) (fun _ h => h) hfin (hC.2.2.1 k hk) hnar hfit (by simp [hC.2.2.2.2]; exact hk) hd (fun H1 locs1 hP1 hD1 hS1 => ?_)
  rw [q_ws_put hl.2 hr] at hP1 hD1
  exact kk ad H1 locs1 cells slots ls h1 h2 hP1 hD1 hS1 hn hls
theorem q_putFR (B : q_Ok Γ Y d) {C : String} {T : u_T} {N ci i k l b : Nat} (hC : q_Cl ci C T N) (hk : k < N) (hr : q_isR (q_ty ci k) = true) (hw : Cond.fieldLink Y.1.cls i (T k).1 (T k).2.1 (T k).2.2.1 ∈ q_WS) (hfin : (T k).2.2.2 = true) (hin : Y.1.name = "<init>") (hown : (T k).1 = Y.1.cls) (hl : q_is Sh l ci) (hd : decode Y.2.1 pc = .ok (.putfield i, 3))
    (kk : q_W Γ Y rc rs (Sh.1, Sh.2.1, q_upR Sh.2.2 l k (some b)) I (pc + 3) lv st) : q_W Γ Y rc rs Sh I pc lv (.ref b :: .ref l :: st) := by
  intro ad H locs cells slots ls h1 h2 hP hD hS hn hls
  have he := q_ws_at (cA := q_cA Γ) (ad := ad) (I := I) hl.1
  rw [q_E_obj hl.2] at he
  have hnar : narrow (q_ty ci k) (.ref (ad b)) = .ref (ad b) ∧ fits (q_ty ci k) (.ref (ad b)) = true := by
    cases hq : q_ty ci k <;> rw [hq] at hr <;> first | exact ⟨rfl, rfl⟩ | cases hr
  refine va_putF (v := .ref (ad b)) B.1 B.2.1 B.2.2.2.2.1 hC.2.1 (q_ty ci) hC.2.2.1 hC.2.2.2.1 B.2.2.2.1 B.2.2.2.2.2.2.1 hP hD hS l he hC.1 k hk (B.2.2.2.2.1 _ hw) (fun _ h => h) hfin (B.2.2.2.2.2.2.2.2.2.2.1.trans hin) hown (hC.2.2.1 k hk) hnar.1 hnar.2 (by simp [hC.2.2.2.2]; exact hk) hd (fun H1 locs1 hP1 hD1 hS1 => ?_)
  have e := q_ws_putR (cA := q_cA Γ) (ad := ad) (I := I) (v := some b) hl.2 hr
  simp only [Option.map_some, va_rf] at e
  rw [e] at hP1 hD1
  exact kk ad H1 locs1 cells slots ls h1 h2 hP1 hD1 hS1 hn hls
/-! arrays -/
theorem q_tys_at {cA : Nat → ClassId} : (q_tys cA)[0]? = some (cA 0, .int) ∧ (q_tys cA)[1]? = some (cA 1, .boolean) ∧ (q_tys cA)[2]? = some (cA 2, .char) := ⟨rfl, rfl, rfl⟩
theorem q_ialoadI (B : q_Ok Γ Y d) {l n : Nat} {i : Int32} (hl : q_ar Sh l 0 n) (hi : vp_in i n) (hd : decode Y.2.1 pc = .ok (.iaload, 1)) (kk : q_W Γ Y rc rs Sh I (pc + 1) lv (.int (I l i.toNatClampNeg) :: st)) : q_W Γ Y rc rs Sh I pc lv (.int i :: .ref l :: st) := by
  intro ad H locs cells slots ls h1 h2 hP hD hS hn hls
  have he := q_ws_at (cA := q_cA Γ) (ad := ad) (I := I) hl.1
  rw [q_E_arr hl.2] at he
  exact va_iald B.1 B.2.1 B.2.2.2.2.2.2.1 hP l 0 he rfl hi hd (kk ad H locs cells slots ls h1 h2 hP hD hS hn hls)
theorem q_zaload (B : q_Ok Γ Y d) {l n : Nat} {i : Int32} (hl : q_ar Sh l 1 n) (hi : vp_in i n) (hd : decode Y.2.1 pc = .ok (.baload, 1)) (kk : q_W Γ Y rc rs Sh I (pc + 1) lv (.int (I l i.toNatClampNeg) :: st)) : q_W Γ Y rc rs Sh I pc lv (.int i :: .ref l :: st) := by
  intro ad H locs cells slots ls h1 h2 hP hD hS hn hls
  have he := q_ws_at (cA := q_cA Γ) (ad := ad) (I := I) hl.1
  rw [q_E_arr hl.2] at he
  exact va_zald B.1 B.2.1 B.2.2.2.2.2.2.1 hP l 1 he rfl hi hd (kk ad H locs cells slots ls h1 h2 hP hD hS hn hls)
theorem q_caload (B : q_Ok Γ Y d) {l n : Nat} {i : Int32} (hl : q_ar Sh l 2 n) (hi : vp_in i n) (hd : decode Y.2.1 pc = .ok (.caload, 1)) (kk : q_W Γ Y rc rs Sh I (pc + 1) lv (.int (I l i.toNatClampNeg) :: st)) : q_W Γ Y rc rs Sh I pc lv (.int i :: .ref l :: st) := by
  intro ad H locs cells slots ls h1 h2 hP hD hS hn hls
  have he := q_ws_at (cA := q_cA Γ) (ad := ad) (I := I) hl.1
  rw [q_E_arr hl.2] at he
  exact va_cald B.1 B.2.1 B.2.2.2.2.2.2.1 hP l 2 he rfl hi hd (kk ad H locs cells slots ls h1 h2 hP hD hS hn hls)
theorem q_iastore (B : q_Ok Γ Y d) {l n : Nat} {i v : Int32} (hl : q_ar Sh l 0 n) (hi : vp_in i n) (hd : decode Y.2.1 pc = .ok (.iastore, 1)) (kk : q_W Γ Y rc rs Sh (q_upI I l i.toNatClampNeg v) (pc + 1) lv st) : q_W Γ Y rc rs Sh I pc lv (.int v :: .int i :: .ref l :: st) := by
  intro ad H locs cells slots ls h1 h2 hP hD hS hn hls
  have he := q_ws_at (cA := q_cA Γ) (ad := ad) (I := I) hl.1
  rw [q_E_arr hl.2] at he
  refine va_iast B.1 B.2.1 B.2.2.2.2.2.2.1 hP hD hS l 0 he rfl hi hd (fun H1 locs1 hP1 hD1 hS1 => ?_)
  rw [q_ws_ast hl.2 (by decide)] at hP1 hD1
  exact kk ad H1 locs1 cells slots ls h1 h2 hP1 hD1 hS1 hn hls
theorem q_zastore (B : q_Ok Γ Y d) {l n : Nat} {i v : Int32} (hl : q_ar Sh l 1 n) (hi : vp_in i n) (hd : decode Y.2.1 pc = .ok (.bastore, 1)) (kk : q_W Γ Y rc rs Sh (q_upI I l i.toNatClampNeg (vp_nar .boolean v)) (pc + 1) lv st) : q_W Γ Y rc rs Sh I pc lv (.int v :: .int i :: .ref l :: st) := by
  intro ad H locs cells slots ls h1 h2 hP hD hS hn hls
  have he := q_ws_at (cA := q_cA Γ) (ad := ad) (I := I) hl.1
  rw [q_E_arr hl.2] at he
  refine va_zast B.1 B.2.1 B.2.2.2.2.2.2.1 hP hD hS l 1 he rfl hi hd (fun H1 locs1 hP1 hD1 hS1 => ?_)
  rw [q_ws_ast hl.2 (by decide)] at hP1 hD1
  exact kk ad H1 locs1 cells slots ls h1 h2 hP1 hD1 hS1 hn hls
theorem q_castore (B : q_Ok Γ Y d) {l n : Nat} {i v : Int32} (hl : q_ar Sh l 2 n) (hi : vp_in i n) (hd : decode Y.2.1 pc = .ok (.castore, 1)) (kk : q_W Γ Y rc rs Sh (q_upI I l i.toNatClampNeg (vp_nar .char v)) (pc + 1) lv st) : q_W Γ Y rc rs Sh I pc lv (.int v :: .int i :: .ref l :: st) := by
  intro ad H locs cells slots ls h1 h2 hP hD hS hn hls
  have he := q_ws_at (cA := q_cA Γ) (ad := ad) (I := I) hl.1
  rw [q_E_arr hl.2] at he
  refine va_cast B.1 B.2.1 B.2.2.2.2.2.2.1 hP hD hS l 2 he rfl hi hd (fun H1 locs1 hP1 hD1 hS1 => ?_)
  rw [q_ws_ast hl.2 (by decide)] at hP1 hD1
  exact kk ad H1 locs1 cells slots ls h1 h2 hP1 hD1 hS1 hn hls
theorem q_tyq {cA : Nat → ClassId} {t : Nat} {C : String} (ht : (q_tys cA)[t]? = some (cA t, .object C)) : ¬ t < 3 := by
  intro h
  rcases (by omega : t = 0 ∨ t = 1 ∨ t = 2) with rfl | rfl | rfl <;> cases ht
theorem q_aaload (B : q_Ok Γ Y d) {l t n b : Nat} {i : Int32} {C : String} (hl : q_ar Sh l t n) (ht : (q_tys (q_cA Γ))[t]? = some (q_cA Γ t, .object C)) (hi : vp_in i n) (hb : Sh.2.2 l i.toNatClampNeg = some b) (hd : decode Y.2.1 pc = .ok (.aaload, 1)) (kk : q_W Γ Y rc rs Sh I (pc + 1) lv (.ref b :: st)) : q_W Γ Y rc rs Sh I pc lv (.int i :: .ref l :: st) := by
  intro ad H locs cells slots ls h1 h2 hP hD hS hn hls
  have he := q_ws_at (cA := q_cA Γ) (ad := ad) (I := I) hl.1
  rw [q_E_arr hl.2, if_neg (q_tyq ht)] at he
  refine va_aldq B.1 B.2.1 B.2.2.2.2.2.2.1 hP l t he ht hi hd ?_
  rw [hb]
  exact kk ad H locs cells slots ls h1 h2 hP hD hS hn hls
theorem q_aaloadN (B : q_Ok Γ Y d) {l t n : Nat} {i : Int32} {C : String} (hl : q_ar Sh l t n) (ht : (q_tys (q_cA Γ))[t]? = some (q_cA Γ t, .object C)) (hi : vp_in i n) (hb : Sh.2.2 l i.toNatClampNeg = none) (hd : decode Y.2.1 pc = .ok (.aaload, 1)) (kk : q_W Γ Y rc rs Sh I (pc + 1) lv (.null :: st)) : q_W Γ Y rc rs Sh I pc lv (.int i :: .ref l :: st) := by
  intro ad H locs cells slots ls h1 h2 hP hD hS hn hls
  have he := q_ws_at (cA := q_cA Γ) (ad := ad) (I := I) hl.1
  rw [q_E_arr hl.2, if_neg (q_tyq ht)] at he
  refine va_aldq B.1 B.2.1 B.2.2.2.2.2.2.1 hP l t he ht hi hd ?_
  rw [hb]
  exact kk ad H locs cells slots ls h1 h2 hP hD hS hn hls
theorem q_aastore (B : q_Ok Γ Y d) {l t n b ci : Nat} {i : Int32} {r : vw_C} (hl : q_ar Sh l t n) (ht : (q_tys (q_cA Γ))[t]? = some (q_cA Γ t, .object r.1)) (hc : vwCl[ci]? = some r) (hbo : q_is Sh b ci) (hi : vp_in i n) (hd : decode Y.2.1 pc = .ok (.aastore, 1)) (kk : q_W Γ Y rc rs (Sh.1, Sh.2.1, q_upR Sh.2.2 l i.toNatClampNeg (some b)) I (pc + 1) lv st) : q_W Γ Y rc rs Sh I pc lv (.ref b :: .int i :: .ref l :: st) := by
  intro ad H locs cells slots ls h1 h2 hP hD hS hn hls
  have he := q_ws_at (cA := q_cA Γ) (ad := ad) (I := I) hl.1
  rw [q_E_arr hl.2, if_neg (q_tyq ht)] at he
  have heb := q_ws_at (cA := q_cA Γ) (ad := ad) (I := I) hbo.1
  rw [q_E_obj hbo.2] at heb
  refine va_astq B.1 B.2.1 B.2.2.2.2.2.2.1 hP hD hS l t b ci he ht heb hc hi hd (fun H1 locs1 hP1 hD1 hS1 => ?_)
  rw [q_ws_astq hl.2 (q_tyq ht)] at hP1 hD1
  exact kk ad H1 locs1 cells slots ls h1 h2 hP1 hD1 hS1 hn hls
theorem q_alen (B : q_Ok Γ Y d) {l t n : Nat} {ty : FieldType} (hl : q_ar Sh l t n) (ht : (q_tys (q_cA Γ))[t]? = some (q_cA Γ t, ty)) (hd : decode Y.2.1 pc = .ok (.arraylength, 1)) (kk : q_W Γ Y rc rs Sh I (pc + 1) lv (.int (Int32.ofNat n) :: st)) : q_W Γ Y rc rs Sh I pc lv (.ref l :: st) := by
  intro ad H locs cells slots ls h1 h2 hP hD hS hn hls
  have he := q_ws_at (cA := q_cA Γ) (ad := ad) (I := I) hl.1
  rw [q_E_arr hl.2] at he
  exact va_alen B.1 B.2.1 B.2.2.2.2.2.2.1 hP l t he ht rfl hd (kk ad H locs cells slots ls h1 h2 hP hD hS hn hls)
/-! ends -/
theorem q_end (B : q_OkM Γ Y d K0) {v : Option Value} (kv : K0 v Sh I) {ad : Nat → Nat} {H : Heap} {locs : List Loc} (hP : va_P (q_D Γ) vwCl (q_ws (q_cA Γ) ad Sh I) H) (hD : va_D (q_A Γ) (q_ws (q_cA Γ) ad Sh I)) (hS : va_S (q_A Γ) (q_s Γ).heap H locs) (hn : q_grow (q_n0 Γ) (q_ad0 Γ) Sh.1 ad) :
    ∀ t : State, t.heap = H → (q_s Γ).WarmedH t.vm → q_Qc (q_D Γ) (q_cA Γ) (q_n0 Γ) (q_ad0 Γ) K0 (q_A Γ) (q_args Γ) (q_s Γ) (.returned (v.map (q_cv ad))) t :=
  fun t ht _ => ⟨⟨v, Sh, I, ad, rfl, kv, hn, by rw [ht]; exact hP, hD⟩, hS.F ht⟩
theorem q_iret (B : q_OkM Γ Y d K0) {v : Int32} (hr : Y.2.2.2 = some .int) (hd : decode Y.2.1 pc = .ok (.ireturn, 1)) (kv : K0 (some (.int v)) Sh I) : q_W Γ Y rc rs Sh I pc lv [.int v] := by
  intro ad H locs cells slots ls h1 h2 hP hD hS hn hls
  rw [B.2.2]
  refine W.widen (k := (q_bud Γ).1) (n := (q_bud Γ).2) (by omega) (by omega) ?_
  exact W.iret B.1.1 B.1.2.1 (B.2.1.trans hr) (q_end B kv hP hD hS hn) hS.2.2 hd B.1.2.2.2.2.2.1
theorem q_zret (B : q_OkM Γ Y d K0) {v : Int32} (hr : Y.2.2.2 = some .boolean) (hv : v = 0 ∨ v = 1) (hd : decode Y.2.1 pc = .ok (.ireturn, 1)) (kv : K0 (some (.int v)) Sh I) : q_W Γ Y rc rs Sh I pc lv [.int v] := by
  intro ad H locs cells slots ls h1 h2 hP hD hS hn hls
  rw [B.2.2]
  refine W.widen (k := (q_bud Γ).1) (n := (q_bud Γ).2) (by omega) (by omega) ?_
  exact W.zret B.1.1 B.1.2.1 (B.2.1.trans hr) (by rcases hv with rfl | rfl <;> rfl) (q_end B kv hP hD hS hn) hS.2.2 hd B.1.2.2.2.2.2.1
theorem q_vret (B : q_OkM Γ Y d K0) (hr : Y.2.2.2 = none) (hd : decode Y.2.1 pc = .ok (.return_, 1)) (kv : K0 none Sh I) : q_W Γ Y rc rs Sh I pc lv [] := by
  intro ad H locs cells slots ls h1 h2 hP hD hS hn hls
  rw [B.2.2]
  refine W.widen (k := (q_bud Γ).1) (n := (q_bud Γ).2) (by omega) (by omega) ?_
  exact W.vret B.1.1 B.1.2.1 (B.2.1.trans hr) (q_end B kv hP hD hS hn) hS.2.2 hd B.1.2.2.2.2.2.1
theorem q_aret (B : q_OkM Γ Y d K0) {b : Nat} {C : String} (hr : Y.2.2.2 = some (.object C)) (hd : decode Y.2.1 pc = .ok (.areturn, 1)) (kv : K0 (some (.ref b)) Sh I) : q_W Γ Y rc rs Sh I pc lv [.ref b] := by
  intro ad H locs cells slots ls h1 h2 hP hD hS hn hls
  rw [B.2.2]
  refine W.widen (k := (q_bud Γ).1) (n := (q_bud Γ).2) (by omega) (by omega) ?_
  exact W.aret B.1.1 B.1.2.1 (B.2.1.trans hr) (Or.inl ⟨C, rfl⟩) (Or.inr ⟨ad b, rfl⟩) (q_end B kv hP hD hS hn) hS.2.2 hd B.1.2.2.2.2.2.1
theorem q_aretN (B : q_OkM Γ Y d K0) {C : String} (hr : Y.2.2.2 = some (.object C)) (hd : decode Y.2.1 pc = .ok (.areturn, 1)) (kv : K0 (some .null) Sh I) : q_W Γ Y rc rs Sh I pc lv [.null] := by
  intro ad H locs cells slots ls h1 h2 hP hD hS hn hls
  rw [B.2.2]
  refine W.widen (k := (q_bud Γ).1) (n := (q_bud Γ).2) (by omega) (by omega) ?_
  exact W.aret B.1.1 B.1.2.1 (B.2.1.trans hr) (Or.inl ⟨C, rfl⟩) (Or.inl rfl) (q_end B kv hP hD hS hn) hS.2.2 hd B.1.2.2.2.2.2.1
/-! calls -/
/-- what the tables say of a method -/
def q_Vm (Y : q_Mth) (n : Nat) : Prop := Cond.code Y.1 Y.2.1 Y.2.2.1 Y.2.2.2 ∈ q_WS ∧ Cond.initialized Y.1.cls ∈ q_WS ∧ (Y.1.cls ≠ "java/lang/invoke/MethodHandle" ∧ Y.1.cls ≠ "java/lang/invoke/VarHandle" ∧ (parseMethodDescriptor Y.1.desc).map (fun d => d.parameters.length) = some n) ∧ Y.2.2.1 ≤ 11
theorem q_goodY {Y' : q_Mth} (h : Cond.code Y'.1 Y'.2.1 Y'.2.2.1 Y'.2.2.2 ∈ q_WS) : GoodIn q_WS (q_ws1 Y') := by
  intro w hw
  rcases List.mem_cons.mp hw with rfl | hw
  · exact ⟨h, good_of_word (List.mem_filter.mp h).2⟩
  · exact ⟨hw, good_of_word (List.mem_filter.mp hw).2⟩
theorem q_blind {D : va_G} {cA : Nat → ClassId} {ad : Nat → Nat} {sz : Nat} {args : List Value} {Sh : q_Sh} {I : q_Mem} : FrameBlind (q_Pc D cA ad sz args Sh I) := by
  intro a U g mk q
  obtain ⟨q0, q1, qP, qK, qD, qE⟩ := q
  exact ⟨q0, q1, qP, va_K.moved (u := U) (U := U.calling g mk a) (Vm.Alike.refl U.vm) qK, qD, q_ext_calling g mk a qE⟩
theorem q_pre (B : q_Ok Γ Y d) {ad : Nat → Nat} {H : Heap} {args : List Value} (hP : va_P (q_D Γ) vwCl (q_ws (q_cA Γ) ad Sh I) H) (hD : va_D (q_A Γ) (q_ws (q_cA Γ) ad Sh I)) : ∀ U : State, U.heap = H → (q_s Γ).WarmedH U.vm → q_Pc (q_D Γ) (q_cA Γ) ad H.size args Sh I (args.map (q_cv ad)).toArray U :=
  fun U hU hW => ⟨rfl, by rw [hU], by rw [hU]; exact hP, va_K.moved hW.alike B.2.2.2.2.2.2.1, hD.weaken (fun _ _ _ _ => trivial), q_ext_moved hW B.2.2.2.2.2.2.2.2.1⟩
/-- nothing on the list is the new place -/
def q_old (n : Nat) (v : Value) : Prop := ∀ x, v = .ref x → x < n
theorem q_cv_old {n : Nat} {ad ad' : Nat → Nat} (h : ∀ l, l < n → ad' l = ad l) {v : Value} (hv : q_old n v) : q_cv ad' v = q_cv ad v := by
  cases v with
  | ref x => exact congrArg Value.ref (h x (hv x rfl))
  | _ => rfl
def q_noA (Sh Sh' : q_Sh) (lv : List (Nat × Value)) (st : List Value) : Prop := Sh'.1 = Sh.1 ∨ ((∀ q ∈ lv, q_old Sh.1 q.2) ∧ ∀ v ∈ st, q_old Sh.1 v)
theorem q_after (B : q_Ok Γ Y d) {Sh' : q_Sh} {I' : q_Mem} {ad ad' : Nat → Nat} {v : Option Value} (ho : q_noA Sh Sh' lv st) (hg : q_grow Sh.1 ad Sh'.1 ad') : q_lvm ad lv = q_lvm ad' lv ∧ st.map (q_cv ad) = st.map (q_cv ad') := by
  rcases ho with e | ⟨o1, o2⟩
  · rw [hg.2.2 e]; exact ⟨rfl, rfl⟩
  · refine ⟨List.map_congr_left fun q hq => ?_, List.map_congr_left fun q hq => ?_⟩
    · rw [q_cv_old hg.2.1 (o1 q hq)]
    · rw [q_cv_old hg.2.1 (o2 q hq)]
theorem q_run (B : q_Ok Γ Y d) {ad : Nat → Nat} {H : Heap} {locs : List Loc} {cells slots mc ms : Nat} {ls : Array Slot} {st0 : List Value} {K : Option Value → q_Sh → q_Mem → Prop} {a : Array Value}
    (hr : va_Run (q_p Γ) (q_l Γ) (q_e Γ) (q_R Γ) (q_s Γ) (q_m Γ) (q_args Γ) (q_below Γ) (q_meth Γ) (q_c Γ) H locs cells slots mc ms (F0 (q_m Γ) pc ls st0) (st.map (q_cv ad)) (q_Qc (q_D Γ) (q_cA Γ) Sh.1 ad K (va_A (q_ws (q_cA Γ) ad Sh I) H.size) a) (va_A (q_ws (q_cA Γ) ad Sh I) H.size))
    (h1 : cells + (rc + mc) ≤ (q_bud Γ).1) (h2 : slots + (rs + ms) ≤ (q_bud Γ).2) (hP : va_P (q_D Γ) vwCl (q_ws (q_cA Γ) ad Sh I) H) (hD : va_D (q_A Γ) (q_ws (q_cA Γ) ad Sh I)) (hS : va_S (q_A Γ) (q_s Γ).heap H locs) (hn : q_grow (q_n0 Γ) (q_ad0 Γ) Sh.1 ad) (hls : lv_has ls Y.2.2.1 (q_lvm ad lv))
    (kk : ∀ v Sh' I', K v Sh' I' → q_noA Sh Sh' lv st ∧ q_W Γ Y rc rs Sh' I' (pc + 3) lv (v.toList ++ st)) : W (q_p Γ) (q_l Γ) (q_e Γ) (q_R Γ) (q_s Γ) (q_m Γ) (q_args Γ) (q_below Γ) (q_meth Γ) (q_c Γ) H locs cells slots (q_Q Γ) (F0 (q_m Γ) pc ls st0) := by
  have hF : ∀ q, va_A (q_ws (q_cA Γ) ad Sh I) H.size q → q_A Γ q := by
    intro q hq
    rcases hq with ⟨k, e, h⟩ | h
    · exact hD.2 k _ h
    · exact B.2.2.2.2.2.2.2.1 q (Nat.le_trans hS.1 h)
  intro T hT X
  obtain ⟨v, st₀, t, T', L, h0, X', hL, e1, e2, ⟨⟨v', Sh', I', ad', g1, g2, g3, g4, g5⟩, hz, hk⟩, stp⟩ := hr T hT X
  have ev : v = v'.map (q_cv ad') := by cases g1; rfl
  subst ev
  rw [h0] at hz hk
  obtain ⟨ho, kw⟩ := kk _ _ _ g2
  obtain ⟨m1, m2⟩ := q_after (I' := I') (v := v') B ho g3
  rw [m1] at hls
  have hS1 : va_S (q_A Γ) (q_s Γ).heap T'.heap (locs ++ L) := by
    refine ⟨Nat.le_trans hS.1 (by rw [e1]; exact hz), fun q a1 a2 => ?_, fun q hq => ?_⟩
    · rw [e1, hk q (Nat.lt_of_lt_of_le a1 hS.1) (fun z => a2 (hF q z))]
      exact hS.2.1 q a1 a2
    · rcases List.mem_append.mp hq with h | h
      · exact hS.2.2 q h
      · exact hF _ (hL q h)
  have w := kw ad' T'.heap (locs ++ L) (cells + mc) (slots + ms) ls (by omega) (by omega) (by rw [e1]; exact g4) (g5.weaken (fun k q _ h => hF q.1 h)) hS1 (q_grow_tr hn g3) hls
  obtain ⟨t2, a1, b1⟩ := w T' rfl X'
  refine ⟨t2, stp t2 ?_, b1⟩
  have e3 : (v'.map (q_cv ad')).toList ++ st.map (q_cv ad) = (v'.toList ++ st).map (q_cv ad') := by
    rw [m2, List.map_append]
    cases v' <;> rfl
  show Steps _ _ _ (T'.setTop (F0 (q_m Γ) (pc + 3) ls ((v'.map (q_cv ad')).toList ++ st.map (q_cv ad)))) t2
  rw [e3]
  exact a1
theorem q_wsum (ad : Nat → Nat) (st : List Value) : ((st.map (q_cv ad)).map fun v => v.category).sum = (st.map fun v => v.category).sum := by
  rw [List.map_map]
  congr 1
  exact List.map_congr_left fun v _ => q_cat ad v
theorem q_fit {d d' mc ms : Nat} {Γ : q_Cx} {Y Y' : q_Mth} (B : q_Ok Γ Y d) (hdd : d' + 1 ≤ d) (hm : Y'.2.2.1 ≤ 11) : (q_rm d' mc ms).frames + 1 ≤ (q_R Γ).frames ∧ 8 + (Y'.2.2.1 + 11) + (q_rm d' mc ms).locals ≤ (q_R Γ).locals := by
  obtain ⟨-, -, -, -, -, -, -, -, -, -, -, h1, h2⟩ := B
  refine ⟨Nat.le_trans hdd h1, ?_⟩
  show 8 + (Y'.2.2.1 + 11) + 30 * d' ≤ _
  omega
theorem q_callV (B : q_Ok Γ Y d) {Y' : q_Mth} {d' mc ms n i ci b : Nat} {As : List Value} {q : vw_C} {K : Option Value → q_Sh → q_Mem → Prop} (hM : q_Call Y' d' mc ms (.ref b :: As) Sh I K) (hV : q_Vm Y' n) (hin : Cond.instanceMethod Y'.1 ∈ q_WS) (hse : Cond.selects Y'.1.cls Y'.1 Y'.1 ∈ q_WS) (hl : Cond.methodLink Y.1.cls i Y'.1 ∈ q_WS) (hn : As.length = n) (hc : vwCl[ci]? = some q) (hq : q.1 = Y'.1.cls) (hb : q_is Sh b ci) (hdd : d' + 1 ≤ d)
    (hsum : (st.map fun v => v.category).sum ≤ 8) (hd : decode Y.2.1 pc = .ok (.invokevirtual i, 3)) (kk : ∀ v Sh' I', K v Sh' I' → q_noA Sh Sh' lv st ∧ q_W Γ Y rc rs Sh' I' (pc + 3) lv (v.toList ++ st)) : q_W Γ Y (rc + mc) (rs + ms) Sh I pc lv (As.reverse ++ .ref b :: st) := by
  intro ad H locs cells slots ls h1 h2 hP hD hS hg hls
  have hts := B.2.2.2.2.1
  have he := q_ws_at (cA := q_cA Γ) (ad := ad) (I := I) hb.1
  rw [q_E_obj hb.2] at he
  have hrv := va_recv B.2.2.2.2.2.2.1 hP hc he
  rw [hq] at hrv
  have e : (As.reverse ++ Value.ref b :: st).map (q_cv ad) = (As.map (q_cv ad)).reverse ++ .ref (ad b) :: st.map (q_cv ad) := by
    rw [List.map_append, List.map_reverse]; rfl
  rw [e]
  have hgd := q_goodY hV.1
  refine q_run B (va_runV (As := As.map (q_cv ad)) ⟨B.1, B.2.1, B.2.2.1, B.2.2.2.1, hts⟩ (hM (q_l Γ) (q_D Γ) (q_cA Γ) ad H.size) ⟨callB_of n hts hgd rfl rfl rfl (hts _ hV.2.1) (hts _ hl) hV.2.2.1 (q_fit B hdd hV.2.2.2), hts _ hin, hts _ hse⟩ ⟨q_blind, hrv, q_pre B hP hD⟩ rfl (by rw [List.length_map]; exact hn) hls.1 rfl (lv_room (by rw [q_wsum]; exact hsum)) hd ⟨?_, ?_⟩) h1 h2 hP hD hS hg hls kk
  · have := B.2.2.2.2.2.2.2.2.2.1.1
    omega
  · have := B.2.2.2.2.2.2.2.2.2.1.2
    omega
theorem q_callI (B : q_Ok Γ Y d) {Y' : q_Mth} {d' mc ms n i b : Nat} {As : List Value} {K : Option Value → q_Sh → q_Mem → Prop} (hM : q_Call Y' d' mc ms (.ref b :: As) Sh I K) (hV : q_Vm Y' n) (hin : Cond.instanceMethod Y'.1 ∈ q_WS) (hnm : Y'.1.name = "<init>") (hrt : Y'.2.2.2 = none) (hl : Cond.methodLink Y.1.cls i Y'.1 ∈ q_WS) (hn : As.length = n) (hdd : d' + 1 ≤ d)
    (hsum : (st.map fun v => v.category).sum ≤ 8) (hd : decode Y.2.1 pc = .ok (.invokespecial i, 3)) (kk : ∀ v Sh' I', K v Sh' I' → q_noA Sh Sh' lv st ∧ q_W Γ Y rc rs Sh' I' (pc + 3) lv (v.toList ++ st)) : q_W Γ Y (rc + mc) (rs + ms) Sh I pc lv (As.reverse ++ .ref b :: st) := by
  intro ad H locs cells slots ls h1 h2 hP hD hS hg hls
  have hts := B.2.2.2.2.1
  have e : (As.reverse ++ Value.ref b :: st).map (q_cv ad) = (As.map (q_cv ad)).reverse ++ .ref (ad b) :: st.map (q_cv ad) := by
    rw [List.map_append, List.map_reverse]; rfl
  rw [e]
  have hgd := q_goodY hV.1
  have hcb := callB_of (R := q_R Γ) (s := q_s Γ) (args := q_args Γ) (rm := q_rm d' mc ms) n hts hgd rfl rfl rfl (hts _ hV.2.1) (hts _ hl) hV.2.2.1 (q_fit B hdd hV.2.2.2)
  rw [hrt] at hcb
  refine q_run B (va_runI (As := As.map (q_cv ad)) ⟨B.1, B.2.1, B.2.2.1, B.2.2.2.1, hts⟩ (hM (q_l Γ) (q_D Γ) (q_cA Γ) ad H.size) ⟨hcb, hnm, hts _ hin⟩ ⟨q_blind, q_pre B hP hD⟩ rfl (by rw [List.length_map]; exact hn) hls.1 rfl (lv_room (by rw [q_wsum]; exact hsum)) hd ⟨?_, ?_⟩) h1 h2 hP hD hS hg hls kk
  · have := B.2.2.2.2.2.2.2.2.2.1.1
    omega
  · have := B.2.2.2.2.2.2.2.2.2.1.2
    omega
theorem q_callIN (B : q_Ok Γ Y d) {Y' : q_Mth} {d' mc ms n i b : Nat} {As : List Value} {K : Option Value → q_Sh → q_Mem → Prop} (hM : q_Call Y' d' mc ms (.ref b :: As) Sh I K) (hV : q_Vm Y' n) (hin : Cond.instanceMethod Y'.1 ∈ q_WS) (hnm : Y'.1.name = "<init>") (hrt : Y'.2.2.2 = none) (hl : Cond.methodLinkNest Y.1.cls i Y'.1 RX6 ∈ q_nl) (hn : As.length = n) (hdd : d' + 1 ≤ d)
    (hsum : (st.map fun v => v.category).sum ≤ 8) (hd : decode Y.2.1 pc = .ok (.invokespecial i, 3)) (kk : ∀ v Sh' I', K v Sh' I' → q_noA Sh Sh' lv st ∧ q_W Γ Y rc rs Sh' I' (pc + 3) lv (v.toList ++ st)) : q_W Γ Y (rc + mc) (rs + ms) Sh I pc lv (As.reverse ++ .ref b :: st) := by
  intro ad H locs cells slots ls h1 h2 hP hD hS hg hls
  have hts := B.2.2.2.2.1
  have e : (As.reverse ++ Value.ref b :: st).map (q_cv ad) = (As.map (q_cv ad)).reverse ++ .ref (ad b) :: st.map (q_cv ad) := by
    rw [List.map_append, List.map_reverse]; rfl
  rw [e]
  have hgd := q_goodY hV.1
  have hcb := va_cnB (R := q_R Γ) (s := q_s Γ) (args := q_args Γ) (rm := q_rm d' mc ms) n hts hgd rfl rfl rfl (B.2.2.2.2.2.2.2.2.1.1 _ hl) (hts _ hV.2.1) hV.2.2.1 (q_fit B hdd hV.2.2.2)
  rw [hrt] at hcb
  refine q_run B (va_runIN (As := As.map (q_cv ad)) ⟨B.1, B.2.1, B.2.2.1, B.2.2.2.1, hts⟩ (hM (q_l Γ) (q_D Γ) (q_cA Γ) ad H.size) ⟨hcb, hnm, hts _ hin⟩ ⟨q_blind, q_pre B hP hD⟩ rfl (by rw [List.length_map]; exact hn) hls.1 rfl (lv_room (by rw [q_wsum]; exact hsum)) hd ⟨?_, ?_⟩) h1 h2 hP hD hS hg hls kk
  · have := B.2.2.2.2.2.2.2.2.2.1.1
    omega
  · have := B.2.2.2.2.2.2.2.2.2.1.2
    omega
theorem q_callS (B : q_Ok Γ Y d) {Y' : q_Mth} {d' mc ms n i : Nat} {As : List Value} {K : Option Value → q_Sh → q_Mem → Prop} (hM : q_Call Y' d' mc ms As Sh I K) (hV : q_Vm Y' n) (hin : Cond.static Y'.1 ∈ q_WS) (hl : Cond.methodLink Y.1.cls i Y'.1 ∈ q_WS) (hn : As.length = n) (hdd : d' + 1 ≤ d)
    (hsum : (st.map fun v => v.category).sum ≤ 8) (hd : decode Y.2.1 pc = .ok (.invokestatic i, 3)) (kk : ∀ v Sh' I', K v Sh' I' → q_noA Sh Sh' lv st ∧ q_W Γ Y rc rs Sh' I' (pc + 3) lv (v.toList ++ st)) : q_W Γ Y (rc + mc) (rs + ms) Sh I pc lv (As.reverse ++ st) := by
  intro ad H locs cells slots ls h1 h2 hP hD hS hg hls
  have hts := B.2.2.2.2.1
  have e : (As.reverse ++ st).map (q_cv ad) = (As.map (q_cv ad)).reverse ++ st.map (q_cv ad) := by
    rw [List.map_append, List.map_reverse]
  rw [e]
  have hgd := q_goodY hV.1
  refine q_run B (va_runS (As := As.map (q_cv ad)) ⟨B.1, B.2.1, B.2.2.1, B.2.2.2.1, hts⟩ (hM (q_l Γ) (q_D Γ) (q_cA Γ) ad H.size) ⟨callB_of n hts hgd rfl rfl rfl (hts _ hV.2.1) (hts _ hl) hV.2.2.1 (q_fit B hdd hV.2.2.2), hts _ hin⟩ ⟨q_blind, q_pre B hP hD⟩ rfl (by rw [List.length_map]; exact hn) hls.1 rfl (lv_room (by rw [q_wsum]; exact hsum)) hd ⟨?_, ?_⟩) h1 h2 hP hD hS hg hls kk
  · have := B.2.2.2.2.2.2.2.2.2.1.1
    omega
  · have := B.2.2.2.2.2.2.2.2.2.1.2
    omega
theorem q_callSN (B : q_Ok Γ Y d) {Y' : q_Mth} {d' mc ms n i : Nat} {As : List Value} {K : Option Value → q_Sh → q_Mem → Prop} (hM : q_Call Y' d' mc ms As Sh I K) (hV : q_Vm Y' n) (hin : Cond.static Y'.1 ∈ q_WS) (hl : Cond.methodLinkNest Y.1.cls i Y'.1 RX6 ∈ q_nl) (hn : As.length = n) (hdd : d' + 1 ≤ d)
    (hsum : (st.map fun v => v.category).sum ≤ 8) (hd : decode Y.2.1 pc = .ok (.invokestatic i, 3)) (kk : ∀ v Sh' I', K v Sh' I' → q_noA Sh Sh' lv st ∧ q_W Γ Y rc rs Sh' I' (pc + 3) lv (v.toList ++ st)) : q_W Γ Y (rc + mc) (rs + ms) Sh I pc lv (As.reverse ++ st) := by
  intro ad H locs cells slots ls h1 h2 hP hD hS hg hls
  have hts := B.2.2.2.2.1
  have e : (As.reverse ++ st).map (q_cv ad) = (As.map (q_cv ad)).reverse ++ st.map (q_cv ad) := by
    rw [List.map_append, List.map_reverse]
  rw [e]
  have hgd := q_goodY hV.1
  refine q_run B (va_runSN (As := As.map (q_cv ad)) ⟨B.1, B.2.1, B.2.2.1, B.2.2.2.1, hts⟩ (hM (q_l Γ) (q_D Γ) (q_cA Γ) ad H.size) ⟨va_cnB (R := q_R Γ) (s := q_s Γ) (args := q_args Γ) (rm := q_rm d' mc ms) n hts hgd rfl rfl rfl (B.2.2.2.2.2.2.2.2.1.1 _ hl) (hts _ hV.2.1) hV.2.2.1 (q_fit B hdd hV.2.2.2), hts _ hin, trivial⟩ ⟨q_blind, q_pre B hP hD⟩ rfl (by rw [List.length_map]; exact hn) hls.1 rfl (lv_room (by rw [q_wsum]; exact hsum)) hd ⟨?_, ?_⟩) h1 h2 hP hD hS hg hls kk
  · have := B.2.2.2.2.2.2.2.2.2.1.1
    omega
  · have := B.2.2.2.2.2.2.2.2.2.1.2
    omega

end QROWS
end
section
theorem ks_yX4_nextPlace : Cond.selects yX4_nextPlace.cls yX4_nextPlace yX4_nextPlace ∈ q_WS := q_mem 0 (by decide +kernel) (by decide +kernel)
theorem ks_yX6_kept : Cond.selects yX6_kept.cls yX6_kept yX6_kept ∈ q_WS := q_mem 1 (by decide +kernel) (by decide +kernel)
theorem ks_yX0_strip : Cond.selects yX0_strip.cls yX0_strip yX0_strip ∈ q_WS := q_mem 2 (by decide +kernel) (by decide +kernel)
theorem ks_yX0_hasThingHere : Cond.selects yX0_hasThingHere.cls yX0_hasThingHere yX0_hasThingHere ∈ q_WS := q_mem 3 (by decide +kernel) (by decide +kernel)
theorem ks_yX0_takeThing : Cond.selects yX0_takeThing.cls yX0_takeThing yX0_takeThing ∈ q_WS := q_mem 4 (by decide +kernel) (by decide +kernel)
theorem ks_yX0_workOf : Cond.selects yX0_workOf.cls yX0_workOf yX0_workOf ∈ q_WS := q_mem 5 (by decide +kernel) (by decide +kernel)
theorem ks_yX0_exchangeLowest : Cond.selects yX0_exchangeLowest.cls yX0_exchangeLowest yX0_exchangeLowest ∈ q_WS := q_mem 6 (by decide +kernel) (by decide +kernel)
theorem ks_yX0_losePatience : Cond.selects yX0_losePatience.cls yX0_losePatience yX0_losePatience ∈ q_WS := q_mem 7 (by decide +kernel) (by decide +kernel)
theorem ks_yX6_repairedWith : Cond.selects yX6_repairedWith.cls yX6_repairedWith yX6_repairedWith ∈ q_WS := q_mem 8 (by decide +kernel) (by decide +kernel)
theorem ks_yX2_sign : Cond.selects yX2_sign.cls yX2_sign yX2_sign ∈ q_WS := q_mem 9 (by decide +kernel) (by decide +kernel)
theorem ks_yX2_readThing : Cond.selects yX2_readThing.cls yX2_readThing yX2_readThing ∈ q_WS := q_mem 10 (by decide +kernel) (by decide +kernel)
theorem ks_yX2_readDigit : Cond.selects yX2_readDigit.cls yX2_readDigit yX2_readDigit ∈ q_WS := q_mem 11 (by decide +kernel) (by decide +kernel)
theorem ks_yX2_digitAtMost : Cond.selects yX2_digitAtMost.cls yX2_digitAtMost yX2_digitAtMost ∈ q_WS := q_mem 12 (by decide +kernel) (by decide +kernel)
theorem ks_yX2_readSet : Cond.selects yX2_readSet.cls yX2_readSet yX2_readSet ∈ q_WS := q_mem 13 (by decide +kernel) (by decide +kernel)
theorem ks_yX2_readNumber : Cond.selects yX2_readNumber.cls yX2_readNumber yX2_readNumber ∈ q_WS := q_mem 14 (by decide +kernel) (by decide +kernel)
theorem ks_yX2_readLast : Cond.selects yX2_readLast.cls yX2_readLast yX2_readLast ∈ q_WS := q_mem 15 (by decide +kernel) (by decide +kernel)
theorem ks_yX6_carryOrder : Cond.selects yX6_carryOrder.cls yX6_carryOrder yX6_carryOrder ∈ q_WS := q_mem 16 (by decide +kernel) (by decide +kernel)
theorem ks_yX7_refusesThing : Cond.selects yX7_refusesThing.cls yX7_refusesThing yX7_refusesThing ∈ q_WS := q_mem 17 (by decide +kernel) (by decide +kernel)
theorem ks_yX7_records : Cond.selects yX7_records.cls yX7_records yX7_records ∈ q_WS := q_mem 18 (by decide +kernel) (by decide +kernel)
theorem ks_yX7_comes : Cond.selects yX7_comes.cls yX7_comes yX7_comes ∈ q_WS := q_mem 19 (by decide +kernel) (by decide +kernel)
theorem ks_yX7_lay : Cond.selects yX7_lay.cls yX7_lay yX7_lay ∈ q_WS := q_mem 20 (by decide +kernel) (by decide +kernel)
theorem ks_yX7_refusesFixer : Cond.selects yX7_refusesFixer.cls yX7_refusesFixer yX7_refusesFixer ∈ q_WS := q_mem 21 (by decide +kernel) (by decide +kernel)
theorem ks_yX7_comesFixer : Cond.selects yX7_comesFixer.cls yX7_comesFixer yX7_comesFixer ∈ q_WS := q_mem 22 (by decide +kernel) (by decide +kernel)
theorem ks_yX7_isThing : Cond.selects yX7_isThing.cls yX7_isThing yX7_isThing ∈ q_WS := q_mem 23 (by decide +kernel) (by decide +kernel)
theorem ks_yX7_of : Cond.selects yX7_of.cls yX7_of yX7_of ∈ q_WS := q_mem 24 (by decide +kernel) (by decide +kernel)
theorem ks_yX7_strips : Cond.selects yX7_strips.cls yX7_strips yX7_strips ∈ q_WS := q_mem 25 (by decide +kernel) (by decide +kernel)
theorem ks_yX7_refusesPass : Cond.selects yX7_refusesPass.cls yX7_refusesPass yX7_refusesPass ∈ q_WS := q_mem 26 (by decide +kernel) (by decide +kernel)
theorem ks_yX7_minutes : Cond.selects yX7_minutes.cls yX7_minutes yX7_minutes ∈ q_WS := q_mem 27 (by decide +kernel) (by decide +kernel)
theorem ks_yX7_withHow : Cond.selects yX7_withHow.cls yX7_withHow yX7_withHow ∈ q_WS := q_mem 28 (by decide +kernel) (by decide +kernel)
theorem ks_yX7_minute : Cond.selects yX7_minute.cls yX7_minute yX7_minute ∈ q_WS := q_mem 29 (by decide +kernel) (by decide +kernel)
theorem ks_yX7_fixer0 : Cond.selects yX7_fixer0.cls yX7_fixer0 yX7_fixer0 ∈ q_WS := q_mem 30 (by decide +kernel) (by decide +kernel)
theorem ks_yX7_takes : Cond.selects yX7_takes.cls yX7_takes yX7_takes ∈ q_WS := q_mem 31 (by decide +kernel) (by decide +kernel)
theorem ks_yX7_nextFor : Cond.selects yX7_nextFor.cls yX7_nextFor yX7_nextFor ∈ q_WS := q_mem 32 (by decide +kernel) (by decide +kernel)
theorem ks_yX7_works : Cond.selects yX7_works.cls yX7_works yX7_works ∈ q_WS := q_mem 33 (by decide +kernel) (by decide +kernel)
theorem ks_yX7_more : Cond.selects yX7_more.cls yX7_more yX7_more ∈ q_WS := q_mem 34 (by decide +kernel) (by decide +kernel)
theorem ks_yX7_exchanges : Cond.selects yX7_exchanges.cls yX7_exchanges yX7_exchanges ∈ q_WS := q_mem 35 (by decide +kernel) (by decide +kernel)
theorem ks_yX7_tests : Cond.selects yX7_tests.cls yX7_tests yX7_tests ∈ q_WS := q_mem 36 (by decide +kernel) (by decide +kernel)
theorem ks_yX7_givesUp : Cond.selects yX7_givesUp.cls yX7_givesUp yX7_givesUp ∈ q_WS := q_mem 37 (by decide +kernel) (by decide +kernel)
theorem ks_yX7_frees : Cond.selects yX7_frees.cls yX7_frees yX7_frees ∈ q_WS := q_mem 38 (by decide +kernel) (by decide +kernel)
theorem ks_yX7_fixerOf : Cond.selects yX7_fixerOf.cls yX7_fixerOf yX7_fixerOf ∈ q_WS := q_mem 39 (by decide +kernel) (by decide +kernel)
theorem ks_yX7_placeOf : Cond.selects yX7_placeOf.cls yX7_placeOf yX7_placeOf ∈ q_WS := q_mem 40 (by decide +kernel) (by decide +kernel)
theorem ks_yX7_brokenOnes : Cond.selects yX7_brokenOnes.cls yX7_brokenOnes yX7_brokenOnes ∈ q_WS := q_mem 41 (by decide +kernel) (by decide +kernel)
theorem ks_yX7_putAside : Cond.selects yX7_putAside.cls yX7_putAside yX7_putAside ∈ q_WS := q_mem 42 (by decide +kernel) (by decide +kernel)
theorem ks_yX7_takeBack : Cond.selects yX7_takeBack.cls yX7_takeBack yX7_takeBack ∈ q_WS := q_mem 43 (by decide +kernel) (by decide +kernel)
theorem ks_yX7_repairedWith : Cond.selects yX7_repairedWith.cls yX7_repairedWith yX7_repairedWith ∈ q_WS := q_mem 44 (by decide +kernel) (by decide +kernel)
theorem ks_yX7_reads : Cond.selects yX7_reads.cls yX7_reads yX7_reads ∈ q_WS := q_mem 45 (by decide +kernel) (by decide +kernel)
theorem ks_yX7_readsOrder : Cond.selects yX7_readsOrder.cls yX7_readsOrder yX7_readsOrder ∈ q_WS := q_mem 46 (by decide +kernel) (by decide +kernel)
theorem ks_yX7_sign : Cond.selects yX7_sign.cls yX7_sign yX7_sign ∈ q_WS := q_mem 47 (by decide +kernel) (by decide +kernel)
theorem ks_yX7_digit : Cond.selects yX7_digit.cls yX7_digit yX7_digit ∈ q_WS := q_mem 48 (by decide +kernel) (by decide +kernel)
theorem ks_yX7_takesSign : Cond.selects yX7_takesSign.cls yX7_takesSign yX7_takesSign ∈ q_WS := q_mem 49 (by decide +kernel) (by decide +kernel)
theorem ks_yX7_digits : Cond.selects yX7_digits.cls yX7_digits yX7_digits ∈ q_WS := q_mem 50 (by decide +kernel) (by decide +kernel)
theorem ks_yX7_number : Cond.selects yX7_number.cls yX7_number yX7_number ∈ q_WS := q_mem 51 (by decide +kernel) (by decide +kernel)
theorem ks_yX7_refuses : Cond.selects yX7_refuses.cls yX7_refuses yX7_refuses ∈ q_WS := q_mem 52 (by decide +kernel) (by decide +kernel)
theorem ks_yX7_does : Cond.selects yX7_does.cls yX7_does yX7_does ∈ q_WS := q_mem 53 (by decide +kernel) (by decide +kernel)
theorem k0_L : Cond.initialized RL ∈ q_WS := q_mem 54 (by decide +kernel) (by decide +kernel)
theorem k0_X6 : Cond.initialized RX6 ∈ q_WS := q_mem 55 (by decide +kernel) (by decide +kernel)
theorem k0_X0 : Cond.initialized RX0 ∈ q_WS := q_mem 56 (by decide +kernel) (by decide +kernel)
theorem k0_X5 : Cond.initialized RX5 ∈ q_WS := q_mem 57 (by decide +kernel) (by decide +kernel)
theorem k0_X1 : Cond.initialized RX1 ∈ q_WS := q_mem 58 (by decide +kernel) (by decide +kernel)
theorem k0_X3 : Cond.initialized RX3 ∈ q_WS := q_mem 59 (by decide +kernel) (by decide +kernel)
theorem k0_X4 : Cond.initialized RX4 ∈ q_WS := q_mem 60 (by decide +kernel) (by decide +kernel)
theorem k0_X2 : Cond.initialized RX2 ∈ q_WS := q_mem 61 (by decide +kernel) (by decide +kernel)
theorem k0_X7 : Cond.initialized RX7 ∈ q_WS := q_mem 62 (by decide +kernel) (by decide +kernel)
theorem k0_J9 : Cond.initialized "java/lang/Math" ∈ q_WS := q_mem 63 (by decide +kernel) (by decide +kernel)
theorem kl_L_7 : Cond.classLink RL 7 RX6 ∈ q_WS := q_mem 64 (by decide +kernel) (by decide +kernel)
theorem k1_X6 : Cond.instantiable RX6 5 ∈ q_WS := q_mem 65 (by decide +kernel) (by decide +kernel)
theorem km_L_9 : Cond.methodLink RL 9 yX6_init ∈ q_WS := q_mem 66 (by decide +kernel) (by decide +kernel)
theorem ki_yX6_init : Cond.instanceMethod yX6_init ∈ q_WS := q_mem 67 (by decide +kernel) (by decide +kernel)
theorem km_X6_1 : Cond.methodLink RX6 1 objectInit ∈ q_WS := q_mem 69 (by decide +kernel) (by decide +kernel)
theorem ki_objectInit : Cond.instanceMethod objectInit ∈ q_WS := q_mem 70 (by decide +kernel) (by decide +kernel)
theorem kl_X6_7 : Cond.classLink RX6 7 RX0 ∈ q_WS := q_mem 72 (by decide +kernel) (by decide +kernel)
theorem k1_X0 : Cond.instantiable RX0 6 ∈ q_WS := q_mem 73 (by decide +kernel) (by decide +kernel)
theorem km_X6_9 : Cond.methodLink RX6 9 yX0_init ∈ q_WS := q_mem 74 (by decide +kernel) (by decide +kernel)
theorem ki_yX0_init : Cond.instanceMethod yX0_init ∈ q_WS := q_mem 75 (by decide +kernel) (by decide +kernel)
theorem km_X0_3 : Cond.methodLink RX0 3 objectInit ∈ q_WS := q_mem 77 (by decide +kernel) (by decide +kernel)
theorem kl_X0_21 : Cond.classLink RX0 21 RX5 ∈ q_WS := q_mem 78 (by decide +kernel) (by decide +kernel)
theorem kl_X0_27 : Cond.classLink RX0 27 RX1 ∈ q_WS := q_mem 80 (by decide +kernel) (by decide +kernel)
theorem kl_X0_33 : Cond.classLink RX0 33 RX3 ∈ q_WS := q_mem 82 (by decide +kernel) (by decide +kernel)
theorem k1_X5 : Cond.instantiable RX5 8 ∈ q_WS := q_mem 84 (by decide +kernel) (by decide +kernel)
theorem kn_X0_39 : Cond.methodLinkNest RX0 39 yX5_init RX6 ∈ q_nl := List.mem_of_getElem? (i := 0) rfl
theorem ki_yX5_init : Cond.instanceMethod yX5_init ∈ q_WS := q_mem 86 (by decide +kernel) (by decide +kernel)
theorem km_X5_3 : Cond.methodLink RX5 3 objectInit ∈ q_WS := q_mem 88 (by decide +kernel) (by decide +kernel)
theorem kf_X5_9 : Cond.fieldLink RX5 9 "DonorParts$Thing" "kind" "I" ∈ q_WS := q_mem 89 (by decide +kernel) (by decide +kernel)
theorem kf_X6_66 : Cond.fieldLink RX6 66 "DonorParts$Thing" "kind" "I" ∈ q_WS := q_mem 90 (by decide +kernel) (by decide +kernel)
theorem kf_X0_159 : Cond.fieldLink RX0 159 "DonorParts$Thing" "kind" "I" ∈ q_WS := q_mem 91 (by decide +kernel) (by decide +kernel)
theorem kf_X5_15 : Cond.fieldLink RX5 15 "DonorParts$Thing" "broken" "I" ∈ q_WS := q_mem 92 (by decide +kernel) (by decide +kernel)
theorem kf_X6_72 : Cond.fieldLink RX6 72 "DonorParts$Thing" "broken" "I" ∈ q_WS := q_mem 93 (by decide +kernel) (by decide +kernel)
theorem kf_X0_125 : Cond.fieldLink RX0 125 "DonorParts$Thing" "broken" "I" ∈ q_WS := q_mem 94 (by decide +kernel) (by decide +kernel)
theorem kf_X5_18 : Cond.fieldLink RX5 18 "DonorParts$Thing" "patience" "I" ∈ q_WS := q_mem 95 (by decide +kernel) (by decide +kernel)
theorem kf_X6_75 : Cond.fieldLink RX6 75 "DonorParts$Thing" "patience" "I" ∈ q_WS := q_mem 96 (by decide +kernel) (by decide +kernel)
theorem kf_X0_165 : Cond.fieldLink RX0 165 "DonorParts$Thing" "patience" "I" ∈ q_WS := q_mem 97 (by decide +kernel) (by decide +kernel)
theorem kf_X5_21 : Cond.fieldLink RX5 21 "DonorParts$Thing" "tests" "I" ∈ q_WS := q_mem 98 (by decide +kernel) (by decide +kernel)
theorem kf_X6_78 : Cond.fieldLink RX6 78 "DonorParts$Thing" "tests" "I" ∈ q_WS := q_mem 99 (by decide +kernel) (by decide +kernel)
theorem kf_X0_141 : Cond.fieldLink RX0 141 "DonorParts$Thing" "tests" "I" ∈ q_WS := q_mem 100 (by decide +kernel) (by decide +kernel)
theorem kf_X5_24 : Cond.fieldLink RX5 24 "DonorParts$Thing" "how" "I" ∈ q_WS := q_mem 101 (by decide +kernel) (by decide +kernel)
theorem kf_X6_81 : Cond.fieldLink RX6 81 "DonorParts$Thing" "how" "I" ∈ q_WS := q_mem 102 (by decide +kernel) (by decide +kernel)
theorem kf_X0_82 : Cond.fieldLink RX0 82 "DonorParts$Thing" "how" "I" ∈ q_WS := q_mem 103 (by decide +kernel) (by decide +kernel)
theorem kf_X5_27 : Cond.fieldLink RX5 27 "DonorParts$Thing" "worker" "I" ∈ q_WS := q_mem 104 (by decide +kernel) (by decide +kernel)
theorem kf_X6_84 : Cond.fieldLink RX6 84 "DonorParts$Thing" "worker" "I" ∈ q_WS := q_mem 105 (by decide +kernel) (by decide +kernel)
theorem kf_X0_119 : Cond.fieldLink RX0 119 "DonorParts$Thing" "worker" "I" ∈ q_WS := q_mem 106 (by decide +kernel) (by decide +kernel)
theorem kf_X5_30 : Cond.fieldLink RX5 30 "DonorParts$Thing" "failures" "I" ∈ q_WS := q_mem 107 (by decide +kernel) (by decide +kernel)
theorem kf_X6_87 : Cond.fieldLink RX6 87 "DonorParts$Thing" "failures" "I" ∈ q_WS := q_mem 108 (by decide +kernel) (by decide +kernel)
theorem kf_X5_33 : Cond.fieldLink RX5 33 "DonorParts$Thing" "exchanged" "I" ∈ q_WS := q_mem 109 (by decide +kernel) (by decide +kernel)
theorem kf_X6_90 : Cond.fieldLink RX6 90 "DonorParts$Thing" "exchanged" "I" ∈ q_WS := q_mem 110 (by decide +kernel) (by decide +kernel)
theorem kf_X0_156 : Cond.fieldLink RX0 156 "DonorParts$Thing" "exchanged" "I" ∈ q_WS := q_mem 111 (by decide +kernel) (by decide +kernel)
theorem k1_X1 : Cond.instantiable RX1 6 ∈ q_WS := q_mem 129 (by decide +kernel) (by decide +kernel)
theorem kn_X0_40 : Cond.methodLinkNest RX0 40 yX1_init RX6 ∈ q_nl := List.mem_of_getElem? (i := 1) rfl
theorem ki_yX1_init : Cond.instanceMethod yX1_init ∈ q_WS := q_mem 131 (by decide +kernel) (by decide +kernel)
theorem km_X1_3 : Cond.methodLink RX1 3 objectInit ∈ q_WS := q_mem 133 (by decide +kernel) (by decide +kernel)
theorem kf_X1_9 : Cond.fieldLink RX1 9 "DonorParts$Fixer" "kinds" "I" ∈ q_WS := q_mem 134 (by decide +kernel) (by decide +kernel)
theorem kf_X6_100 : Cond.fieldLink RX6 100 "DonorParts$Fixer" "kinds" "I" ∈ q_WS := q_mem 135 (by decide +kernel) (by decide +kernel)
theorem kf_X0_113 : Cond.fieldLink RX0 113 "DonorParts$Fixer" "kinds" "I" ∈ q_WS := q_mem 136 (by decide +kernel) (by decide +kernel)
theorem kf_X1_15 : Cond.fieldLink RX1 15 "DonorParts$Fixer" "care" "I" ∈ q_WS := q_mem 137 (by decide +kernel) (by decide +kernel)
theorem kf_X6_105 : Cond.fieldLink RX6 105 "DonorParts$Fixer" "care" "I" ∈ q_WS := q_mem 138 (by decide +kernel) (by decide +kernel)
theorem kf_X0_132 : Cond.fieldLink RX0 132 "DonorParts$Fixer" "care" "I" ∈ q_WS := q_mem 139 (by decide +kernel) (by decide +kernel)
theorem kf_X1_18 : Cond.fieldLink RX1 18 "DonorParts$Fixer" "task" "I" ∈ q_WS := q_mem 140 (by decide +kernel) (by decide +kernel)
theorem kf_X6_108 : Cond.fieldLink RX6 108 "DonorParts$Fixer" "task" "I" ∈ q_WS := q_mem 141 (by decide +kernel) (by decide +kernel)
theorem kf_X0_110 : Cond.fieldLink RX0 110 "DonorParts$Fixer" "task" "I" ∈ q_WS := q_mem 142 (by decide +kernel) (by decide +kernel)
theorem kf_X1_21 : Cond.fieldLink RX1 21 "DonorParts$Fixer" "repaired" "I" ∈ q_WS := q_mem 143 (by decide +kernel) (by decide +kernel)
theorem kf_X6_111 : Cond.fieldLink RX6 111 "DonorParts$Fixer" "repaired" "I" ∈ q_WS := q_mem 144 (by decide +kernel) (by decide +kernel)
theorem kf_X0_147 : Cond.fieldLink RX0 147 "DonorParts$Fixer" "repaired" "I" ∈ q_WS := q_mem 145 (by decide +kernel) (by decide +kernel)
theorem kf_X1_24 : Cond.fieldLink RX1 24 "DonorParts$Fixer" "givenUp" "I" ∈ q_WS := q_mem 146 (by decide +kernel) (by decide +kernel)
theorem kf_X6_114 : Cond.fieldLink RX6 114 "DonorParts$Fixer" "givenUp" "I" ∈ q_WS := q_mem 147 (by decide +kernel) (by decide +kernel)
theorem kf_X0_138 : Cond.fieldLink RX0 138 "DonorParts$Fixer" "givenUp" "I" ∈ q_WS := q_mem 148 (by decide +kernel) (by decide +kernel)
theorem kf_X1_27 : Cond.fieldLink RX1 27 "DonorParts$Fixer" "worked" "I" ∈ q_WS := q_mem 149 (by decide +kernel) (by decide +kernel)
theorem kf_X6_117 : Cond.fieldLink RX6 117 "DonorParts$Fixer" "worked" "I" ∈ q_WS := q_mem 150 (by decide +kernel) (by decide +kernel)
theorem kf_X0_122 : Cond.fieldLink RX0 122 "DonorParts$Fixer" "worked" "I" ∈ q_WS := q_mem 151 (by decide +kernel) (by decide +kernel)
theorem k1_X3 : Cond.instantiable RX3 3 ∈ q_WS := q_mem 165 (by decide +kernel) (by decide +kernel)
theorem kn_X0_41 : Cond.methodLinkNest RX0 41 yX3_init RX6 ∈ q_nl := List.mem_of_getElem? (i := 2) rfl
theorem ki_yX3_init : Cond.instanceMethod yX3_init ∈ q_WS := q_mem 167 (by decide +kernel) (by decide +kernel)
theorem km_X3_3 : Cond.methodLink RX3 3 objectInit ∈ q_WS := q_mem 169 (by decide +kernel) (by decide +kernel)
theorem kf_X3_9 : Cond.fieldLink RX3 9 "DonorParts$Part" "stock" "I" ∈ q_WS := q_mem 170 (by decide +kernel) (by decide +kernel)
theorem kf_X0_79 : Cond.fieldLink RX0 79 "DonorParts$Part" "stock" "I" ∈ q_WS := q_mem 171 (by decide +kernel) (by decide +kernel)
theorem kf_X6_127 : Cond.fieldLink RX6 127 "DonorParts$Part" "stock" "I" ∈ q_WS := q_mem 172 (by decide +kernel) (by decide +kernel)
theorem kf_X3_15 : Cond.fieldLink RX3 15 "DonorParts$Part" "exchanged" "I" ∈ q_WS := q_mem 173 (by decide +kernel) (by decide +kernel)
theorem kf_X6_135 : Cond.fieldLink RX6 135 "DonorParts$Part" "exchanged" "I" ∈ q_WS := q_mem 174 (by decide +kernel) (by decide +kernel)
theorem kf_X3_18 : Cond.fieldLink RX3 18 "DonorParts$Part" "stripped" "I" ∈ q_WS := q_mem 175 (by decide +kernel) (by decide +kernel)
theorem kf_X6_136 : Cond.fieldLink RX6 136 "DonorParts$Part" "stripped" "I" ∈ q_WS := q_mem 176 (by decide +kernel) (by decide +kernel)
theorem kf_X0_9 : Cond.fieldLink RX0 9 "DonorParts$Cafe" "minutes" "I" ∈ q_WS := q_mem 184 (by decide +kernel) (by decide +kernel)
theorem kf_X6_139 : Cond.fieldLink RX6 139 "DonorParts$Cafe" "minutes" "I" ∈ q_WS := q_mem 185 (by decide +kernel) (by decide +kernel)
theorem kf_X0_15 : Cond.fieldLink RX0 15 "DonorParts$Cafe" "things" "I" ∈ q_WS := q_mem 186 (by decide +kernel) (by decide +kernel)
theorem kf_X6_142 : Cond.fieldLink RX6 142 "DonorParts$Cafe" "things" "I" ∈ q_WS := q_mem 187 (by decide +kernel) (by decide +kernel)
theorem kf_X0_18 : Cond.fieldLink RX0 18 "DonorParts$Cafe" "fixers" "I" ∈ q_WS := q_mem 188 (by decide +kernel) (by decide +kernel)
theorem kf_X6_145 : Cond.fieldLink RX6 145 "DonorParts$Cafe" "fixers" "I" ∈ q_WS := q_mem 189 (by decide +kernel) (by decide +kernel)
theorem kf_X0_23 : Cond.fieldLink RX0 23 "DonorParts$Cafe" "thingRow" "[LDonorParts$Thing;" ∈ q_WS := q_mem 190 (by decide +kernel) (by decide +kernel)
theorem kf_X0_29 : Cond.fieldLink RX0 29 "DonorParts$Cafe" "fixerRow" "[LDonorParts$Fixer;" ∈ q_WS := q_mem 191 (by decide +kernel) (by decide +kernel)
theorem kf_X0_35 : Cond.fieldLink RX0 35 "DonorParts$Cafe" "partRow" "[LDonorParts$Part;" ∈ q_WS := q_mem 192 (by decide +kernel) (by decide +kernel)
theorem kl_X6_19 : Cond.classLink RX6 19 RX4 ∈ q_WS := q_mem 206 (by decide +kernel) (by decide +kernel)
theorem k1_X4 : Cond.instantiable RX4 3 ∈ q_WS := q_mem 207 (by decide +kernel) (by decide +kernel)
theorem km_X6_21 : Cond.methodLink RX6 21 yX4_init ∈ q_WS := q_mem 208 (by decide +kernel) (by decide +kernel)
theorem ki_yX4_init : Cond.instanceMethod yX4_init ∈ q_WS := q_mem 209 (by decide +kernel) (by decide +kernel)
theorem km_X4_3 : Cond.methodLink RX4 3 objectInit ∈ q_WS := q_mem 211 (by decide +kernel) (by decide +kernel)
theorem kl_X4_18 : Cond.classLink RX4 18 RX0 ∈ q_WS := q_mem 212 (by decide +kernel) (by decide +kernel)
theorem km_X4_24 : Cond.methodLink RX4 24 yX0_init ∈ q_WS := q_mem 214 (by decide +kernel) (by decide +kernel)
theorem kf_X4_9 : Cond.fieldLink RX4 9 "DonorParts$Past" "many" "I" ∈ q_WS := q_mem 215 (by decide +kernel) (by decide +kernel)
theorem kf_X6_154 : Cond.fieldLink RX6 154 "DonorParts$Past" "many" "I" ∈ q_WS := q_mem 216 (by decide +kernel) (by decide +kernel)
theorem kf_X4_15 : Cond.fieldLink RX4 15 "DonorParts$Past" "next" "I" ∈ q_WS := q_mem 217 (by decide +kernel) (by decide +kernel)
theorem kf_X4_20 : Cond.fieldLink RX4 20 "DonorParts$Past" "ring" "[LDonorParts$Cafe;" ∈ q_WS := q_mem 218 (by decide +kernel) (by decide +kernel)
theorem kl_X6_30 : Cond.classLink RX6 30 RX2 ∈ q_WS := q_mem 226 (by decide +kernel) (by decide +kernel)
theorem k1_X2 : Cond.instantiable RX2 8 ∈ q_WS := q_mem 227 (by decide +kernel) (by decide +kernel)
theorem kn_X6_32 : Cond.methodLinkNest RX6 32 yX2_init RX6 ∈ q_nl := List.mem_of_getElem? (i := 3) rfl
theorem ki_yX2_init : Cond.instanceMethod yX2_init ∈ q_WS := q_mem 229 (by decide +kernel) (by decide +kernel)
theorem km_X2_3 : Cond.methodLink RX2 3 objectInit ∈ q_WS := q_mem 231 (by decide +kernel) (by decide +kernel)
theorem kf_X2_9 : Cond.fieldLink RX2 9 "DonorParts$Pad" "length" "I" ∈ q_WS := q_mem 232 (by decide +kernel) (by decide +kernel)
theorem kf_X6_151 : Cond.fieldLink RX6 151 "DonorParts$Pad" "length" "I" ∈ q_WS := q_mem 233 (by decide +kernel) (by decide +kernel)
theorem kf_X2_15 : Cond.fieldLink RX2 15 "DonorParts$Pad" "at" "I" ∈ q_WS := q_mem 234 (by decide +kernel) (by decide +kernel)
theorem kf_X6_199 : Cond.fieldLink RX6 199 "DonorParts$Pad" "at" "I" ∈ q_WS := q_mem 235 (by decide +kernel) (by decide +kernel)
theorem kf_X2_18 : Cond.fieldLink RX2 18 "DonorParts$Pad" "letter" "I" ∈ q_WS := q_mem 236 (by decide +kernel) (by decide +kernel)
theorem kf_X6_223 : Cond.fieldLink RX6 223 "DonorParts$Pad" "letter" "I" ∈ q_WS := q_mem 237 (by decide +kernel) (by decide +kernel)
theorem kf_X2_21 : Cond.fieldLink RX2 21 "DonorParts$Pad" "digit" "I" ∈ q_WS := q_mem 238 (by decide +kernel) (by decide +kernel)
theorem kf_X6_226 : Cond.fieldLink RX6 226 "DonorParts$Pad" "digit" "I" ∈ q_WS := q_mem 239 (by decide +kernel) (by decide +kernel)
theorem kf_X2_24 : Cond.fieldLink RX2 24 "DonorParts$Pad" "set" "I" ∈ q_WS := q_mem 240 (by decide +kernel) (by decide +kernel)
theorem kf_X6_229 : Cond.fieldLink RX6 229 "DonorParts$Pad" "set" "I" ∈ q_WS := q_mem 241 (by decide +kernel) (by decide +kernel)
theorem kf_X2_27 : Cond.fieldLink RX2 27 "DonorParts$Pad" "number" "I" ∈ q_WS := q_mem 242 (by decide +kernel) (by decide +kernel)
theorem kf_X6_232 : Cond.fieldLink RX6 232 "DonorParts$Pad" "number" "I" ∈ q_WS := q_mem 243 (by decide +kernel) (by decide +kernel)
theorem kf_X2_30 : Cond.fieldLink RX2 30 "DonorParts$Pad" "last" "I" ∈ q_WS := q_mem 244 (by decide +kernel) (by decide +kernel)
theorem kf_X6_235 : Cond.fieldLink RX6 235 "DonorParts$Pad" "last" "I" ∈ q_WS := q_mem 245 (by decide +kernel) (by decide +kernel)
theorem kf_X2_33 : Cond.fieldLink RX2 33 "DonorParts$Pad" "signs" "[C" ∈ q_WS := q_mem 246 (by decide +kernel) (by decide +kernel)
theorem ka_char : Cond.arrayClass .char ∈ q_WS := q_mem 264 (by decide +kernel) (by decide +kernel)
theorem kf_X6_10 : Cond.fieldLink RX6 10 "DonorParts" "now" "LDonorParts$Cafe;" ∈ q_WS := q_mem 265 (by decide +kernel) (by decide +kernel)
theorem kf_X6_16 : Cond.fieldLink RX6 16 "DonorParts" "ahead" "LDonorParts$Cafe;" ∈ q_WS := q_mem 266 (by decide +kernel) (by decide +kernel)
theorem kf_X6_22 : Cond.fieldLink RX6 22 "DonorParts" "past" "LDonorParts$Past;" ∈ q_WS := q_mem 267 (by decide +kernel) (by decide +kernel)
theorem kf_X6_26 : Cond.fieldLink RX6 26 "DonorParts" "slots" "[LDonorParts$Cafe;" ∈ q_WS := q_mem 268 (by decide +kernel) (by decide +kernel)
theorem kf_X6_33 : Cond.fieldLink RX6 33 "DonorParts" "pad" "LDonorParts$Pad;" ∈ q_WS := q_mem 269 (by decide +kernel) (by decide +kernel)
theorem km_L_13 : Cond.methodLink RL 13 yX6_thing ∈ q_WS := q_mem 281 (by decide +kernel) (by decide +kernel)
theorem ki_yX6_thing : Cond.instanceMethod yX6_thing ∈ q_WS := q_mem 282 (by decide +kernel) (by decide +kernel)
theorem ks_yX6_thing : Cond.selects yX6_thing.cls yX6_thing yX6_thing ∈ q_WS := q_mem 283 (by decide +kernel) (by decide +kernel)
theorem km_X6_37 : Cond.methodLink RX6 37 yX4_note ∈ q_WS := q_mem 285 (by decide +kernel) (by decide +kernel)
theorem ki_yX4_note : Cond.instanceMethod yX4_note ∈ q_WS := q_mem 286 (by decide +kernel) (by decide +kernel)
theorem ks_yX4_note : Cond.selects yX4_note.cls yX4_note yX4_note ∈ q_WS := q_mem 287 (by decide +kernel) (by decide +kernel)
theorem km_X4_25 : Cond.methodLink RX4 25 yX4_nextPlace ∈ q_WS := q_mem 289 (by decide +kernel) (by decide +kernel)
theorem ki_yX4_nextPlace : Cond.instanceMethod yX4_nextPlace ∈ q_WS := q_mem 291 (by decide +kernel) (by decide +kernel)
theorem km_X4_29 : Cond.methodLink RX4 29 yX0_copyFrom ∈ q_WS := q_mem 293 (by decide +kernel) (by decide +kernel)
theorem ki_yX0_copyFrom : Cond.instanceMethod yX0_copyFrom ∈ q_WS := q_mem 294 (by decide +kernel) (by decide +kernel)
theorem ks_yX0_copyFrom : Cond.selects yX0_copyFrom.cls yX0_copyFrom yX0_copyFrom ∈ q_WS := q_mem 295 (by decide +kernel) (by decide +kernel)
theorem km_X0_42 : Cond.methodLink RX0 42 yX0_thingAt ∈ q_WS := q_mem 297 (by decide +kernel) (by decide +kernel)
theorem ki_yX0_thingAt : Cond.instanceMethod yX0_thingAt ∈ q_WS := q_mem 298 (by decide +kernel) (by decide +kernel)
theorem ks_yX0_thingAt : Cond.selects yX0_thingAt.cls yX0_thingAt yX0_thingAt ∈ q_WS := q_mem 299 (by decide +kernel) (by decide +kernel)
theorem km_X0_46 : Cond.methodLink RX0 46 yX5_copyFrom ∈ q_WS := q_mem 301 (by decide +kernel) (by decide +kernel)
theorem ki_yX5_copyFrom : Cond.instanceMethod yX5_copyFrom ∈ q_WS := q_mem 302 (by decide +kernel) (by decide +kernel)
theorem ks_yX5_copyFrom : Cond.selects yX5_copyFrom.cls yX5_copyFrom yX5_copyFrom ∈ q_WS := q_mem 303 (by decide +kernel) (by decide +kernel)
theorem km_X0_50 : Cond.methodLink RX0 50 yX0_fixerAt ∈ q_WS := q_mem 305 (by decide +kernel) (by decide +kernel)
theorem ki_yX0_fixerAt : Cond.instanceMethod yX0_fixerAt ∈ q_WS := q_mem 306 (by decide +kernel) (by decide +kernel)
theorem ks_yX0_fixerAt : Cond.selects yX0_fixerAt.cls yX0_fixerAt yX0_fixerAt ∈ q_WS := q_mem 307 (by decide +kernel) (by decide +kernel)
theorem km_X0_54 : Cond.methodLink RX0 54 yX1_copyFrom ∈ q_WS := q_mem 309 (by decide +kernel) (by decide +kernel)
theorem ki_yX1_copyFrom : Cond.instanceMethod yX1_copyFrom ∈ q_WS := q_mem 310 (by decide +kernel) (by decide +kernel)
theorem ks_yX1_copyFrom : Cond.selects yX1_copyFrom.cls yX1_copyFrom yX1_copyFrom ∈ q_WS := q_mem 311 (by decide +kernel) (by decide +kernel)
theorem km_X0_57 : Cond.methodLink RX0 57 yX0_partAt ∈ q_WS := q_mem 313 (by decide +kernel) (by decide +kernel)
theorem ki_yX0_partAt : Cond.instanceMethod yX0_partAt ∈ q_WS := q_mem 314 (by decide +kernel) (by decide +kernel)
theorem ks_yX0_partAt : Cond.selects yX0_partAt.cls yX0_partAt yX0_partAt ∈ q_WS := q_mem 315 (by decide +kernel) (by decide +kernel)
theorem km_X0_61 : Cond.methodLink RX0 61 yX3_copyFrom ∈ q_WS := q_mem 317 (by decide +kernel) (by decide +kernel)
theorem ki_yX3_copyFrom : Cond.instanceMethod yX3_copyFrom ∈ q_WS := q_mem 318 (by decide +kernel) (by decide +kernel)
theorem ks_yX3_copyFrom : Cond.selects yX3_copyFrom.cls yX3_copyFrom yX3_copyFrom ∈ q_WS := q_mem 319 (by decide +kernel) (by decide +kernel)
theorem km_X6_41 : Cond.methodLink RX6 41 yX0_addThing ∈ q_WS := q_mem 321 (by decide +kernel) (by decide +kernel)
theorem ki_yX0_addThing : Cond.instanceMethod yX0_addThing ∈ q_WS := q_mem 322 (by decide +kernel) (by decide +kernel)
theorem ks_yX0_addThing : Cond.selects yX0_addThing.cls yX0_addThing yX0_addThing ∈ q_WS := q_mem 323 (by decide +kernel) (by decide +kernel)
theorem kn_X0_64 : Cond.methodLinkNest RX0 64 yX6_partsOf RX6 ∈ q_nl := List.mem_of_getElem? (i := 4) rfl
theorem kt_yX6_partsOf : Cond.static yX6_partsOf ∈ q_WS := q_mem 326 (by decide +kernel) (by decide +kernel)
theorem km_X0_68 : Cond.methodLink RX0 68 yX5_come ∈ q_WS := q_mem 328 (by decide +kernel) (by decide +kernel)
theorem ki_yX5_come : Cond.instanceMethod yX5_come ∈ q_WS := q_mem 329 (by decide +kernel) (by decide +kernel)
theorem ks_yX5_come : Cond.selects yX5_come.cls yX5_come yX5_come ∈ q_WS := q_mem 330 (by decide +kernel) (by decide +kernel)
theorem km_X6_45 : Cond.methodLink RX6 45 yX6_kept ∈ q_WS := q_mem 332 (by decide +kernel) (by decide +kernel)
theorem ki_yX6_kept : Cond.instanceMethod yX6_kept ∈ q_WS := q_mem 334 (by decide +kernel) (by decide +kernel)
theorem km_X6_211 : Cond.methodLink RX6 211 yX4_keep ∈ q_WS := q_mem 336 (by decide +kernel) (by decide +kernel)
theorem ki_yX4_keep : Cond.instanceMethod yX4_keep ∈ q_WS := q_mem 337 (by decide +kernel) (by decide +kernel)
theorem ks_yX4_keep : Cond.selects yX4_keep.cls yX4_keep yX4_keep ∈ q_WS := q_mem 338 (by decide +kernel) (by decide +kernel)
theorem km_X4_33 : Cond.methodLink RX4 33 Lib.Math.min.name ∈ q_WS := q_mem 340 (by decide +kernel) (by decide +kernel)
theorem kt_mmin : Cond.static Lib.Math.min.name ∈ q_WS := q_mem 341 (by decide +kernel) (by decide +kernel)
theorem km_L_18 : Cond.methodLink RL 18 yX6_fixer ∈ q_WS := q_mem 343 (by decide +kernel) (by decide +kernel)
theorem ki_yX6_fixer : Cond.instanceMethod yX6_fixer ∈ q_WS := q_mem 344 (by decide +kernel) (by decide +kernel)
theorem ks_yX6_fixer : Cond.selects yX6_fixer.cls yX6_fixer yX6_fixer ∈ q_WS := q_mem 345 (by decide +kernel) (by decide +kernel)
theorem km_X6_49 : Cond.methodLink RX6 49 yX0_addFixer ∈ q_WS := q_mem 347 (by decide +kernel) (by decide +kernel)
theorem ki_yX0_addFixer : Cond.instanceMethod yX0_addFixer ∈ q_WS := q_mem 348 (by decide +kernel) (by decide +kernel)
theorem ks_yX0_addFixer : Cond.selects yX0_addFixer.cls yX0_addFixer yX0_addFixer ∈ q_WS := q_mem 349 (by decide +kernel) (by decide +kernel)
theorem kn_X0_72 : Cond.methodLinkNest RX0 72 yX6_isFixer RX6 ∈ q_nl := List.mem_of_getElem? (i := 5) rfl
theorem kt_yX6_isFixer : Cond.static yX6_isFixer ∈ q_WS := q_mem 352 (by decide +kernel) (by decide +kernel)
theorem km_X0_76 : Cond.methodLink RX0 76 yX1_come ∈ q_WS := q_mem 354 (by decide +kernel) (by decide +kernel)
theorem ki_yX1_come : Cond.instanceMethod yX1_come ∈ q_WS := q_mem 355 (by decide +kernel) (by decide +kernel)
theorem ks_yX1_come : Cond.selects yX1_come.cls yX1_come yX1_come ∈ q_WS := q_mem 356 (by decide +kernel) (by decide +kernel)
theorem km_L_23 : Cond.methodLink RL 23 yX6_drawer ∈ q_WS := q_mem 358 (by decide +kernel) (by decide +kernel)
theorem ki_yX6_drawer : Cond.instanceMethod yX6_drawer ∈ q_WS := q_mem 359 (by decide +kernel) (by decide +kernel)
theorem ks_yX6_drawer : Cond.selects yX6_drawer.cls yX6_drawer yX6_drawer ∈ q_WS := q_mem 360 (by decide +kernel) (by decide +kernel)
theorem km_X6_53 : Cond.methodLink RX6 53 yX0_fillDrawer ∈ q_WS := q_mem 362 (by decide +kernel) (by decide +kernel)
theorem ki_yX0_fillDrawer : Cond.instanceMethod yX0_fillDrawer ∈ q_WS := q_mem 363 (by decide +kernel) (by decide +kernel)
theorem ks_yX0_fillDrawer : Cond.selects yX0_fillDrawer.cls yX0_fillDrawer yX0_fillDrawer ∈ q_WS := q_mem 364 (by decide +kernel) (by decide +kernel)
theorem km_L_27 : Cond.methodLink RL 27 yX6_giveUp ∈ q_WS := q_mem 366 (by decide +kernel) (by decide +kernel)
theorem ki_yX6_giveUp : Cond.instanceMethod yX6_giveUp ∈ q_WS := q_mem 367 (by decide +kernel) (by decide +kernel)
theorem ks_yX6_giveUp : Cond.selects yX6_giveUp.cls yX6_giveUp yX6_giveUp ∈ q_WS := q_mem 368 (by decide +kernel) (by decide +kernel)
theorem km_X6_56 : Cond.methodLink RX6 56 yX0_giveWaitingUp ∈ q_WS := q_mem 370 (by decide +kernel) (by decide +kernel)
theorem ki_yX0_giveWaitingUp : Cond.instanceMethod yX0_giveWaitingUp ∈ q_WS := q_mem 371 (by decide +kernel) (by decide +kernel)
theorem ks_yX0_giveWaitingUp : Cond.selects yX0_giveWaitingUp.cls yX0_giveWaitingUp yX0_giveWaitingUp ∈ q_WS := q_mem 372 (by decide +kernel) (by decide +kernel)
theorem km_X0_85 : Cond.methodLink RX0 85 yX0_strip ∈ q_WS := q_mem 374 (by decide +kernel) (by decide +kernel)
theorem ki_yX0_strip : Cond.instanceMethod yX0_strip ∈ q_WS := q_mem 376 (by decide +kernel) (by decide +kernel)
theorem kn_X0_150 : Cond.methodLinkNest RX0 150 yX6_isIn RX6 ∈ q_nl := List.mem_of_getElem? (i := 6) rfl
theorem kt_yX6_isIn : Cond.static yX6_isIn ∈ q_WS := q_mem 379 (by decide +kernel) (by decide +kernel)
theorem km_X0_162 : Cond.methodLink RX0 162 yX3_takeIn ∈ q_WS := q_mem 381 (by decide +kernel) (by decide +kernel)
theorem ki_yX3_takeIn : Cond.instanceMethod yX3_takeIn ∈ q_WS := q_mem 382 (by decide +kernel) (by decide +kernel)
theorem ks_yX3_takeIn : Cond.selects yX3_takeIn.cls yX3_takeIn yX3_takeIn ∈ q_WS := q_mem 383 (by decide +kernel) (by decide +kernel)
theorem km_X0_144 : Cond.methodLink RX0 144 yX5_end ∈ q_WS := q_mem 385 (by decide +kernel) (by decide +kernel)
theorem ki_yX5_end : Cond.instanceMethod yX5_end ∈ q_WS := q_mem 386 (by decide +kernel) (by decide +kernel)
theorem ks_yX5_end : Cond.selects yX5_end.cls yX5_end yX5_end ∈ q_WS := q_mem 387 (by decide +kernel) (by decide +kernel)
theorem km_L_32 : Cond.methodLink RL 32 yX6_pass ∈ q_WS := q_mem 389 (by decide +kernel) (by decide +kernel)
theorem ki_yX6_pass : Cond.instanceMethod yX6_pass ∈ q_WS := q_mem 390 (by decide +kernel) (by decide +kernel)
theorem ks_yX6_pass : Cond.selects yX6_pass.cls yX6_pass yX6_pass ∈ q_WS := q_mem 391 (by decide +kernel) (by decide +kernel)
theorem km_X6_59 : Cond.methodLink RX6 59 yX0_letPass ∈ q_WS := q_mem 393 (by decide +kernel) (by decide +kernel)
theorem ki_yX0_letPass : Cond.instanceMethod yX0_letPass ∈ q_WS := q_mem 394 (by decide +kernel) (by decide +kernel)
theorem ks_yX0_letPass : Cond.selects yX0_letPass.cls yX0_letPass yX0_letPass ∈ q_WS := q_mem 395 (by decide +kernel) (by decide +kernel)
theorem km_X0_89 : Cond.methodLink RX0 89 yX0_passMinutes ∈ q_WS := q_mem 397 (by decide +kernel) (by decide +kernel)
theorem ki_yX0_passMinutes : Cond.instanceMethod yX0_passMinutes ∈ q_WS := q_mem 398 (by decide +kernel) (by decide +kernel)
theorem ks_yX0_passMinutes : Cond.selects yX0_passMinutes.cls yX0_passMinutes yX0_passMinutes ∈ q_WS := q_mem 399 (by decide +kernel) (by decide +kernel)
theorem km_X0_92 : Cond.methodLink RX0 92 yX0_hasThingHere ∈ q_WS := q_mem 401 (by decide +kernel) (by decide +kernel)
theorem ki_yX0_hasThingHere : Cond.instanceMethod yX0_hasThingHere ∈ q_WS := q_mem 403 (by decide +kernel) (by decide +kernel)
theorem km_X0_168 : Cond.methodLink RX0 168 yX5_isHere ∈ q_WS := q_mem 405 (by decide +kernel) (by decide +kernel)
theorem ki_yX5_isHere : Cond.instanceMethod yX5_isHere ∈ q_WS := q_mem 406 (by decide +kernel) (by decide +kernel)
theorem ks_yX5_isHere : Cond.selects yX5_isHere.cls yX5_isHere yX5_isHere ∈ q_WS := q_mem 407 (by decide +kernel) (by decide +kernel)
theorem km_X0_96 : Cond.methodLink RX0 96 yX0_passMinute ∈ q_WS := q_mem 409 (by decide +kernel) (by decide +kernel)
theorem ki_yX0_passMinute : Cond.instanceMethod yX0_passMinute ∈ q_WS := q_mem 410 (by decide +kernel) (by decide +kernel)
theorem ks_yX0_passMinute : Cond.selects yX0_passMinute.cls yX0_passMinute yX0_passMinute ∈ q_WS := q_mem 411 (by decide +kernel) (by decide +kernel)
theorem km_X0_100 : Cond.methodLink RX0 100 yX0_takeThing ∈ q_WS := q_mem 413 (by decide +kernel) (by decide +kernel)
theorem ki_yX0_takeThing : Cond.instanceMethod yX0_takeThing ∈ q_WS := q_mem 415 (by decide +kernel) (by decide +kernel)
theorem km_X0_116 : Cond.methodLink RX0 116 yX0_nextOf ∈ q_WS := q_mem 417 (by decide +kernel) (by decide +kernel)
theorem ki_yX0_nextOf : Cond.instanceMethod yX0_nextOf ∈ q_WS := q_mem 418 (by decide +kernel) (by decide +kernel)
theorem ks_yX0_nextOf : Cond.selects yX0_nextOf.cls yX0_nextOf yX0_nextOf ∈ q_WS := q_mem 419 (by decide +kernel) (by decide +kernel)
theorem km_X0_104 : Cond.methodLink RX0 104 yX0_workOf ∈ q_WS := q_mem 421 (by decide +kernel) (by decide +kernel)
theorem ki_yX0_workOf : Cond.instanceMethod yX0_workOf ∈ q_WS := q_mem 423 (by decide +kernel) (by decide +kernel)
theorem km_X0_128 : Cond.methodLink RX0 128 yX0_exchangeLowest ∈ q_WS := q_mem 425 (by decide +kernel) (by decide +kernel)
theorem ki_yX0_exchangeLowest : Cond.instanceMethod yX0_exchangeLowest ∈ q_WS := q_mem 427 (by decide +kernel) (by decide +kernel)
theorem km_X0_153 : Cond.methodLink RX0 153 yX3_handOut ∈ q_WS := q_mem 429 (by decide +kernel) (by decide +kernel)
theorem ki_yX3_handOut : Cond.instanceMethod yX3_handOut ∈ q_WS := q_mem 430 (by decide +kernel) (by decide +kernel)
theorem ks_yX3_handOut : Cond.selects yX3_handOut.cls yX3_handOut yX3_handOut ∈ q_WS := q_mem 431 (by decide +kernel) (by decide +kernel)
theorem km_X0_135 : Cond.methodLink RX0 135 yX5_tryTest ∈ q_WS := q_mem 433 (by decide +kernel) (by decide +kernel)
theorem ki_yX5_tryTest : Cond.instanceMethod yX5_tryTest ∈ q_WS := q_mem 434 (by decide +kernel) (by decide +kernel)
theorem ks_yX5_tryTest : Cond.selects yX5_tryTest.cls yX5_tryTest yX5_tryTest ∈ q_WS := q_mem 435 (by decide +kernel) (by decide +kernel)
theorem km_X0_107 : Cond.methodLink RX0 107 yX0_losePatience ∈ q_WS := q_mem 437 (by decide +kernel) (by decide +kernel)
theorem ki_yX0_losePatience : Cond.instanceMethod yX0_losePatience ∈ q_WS := q_mem 439 (by decide +kernel) (by decide +kernel)
theorem km_L_36 : Cond.methodLink RL 36 yX6_ofThing ∈ q_WS := q_mem 441 (by decide +kernel) (by decide +kernel)
theorem ki_yX6_ofThing : Cond.instanceMethod yX6_ofThing ∈ q_WS := q_mem 442 (by decide +kernel) (by decide +kernel)
theorem ks_yX6_ofThing : Cond.selects yX6_ofThing.cls yX6_ofThing yX6_ofThing ∈ q_WS := q_mem 443 (by decide +kernel) (by decide +kernel)
theorem km_X6_62 : Cond.methodLink RX6 62 yX0_thingAt ∈ q_WS := q_mem 445 (by decide +kernel) (by decide +kernel)
theorem km_X6_93 : Cond.methodLink RX6 93 yX0_placeOf ∈ q_WS := q_mem 446 (by decide +kernel) (by decide +kernel)
theorem ki_yX0_placeOf : Cond.instanceMethod yX0_placeOf ∈ q_WS := q_mem 447 (by decide +kernel) (by decide +kernel)
theorem ks_yX0_placeOf : Cond.selects yX0_placeOf.cls yX0_placeOf yX0_placeOf ∈ q_WS := q_mem 448 (by decide +kernel) (by decide +kernel)
theorem km_L_40 : Cond.methodLink RL 40 yX6_ofFixer ∈ q_WS := q_mem 450 (by decide +kernel) (by decide +kernel)
theorem ki_yX6_ofFixer : Cond.instanceMethod yX6_ofFixer ∈ q_WS := q_mem 451 (by decide +kernel) (by decide +kernel)
theorem ks_yX6_ofFixer : Cond.selects yX6_ofFixer.cls yX6_ofFixer yX6_ofFixer ∈ q_WS := q_mem 452 (by decide +kernel) (by decide +kernel)
theorem km_X6_96 : Cond.methodLink RX6 96 yX0_fixerAt ∈ q_WS := q_mem 454 (by decide +kernel) (by decide +kernel)
theorem km_X6_120 : Cond.methodLink RX6 120 yX0_nextOf ∈ q_WS := q_mem 455 (by decide +kernel) (by decide +kernel)
theorem km_L_44 : Cond.methodLink RL 44 yX6_ofPart ∈ q_WS := q_mem 456 (by decide +kernel) (by decide +kernel)
theorem ki_yX6_ofPart : Cond.instanceMethod yX6_ofPart ∈ q_WS := q_mem 457 (by decide +kernel) (by decide +kernel)
theorem ks_yX6_ofPart : Cond.selects yX6_ofPart.cls yX6_ofPart yX6_ofPart ∈ q_WS := q_mem 458 (by decide +kernel) (by decide +kernel)
theorem km_X6_123 : Cond.methodLink RX6 123 yX0_partAt ∈ q_WS := q_mem 460 (by decide +kernel) (by decide +kernel)
theorem km_X6_132 : Cond.methodLink RX6 132 yX0_brokenOnes ∈ q_WS := q_mem 461 (by decide +kernel) (by decide +kernel)
theorem ki_yX0_brokenOnes : Cond.instanceMethod yX0_brokenOnes ∈ q_WS := q_mem 462 (by decide +kernel) (by decide +kernel)
theorem ks_yX0_brokenOnes : Cond.selects yX0_brokenOnes.cls yX0_brokenOnes yX0_brokenOnes ∈ q_WS := q_mem 463 (by decide +kernel) (by decide +kernel)
theorem km_L_48 : Cond.methodLink RL 48 yX6_count ∈ q_WS := q_mem 465 (by decide +kernel) (by decide +kernel)
theorem ki_yX6_count : Cond.instanceMethod yX6_count ∈ q_WS := q_mem 466 (by decide +kernel) (by decide +kernel)
theorem ks_yX6_count : Cond.selects yX6_count.cls yX6_count yX6_count ∈ q_WS := q_mem 467 (by decide +kernel) (by decide +kernel)
theorem km_X6_148 : Cond.methodLink RX6 148 yX0_thingsThatAre ∈ q_WS := q_mem 469 (by decide +kernel) (by decide +kernel)
theorem ki_yX0_thingsThatAre : Cond.instanceMethod yX0_thingsThatAre ∈ q_WS := q_mem 470 (by decide +kernel) (by decide +kernel)
theorem ks_yX0_thingsThatAre : Cond.selects yX0_thingsThatAre.cls yX0_thingsThatAre yX0_thingsThatAre ∈ q_WS := q_mem 471 (by decide +kernel) (by decide +kernel)
theorem km_L_52 : Cond.methodLink RL 52 yX6_scarcest ∈ q_WS := q_mem 473 (by decide +kernel) (by decide +kernel)
theorem ki_yX6_scarcest : Cond.instanceMethod yX6_scarcest ∈ q_WS := q_mem 474 (by decide +kernel) (by decide +kernel)
theorem ks_yX6_scarcest : Cond.selects yX6_scarcest.cls yX6_scarcest yX6_scarcest ∈ q_WS := q_mem 475 (by decide +kernel) (by decide +kernel)
theorem km_X6_157 : Cond.methodLink RX6 157 yX0_missingOnes ∈ q_WS := q_mem 477 (by decide +kernel) (by decide +kernel)
theorem ki_yX0_missingOnes : Cond.instanceMethod yX0_missingOnes ∈ q_WS := q_mem 478 (by decide +kernel) (by decide +kernel)
theorem ks_yX0_missingOnes : Cond.selects yX0_missingOnes.cls yX0_missingOnes yX0_missingOnes ∈ q_WS := q_mem 479 (by decide +kernel) (by decide +kernel)
theorem km_X0_171 : Cond.methodLink RX0 171 yX0_brokenOnes ∈ q_WS := q_mem 481 (by decide +kernel) (by decide +kernel)
theorem km_L_57 : Cond.methodLink RL 57 yX6_doneIn ∈ q_WS := q_mem 482 (by decide +kernel) (by decide +kernel)
theorem ki_yX6_doneIn : Cond.instanceMethod yX6_doneIn ∈ q_WS := q_mem 483 (by decide +kernel) (by decide +kernel)
theorem ks_yX6_doneIn : Cond.selects yX6_doneIn.cls yX6_doneIn yX6_doneIn ∈ q_WS := q_mem 484 (by decide +kernel) (by decide +kernel)
theorem km_X6_160 : Cond.methodLink RX6 160 yX0_copyFrom ∈ q_WS := q_mem 486 (by decide +kernel) (by decide +kernel)
theorem km_X6_163 : Cond.methodLink RX6 163 yX5_isHere ∈ q_WS := q_mem 487 (by decide +kernel) (by decide +kernel)
theorem km_X6_167 : Cond.methodLink RX6 167 yX0_passMinute ∈ q_WS := q_mem 488 (by decide +kernel) (by decide +kernel)
theorem km_L_61 : Cond.methodLink RL 61 yX6_withFixer ∈ q_WS := q_mem 489 (by decide +kernel) (by decide +kernel)
theorem ki_yX6_withFixer : Cond.instanceMethod yX6_withFixer ∈ q_WS := q_mem 490 (by decide +kernel) (by decide +kernel)
theorem ks_yX6_withFixer : Cond.selects yX6_withFixer.cls yX6_withFixer yX6_withFixer ∈ q_WS := q_mem 491 (by decide +kernel) (by decide +kernel)
theorem km_X6_171 : Cond.methodLink RX6 171 yX6_isFixer ∈ q_WS := q_mem 493 (by decide +kernel) (by decide +kernel)
theorem km_X6_175 : Cond.methodLink RX6 175 yX6_isWhatIf ∈ q_WS := q_mem 494 (by decide +kernel) (by decide +kernel)
theorem kt_yX6_isWhatIf : Cond.static yX6_isWhatIf ∈ q_WS := q_mem 495 (by decide +kernel) (by decide +kernel)
theorem km_X6_179 : Cond.methodLink RX6 179 yX6_repairedWith ∈ q_WS := q_mem 497 (by decide +kernel) (by decide +kernel)
theorem ki_yX6_repairedWith : Cond.instanceMethod yX6_repairedWith ∈ q_WS := q_mem 499 (by decide +kernel) (by decide +kernel)
theorem km_X6_220 : Cond.methodLink RX6 220 yX0_passMinutes ∈ q_WS := q_mem 501 (by decide +kernel) (by decide +kernel)
theorem km_L_66 : Cond.methodLink RL 66 yX6_bestCare ∈ q_WS := q_mem 502 (by decide +kernel) (by decide +kernel)
theorem ki_yX6_bestCare : Cond.instanceMethod yX6_bestCare ∈ q_WS := q_mem 503 (by decide +kernel) (by decide +kernel)
theorem ks_yX6_bestCare : Cond.selects yX6_bestCare.cls yX6_bestCare yX6_bestCare ∈ q_WS := q_mem 504 (by decide +kernel) (by decide +kernel)
theorem km_L_72 : Cond.methodLink RL 72 yX6_put ∈ q_WS := q_mem 506 (by decide +kernel) (by decide +kernel)
theorem ki_yX6_put : Cond.instanceMethod yX6_put ∈ q_WS := q_mem 507 (by decide +kernel) (by decide +kernel)
theorem ks_yX6_put : Cond.selects yX6_put.cls yX6_put yX6_put ∈ q_WS := q_mem 508 (by decide +kernel) (by decide +kernel)
theorem km_X6_183 : Cond.methodLink RX6 183 yX6_signsIn ∈ q_WS := q_mem 510 (by decide +kernel) (by decide +kernel)
theorem kt_yX6_signsIn : Cond.static yX6_signsIn ∈ q_WS := q_mem 511 (by decide +kernel) (by decide +kernel)
theorem kg_X6_187 : Cond.constantLong RX6 187 255 ∈ q_WS := q_mem 513 (by decide +kernel) (by decide +kernel)
theorem km_X6_189 : Cond.methodLink RX6 189 yX2_append ∈ q_WS := q_mem 514 (by decide +kernel) (by decide +kernel)
theorem ki_yX2_append : Cond.instanceMethod yX2_append ∈ q_WS := q_mem 515 (by decide +kernel) (by decide +kernel)
theorem ks_yX2_append : Cond.selects yX2_append.cls yX2_append yX2_append ∈ q_WS := q_mem 516 (by decide +kernel) (by decide +kernel)
theorem km_L_77 : Cond.methodLink RL 77 yX6_wipe ∈ q_WS := q_mem 518 (by decide +kernel) (by decide +kernel)
theorem ki_yX6_wipe : Cond.instanceMethod yX6_wipe ∈ q_WS := q_mem 519 (by decide +kernel) (by decide +kernel)
theorem ks_yX6_wipe : Cond.selects yX6_wipe.cls yX6_wipe yX6_wipe ∈ q_WS := q_mem 520 (by decide +kernel) (by decide +kernel)
theorem km_L_81 : Cond.methodLink RL 81 yX6_fault ∈ q_WS := q_mem 522 (by decide +kernel) (by decide +kernel)
theorem ki_yX6_fault : Cond.instanceMethod yX6_fault ∈ q_WS := q_mem 523 (by decide +kernel) (by decide +kernel)
theorem ks_yX6_fault : Cond.selects yX6_fault.cls yX6_fault yX6_fault ∈ q_WS := q_mem 524 (by decide +kernel) (by decide +kernel)
theorem km_X6_193 : Cond.methodLink RX6 193 yX2_begin ∈ q_WS := q_mem 526 (by decide +kernel) (by decide +kernel)
theorem ki_yX2_begin : Cond.instanceMethod yX2_begin ∈ q_WS := q_mem 527 (by decide +kernel) (by decide +kernel)
theorem ks_yX2_begin : Cond.selects yX2_begin.cls yX2_begin yX2_begin ∈ q_WS := q_mem 528 (by decide +kernel) (by decide +kernel)
theorem km_X6_196 : Cond.methodLink RX6 196 yX2_readOrder ∈ q_WS := q_mem 530 (by decide +kernel) (by decide +kernel)
theorem ki_yX2_readOrder : Cond.instanceMethod yX2_readOrder ∈ q_WS := q_mem 531 (by decide +kernel) (by decide +kernel)
theorem ks_yX2_readOrder : Cond.selects yX2_readOrder.cls yX2_readOrder yX2_readOrder ∈ q_WS := q_mem 532 (by decide +kernel) (by decide +kernel)
theorem km_X2_37 : Cond.methodLink RX2 37 yX2_sign ∈ q_WS := q_mem 534 (by decide +kernel) (by decide +kernel)
theorem ki_yX2_sign : Cond.instanceMethod yX2_sign ∈ q_WS := q_mem 536 (by decide +kernel) (by decide +kernel)
theorem km_X2_41 : Cond.methodLink RX2 41 yX2_readSign ∈ q_WS := q_mem 538 (by decide +kernel) (by decide +kernel)
theorem ki_yX2_readSign : Cond.instanceMethod yX2_readSign ∈ q_WS := q_mem 539 (by decide +kernel) (by decide +kernel)
theorem ks_yX2_readSign : Cond.selects yX2_readSign.cls yX2_readSign yX2_readSign ∈ q_WS := q_mem 540 (by decide +kernel) (by decide +kernel)
theorem km_X2_45 : Cond.methodLink RX2 45 yX2_readThing ∈ q_WS := q_mem 542 (by decide +kernel) (by decide +kernel)
theorem ki_yX2_readThing : Cond.instanceMethod yX2_readThing ∈ q_WS := q_mem 544 (by decide +kernel) (by decide +kernel)
theorem km_X2_55 : Cond.methodLink RX2 55 yX2_readDigit ∈ q_WS := q_mem 546 (by decide +kernel) (by decide +kernel)
theorem ki_yX2_readDigit : Cond.instanceMethod yX2_readDigit ∈ q_WS := q_mem 548 (by decide +kernel) (by decide +kernel)
theorem km_X2_61 : Cond.methodLink RX2 61 yX2_digitAtMost ∈ q_WS := q_mem 550 (by decide +kernel) (by decide +kernel)
theorem ki_yX2_digitAtMost : Cond.instanceMethod yX2_digitAtMost ∈ q_WS := q_mem 552 (by decide +kernel) (by decide +kernel)
theorem km_X2_49 : Cond.methodLink RX2 49 yX2_readSet ∈ q_WS := q_mem 554 (by decide +kernel) (by decide +kernel)
theorem ki_yX2_readSet : Cond.instanceMethod yX2_readSet ∈ q_WS := q_mem 556 (by decide +kernel) (by decide +kernel)
theorem km_X2_58 : Cond.methodLink RX2 58 yX2_readNumber ∈ q_WS := q_mem 558 (by decide +kernel) (by decide +kernel)
theorem ki_yX2_readNumber : Cond.instanceMethod yX2_readNumber ∈ q_WS := q_mem 560 (by decide +kernel) (by decide +kernel)
theorem km_X2_52 : Cond.methodLink RX2 52 yX2_readLast ∈ q_WS := q_mem 562 (by decide +kernel) (by decide +kernel)
theorem ki_yX2_readLast : Cond.instanceMethod yX2_readLast ∈ q_WS := q_mem 564 (by decide +kernel) (by decide +kernel)
theorem km_X6_202 : Cond.methodLink RX6 202 yX2_isAtEnd ∈ q_WS := q_mem 566 (by decide +kernel) (by decide +kernel)
theorem ki_yX2_isAtEnd : Cond.instanceMethod yX2_isAtEnd ∈ q_WS := q_mem 567 (by decide +kernel) (by decide +kernel)
theorem ks_yX2_isAtEnd : Cond.selects yX2_isAtEnd.cls yX2_isAtEnd yX2_isAtEnd ∈ q_WS := q_mem 568 (by decide +kernel) (by decide +kernel)
theorem km_X6_205 : Cond.methodLink RX6 205 yX2_readSign ∈ q_WS := q_mem 570 (by decide +kernel) (by decide +kernel)
theorem km_L_85 : Cond.methodLink RL 85 yX6_carryOut ∈ q_WS := q_mem 571 (by decide +kernel) (by decide +kernel)
theorem ki_yX6_carryOut : Cond.instanceMethod yX6_carryOut ∈ q_WS := q_mem 572 (by decide +kernel) (by decide +kernel)
theorem ks_yX6_carryOut : Cond.selects yX6_carryOut.cls yX6_carryOut yX6_carryOut ∈ q_WS := q_mem 573 (by decide +kernel) (by decide +kernel)
theorem km_X6_208 : Cond.methodLink RX6 208 yX6_fault ∈ q_WS := q_mem 575 (by decide +kernel) (by decide +kernel)
theorem km_X6_214 : Cond.methodLink RX6 214 yX6_carryOrder ∈ q_WS := q_mem 576 (by decide +kernel) (by decide +kernel)
theorem ki_yX6_carryOrder : Cond.instanceMethod yX6_carryOrder ∈ q_WS := q_mem 578 (by decide +kernel) (by decide +kernel)
theorem km_L_89 : Cond.methodLink RL 89 yX6_undo ∈ q_WS := q_mem 580 (by decide +kernel) (by decide +kernel)
theorem ki_yX6_undo : Cond.instanceMethod yX6_undo ∈ q_WS := q_mem 581 (by decide +kernel) (by decide +kernel)
theorem ks_yX6_undo : Cond.selects yX6_undo.cls yX6_undo yX6_undo ∈ q_WS := q_mem 582 (by decide +kernel) (by decide +kernel)
theorem km_X6_217 : Cond.methodLink RX6 217 yX4_takeBack ∈ q_WS := q_mem 584 (by decide +kernel) (by decide +kernel)
theorem ki_yX4_takeBack : Cond.instanceMethod yX4_takeBack ∈ q_WS := q_mem 585 (by decide +kernel) (by decide +kernel)
theorem ks_yX4_takeBack : Cond.selects yX4_takeBack.cls yX4_takeBack yX4_takeBack ∈ q_WS := q_mem 586 (by decide +kernel) (by decide +kernel)
theorem km_L_93 : Cond.methodLink RL 93 yX6_save ∈ q_WS := q_mem 588 (by decide +kernel) (by decide +kernel)
theorem ki_yX6_save : Cond.instanceMethod yX6_save ∈ q_WS := q_mem 589 (by decide +kernel) (by decide +kernel)
theorem ks_yX6_save : Cond.selects yX6_save.cls yX6_save yX6_save ∈ q_WS := q_mem 590 (by decide +kernel) (by decide +kernel)
theorem km_L_97 : Cond.methodLink RL 97 yX6_restore ∈ q_WS := q_mem 592 (by decide +kernel) (by decide +kernel)
theorem ki_yX6_restore : Cond.instanceMethod yX6_restore ∈ q_WS := q_mem 593 (by decide +kernel) (by decide +kernel)
theorem ks_yX6_restore : Cond.selects yX6_restore.cls yX6_restore yX6_restore ∈ q_WS := q_mem 594 (by decide +kernel) (by decide +kernel)
theorem kl_L_10 : Cond.classLink RL 10 RX7 ∈ q_WS := q_mem 596 (by decide +kernel) (by decide +kernel)
theorem k1_X7 : Cond.instantiable RX7 13 ∈ q_WS := q_mem 597 (by decide +kernel) (by decide +kernel)
theorem km_L_12 : Cond.methodLink RL 12 yX7_init ∈ q_WS := q_mem 598 (by decide +kernel) (by decide +kernel)
theorem ki_yX7_init : Cond.instanceMethod yX7_init ∈ q_WS := q_mem 599 (by decide +kernel) (by decide +kernel)
theorem km_X7_1 : Cond.methodLink RX7 1 objectInit ∈ q_WS := q_mem 601 (by decide +kernel) (by decide +kernel)
theorem kf_X7_32 : Cond.fieldLink RX7 32 "DonorPartsModel" "thrown" "I" ∈ q_WS := q_mem 602 (by decide +kernel) (by decide +kernel)
theorem kf_X7_7 : Cond.fieldLink RX7 7 "DonorPartsModel" "s" "[I" ∈ q_WS := q_mem 603 (by decide +kernel) (by decide +kernel)
theorem kf_X7_13 : Cond.fieldLink RX7 13 "DonorPartsModel" "aside" "[I" ∈ q_WS := q_mem 604 (by decide +kernel) (by decide +kernel)
theorem kf_X7_16 : Cond.fieldLink RX7 16 "DonorPartsModel" "undos" "[I" ∈ q_WS := q_mem 605 (by decide +kernel) (by decide +kernel)
theorem kf_X7_36 : Cond.fieldLink RX7 36 "DonorPartsModel" "undoMany" "I" ∈ q_WS := q_mem 606 (by decide +kernel) (by decide +kernel)
theorem kf_X7_19 : Cond.fieldLink RX7 19 "DonorPartsModel" "slots" "[I" ∈ q_WS := q_mem 607 (by decide +kernel) (by decide +kernel)
theorem kf_X7_22 : Cond.fieldLink RX7 22 "DonorPartsModel" "hasSlot" "[Z" ∈ q_WS := q_mem 608 (by decide +kernel) (by decide +kernel)
theorem kf_X7_26 : Cond.fieldLink RX7 26 "DonorPartsModel" "pad" "[I" ∈ q_WS := q_mem 609 (by decide +kernel) (by decide +kernel)
theorem kf_X7_135 : Cond.fieldLink RX7 135 "DonorPartsModel" "length" "I" ∈ q_WS := q_mem 610 (by decide +kernel) (by decide +kernel)
theorem kf_X7_150 : Cond.fieldLink RX7 150 "DonorPartsModel" "at" "I" ∈ q_WS := q_mem 611 (by decide +kernel) (by decide +kernel)
theorem kf_X7_153 : Cond.fieldLink RX7 153 "DonorPartsModel" "isWell" "Z" ∈ q_WS := q_mem 612 (by decide +kernel) (by decide +kernel)
theorem kf_X7_29 : Cond.fieldLink RX7 29 "DonorPartsModel" "orders" "[I" ∈ q_WS := q_mem 613 (by decide +kernel) (by decide +kernel)
theorem kf_X7_164 : Cond.fieldLink RX7 164 "DonorPartsModel" "orderMany" "I" ∈ q_WS := q_mem 614 (by decide +kernel) (by decide +kernel)
theorem ka_int : Cond.arrayClass .int ∈ q_WS := q_mem 642 (by decide +kernel) (by decide +kernel)
theorem ka_boolean : Cond.arrayClass .boolean ∈ q_WS := q_mem 643 (by decide +kernel) (by decide +kernel)
theorem km_L_17 : Cond.methodLink RL 17 yX7_thing ∈ q_WS := q_mem 644 (by decide +kernel) (by decide +kernel)
theorem ki_yX7_thing : Cond.instanceMethod yX7_thing ∈ q_WS := q_mem 645 (by decide +kernel) (by decide +kernel)
theorem ks_yX7_thing : Cond.selects yX7_thing.cls yX7_thing yX7_thing ∈ q_WS := q_mem 646 (by decide +kernel) (by decide +kernel)
theorem km_X7_98 : Cond.methodLink RX7 98 yX7_refusesThing ∈ q_WS := q_mem 648 (by decide +kernel) (by decide +kernel)
theorem ki_yX7_refusesThing : Cond.instanceMethod yX7_refusesThing ∈ q_WS := q_mem 650 (by decide +kernel) (by decide +kernel)
theorem km_X7_94 : Cond.methodLink RX7 94 yX7_in ∈ q_WS := q_mem 652 (by decide +kernel) (by decide +kernel)
theorem kt_yX7_in : Cond.static yX7_in ∈ q_WS := q_mem 653 (by decide +kernel) (by decide +kernel)
theorem km_X7_43 : Cond.methodLink RX7 43 yX7_partsOf ∈ q_WS := q_mem 655 (by decide +kernel) (by decide +kernel)
theorem kt_yX7_partsOf : Cond.static yX7_partsOf ∈ q_WS := q_mem 656 (by decide +kernel) (by decide +kernel)
theorem km_X7_102 : Cond.methodLink RX7 102 yX7_records ∈ q_WS := q_mem 658 (by decide +kernel) (by decide +kernel)
theorem ki_yX7_records : Cond.instanceMethod yX7_records ∈ q_WS := q_mem 660 (by decide +kernel) (by decide +kernel)
theorem km_X7_105 : Cond.methodLink RX7 105 yX7_comes ∈ q_WS := q_mem 662 (by decide +kernel) (by decide +kernel)
theorem ki_yX7_comes : Cond.instanceMethod yX7_comes ∈ q_WS := q_mem 664 (by decide +kernel) (by decide +kernel)
theorem km_X7_47 : Cond.methodLink RX7 47 yX7_lay ∈ q_WS := q_mem 666 (by decide +kernel) (by decide +kernel)
theorem ki_yX7_lay : Cond.instanceMethod yX7_lay ∈ q_WS := q_mem 668 (by decide +kernel) (by decide +kernel)
theorem km_L_22 : Cond.methodLink RL 22 yX7_fixer ∈ q_WS := q_mem 670 (by decide +kernel) (by decide +kernel)
theorem ki_yX7_fixer : Cond.instanceMethod yX7_fixer ∈ q_WS := q_mem 671 (by decide +kernel) (by decide +kernel)
theorem ks_yX7_fixer : Cond.selects yX7_fixer.cls yX7_fixer yX7_fixer ∈ q_WS := q_mem 672 (by decide +kernel) (by decide +kernel)
theorem km_X7_108 : Cond.methodLink RX7 108 yX7_refusesFixer ∈ q_WS := q_mem 674 (by decide +kernel) (by decide +kernel)
theorem ki_yX7_refusesFixer : Cond.instanceMethod yX7_refusesFixer ∈ q_WS := q_mem 676 (by decide +kernel) (by decide +kernel)
theorem km_X7_111 : Cond.methodLink RX7 111 yX7_comesFixer ∈ q_WS := q_mem 678 (by decide +kernel) (by decide +kernel)
theorem ki_yX7_comesFixer : Cond.instanceMethod yX7_comesFixer ∈ q_WS := q_mem 680 (by decide +kernel) (by decide +kernel)
theorem km_L_26 : Cond.methodLink RL 26 yX7_drawer ∈ q_WS := q_mem 682 (by decide +kernel) (by decide +kernel)
theorem ki_yX7_drawer : Cond.instanceMethod yX7_drawer ∈ q_WS := q_mem 683 (by decide +kernel) (by decide +kernel)
theorem ks_yX7_drawer : Cond.selects yX7_drawer.cls yX7_drawer yX7_drawer ∈ q_WS := q_mem 684 (by decide +kernel) (by decide +kernel)
theorem km_X7_114 : Cond.methodLink RX7 114 yX7_refusesDrawer ∈ q_WS := q_mem 686 (by decide +kernel) (by decide +kernel)
theorem kt_yX7_refusesDrawer : Cond.static yX7_refusesDrawer ∈ q_WS := q_mem 687 (by decide +kernel) (by decide +kernel)
theorem km_L_31 : Cond.methodLink RL 31 yX7_giveUp ∈ q_WS := q_mem 689 (by decide +kernel) (by decide +kernel)
theorem ki_yX7_giveUp : Cond.instanceMethod yX7_giveUp ∈ q_WS := q_mem 690 (by decide +kernel) (by decide +kernel)
theorem ks_yX7_giveUp : Cond.selects yX7_giveUp.cls yX7_giveUp yX7_giveUp ∈ q_WS := q_mem 691 (by decide +kernel) (by decide +kernel)
theorem km_X7_117 : Cond.methodLink RX7 117 yX7_isThing ∈ q_WS := q_mem 693 (by decide +kernel) (by decide +kernel)
theorem ki_yX7_isThing : Cond.instanceMethod yX7_isThing ∈ q_WS := q_mem 695 (by decide +kernel) (by decide +kernel)
theorem km_X7_39 : Cond.methodLink RX7 39 yX7_of ∈ q_WS := q_mem 697 (by decide +kernel) (by decide +kernel)
theorem ki_yX7_of : Cond.instanceMethod yX7_of ∈ q_WS := q_mem 699 (by decide +kernel) (by decide +kernel)
theorem km_X7_54 : Cond.methodLink RX7 54 yX7_strips ∈ q_WS := q_mem 701 (by decide +kernel) (by decide +kernel)
theorem ki_yX7_strips : Cond.instanceMethod yX7_strips ∈ q_WS := q_mem 703 (by decide +kernel) (by decide +kernel)
theorem km_L_35 : Cond.methodLink RL 35 yX7_pass ∈ q_WS := q_mem 705 (by decide +kernel) (by decide +kernel)
theorem ki_yX7_pass : Cond.instanceMethod yX7_pass ∈ q_WS := q_mem 706 (by decide +kernel) (by decide +kernel)
theorem ks_yX7_pass : Cond.selects yX7_pass.cls yX7_pass yX7_pass ∈ q_WS := q_mem 707 (by decide +kernel) (by decide +kernel)
theorem km_X7_120 : Cond.methodLink RX7 120 yX7_refusesPass ∈ q_WS := q_mem 709 (by decide +kernel) (by decide +kernel)
theorem ki_yX7_refusesPass : Cond.instanceMethod yX7_refusesPass ∈ q_WS := q_mem 711 (by decide +kernel) (by decide +kernel)
theorem km_X7_123 : Cond.methodLink RX7 123 yX7_minutes ∈ q_WS := q_mem 713 (by decide +kernel) (by decide +kernel)
theorem ki_yX7_minutes : Cond.instanceMethod yX7_minutes ∈ q_WS := q_mem 715 (by decide +kernel) (by decide +kernel)
theorem km_X7_88 : Cond.methodLink RX7 88 yX7_withHow ∈ q_WS := q_mem 717 (by decide +kernel) (by decide +kernel)
theorem ki_yX7_withHow : Cond.instanceMethod yX7_withHow ∈ q_WS := q_mem 719 (by decide +kernel) (by decide +kernel)
theorem km_X7_91 : Cond.methodLink RX7 91 yX7_minute ∈ q_WS := q_mem 721 (by decide +kernel) (by decide +kernel)
theorem ki_yX7_minute : Cond.instanceMethod yX7_minute ∈ q_WS := q_mem 723 (by decide +kernel) (by decide +kernel)
theorem km_X7_51 : Cond.methodLink RX7 51 yX7_fixer0 ∈ q_WS := q_mem 725 (by decide +kernel) (by decide +kernel)
theorem ki_yX7_fixer0 : Cond.instanceMethod yX7_fixer0 ∈ q_WS := q_mem 727 (by decide +kernel) (by decide +kernel)
theorem km_X7_82 : Cond.methodLink RX7 82 yX7_takes ∈ q_WS := q_mem 729 (by decide +kernel) (by decide +kernel)
theorem ki_yX7_takes : Cond.instanceMethod yX7_takes ∈ q_WS := q_mem 731 (by decide +kernel) (by decide +kernel)
theorem km_X7_79 : Cond.methodLink RX7 79 yX7_nextFor ∈ q_WS := q_mem 733 (by decide +kernel) (by decide +kernel)
theorem ki_yX7_nextFor : Cond.instanceMethod yX7_nextFor ∈ q_WS := q_mem 735 (by decide +kernel) (by decide +kernel)
theorem km_X7_85 : Cond.methodLink RX7 85 yX7_works ∈ q_WS := q_mem 737 (by decide +kernel) (by decide +kernel)
theorem ki_yX7_works : Cond.instanceMethod yX7_works ∈ q_WS := q_mem 739 (by decide +kernel) (by decide +kernel)
theorem km_X7_57 : Cond.methodLink RX7 57 yX7_more ∈ q_WS := q_mem 741 (by decide +kernel) (by decide +kernel)
theorem ki_yX7_more : Cond.instanceMethod yX7_more ∈ q_WS := q_mem 743 (by decide +kernel) (by decide +kernel)
theorem km_X7_68 : Cond.methodLink RX7 68 yX7_exchanges ∈ q_WS := q_mem 745 (by decide +kernel) (by decide +kernel)
theorem ki_yX7_exchanges : Cond.instanceMethod yX7_exchanges ∈ q_WS := q_mem 747 (by decide +kernel) (by decide +kernel)
theorem km_X7_65 : Cond.methodLink RX7 65 yX7_lowest ∈ q_WS := q_mem 749 (by decide +kernel) (by decide +kernel)
theorem kt_yX7_lowest : Cond.static yX7_lowest ∈ q_WS := q_mem 750 (by decide +kernel) (by decide +kernel)
theorem km_X7_72 : Cond.methodLink RX7 72 yX7_tests ∈ q_WS := q_mem 752 (by decide +kernel) (by decide +kernel)
theorem ki_yX7_tests : Cond.instanceMethod yX7_tests ∈ q_WS := q_mem 754 (by decide +kernel) (by decide +kernel)
theorem km_X7_76 : Cond.methodLink RX7 76 yX7_givesUp ∈ q_WS := q_mem 756 (by decide +kernel) (by decide +kernel)
theorem ki_yX7_givesUp : Cond.instanceMethod yX7_givesUp ∈ q_WS := q_mem 758 (by decide +kernel) (by decide +kernel)
theorem km_X7_61 : Cond.methodLink RX7 61 yX7_frees ∈ q_WS := q_mem 760 (by decide +kernel) (by decide +kernel)
theorem ki_yX7_frees : Cond.instanceMethod yX7_frees ∈ q_WS := q_mem 762 (by decide +kernel) (by decide +kernel)
theorem km_L_39 : Cond.methodLink RL 39 yX7_ofThing ∈ q_WS := q_mem 764 (by decide +kernel) (by decide +kernel)
theorem ki_yX7_ofThing : Cond.instanceMethod yX7_ofThing ∈ q_WS := q_mem 765 (by decide +kernel) (by decide +kernel)
theorem ks_yX7_ofThing : Cond.selects yX7_ofThing.cls yX7_ofThing yX7_ofThing ∈ q_WS := q_mem 766 (by decide +kernel) (by decide +kernel)
theorem km_X7_126 : Cond.methodLink RX7 126 yX7_fixerOf ∈ q_WS := q_mem 768 (by decide +kernel) (by decide +kernel)
theorem ki_yX7_fixerOf : Cond.instanceMethod yX7_fixerOf ∈ q_WS := q_mem 770 (by decide +kernel) (by decide +kernel)
theorem km_X7_129 : Cond.methodLink RX7 129 yX7_placeOf ∈ q_WS := q_mem 772 (by decide +kernel) (by decide +kernel)
theorem ki_yX7_placeOf : Cond.instanceMethod yX7_placeOf ∈ q_WS := q_mem 774 (by decide +kernel) (by decide +kernel)
theorem km_L_43 : Cond.methodLink RL 43 yX7_ofFixer ∈ q_WS := q_mem 776 (by decide +kernel) (by decide +kernel)
theorem ki_yX7_ofFixer : Cond.instanceMethod yX7_ofFixer ∈ q_WS := q_mem 777 (by decide +kernel) (by decide +kernel)
theorem ks_yX7_ofFixer : Cond.selects yX7_ofFixer.cls yX7_ofFixer yX7_ofFixer ∈ q_WS := q_mem 778 (by decide +kernel) (by decide +kernel)
theorem km_L_47 : Cond.methodLink RL 47 yX7_ofPart ∈ q_WS := q_mem 780 (by decide +kernel) (by decide +kernel)
theorem ki_yX7_ofPart : Cond.instanceMethod yX7_ofPart ∈ q_WS := q_mem 781 (by decide +kernel) (by decide +kernel)
theorem ks_yX7_ofPart : Cond.selects yX7_ofPart.cls yX7_ofPart yX7_ofPart ∈ q_WS := q_mem 782 (by decide +kernel) (by decide +kernel)
theorem km_X7_132 : Cond.methodLink RX7 132 yX7_brokenOnes ∈ q_WS := q_mem 784 (by decide +kernel) (by decide +kernel)
theorem ki_yX7_brokenOnes : Cond.instanceMethod yX7_brokenOnes ∈ q_WS := q_mem 786 (by decide +kernel) (by decide +kernel)
theorem km_L_51 : Cond.methodLink RL 51 yX7_count ∈ q_WS := q_mem 788 (by decide +kernel) (by decide +kernel)
theorem ki_yX7_count : Cond.instanceMethod yX7_count ∈ q_WS := q_mem 789 (by decide +kernel) (by decide +kernel)
theorem ks_yX7_count : Cond.selects yX7_count.cls yX7_count yX7_count ∈ q_WS := q_mem 790 (by decide +kernel) (by decide +kernel)
theorem km_L_56 : Cond.methodLink RL 56 yX7_scarcest ∈ q_WS := q_mem 792 (by decide +kernel) (by decide +kernel)
theorem ki_yX7_scarcest : Cond.instanceMethod yX7_scarcest ∈ q_WS := q_mem 793 (by decide +kernel) (by decide +kernel)
theorem ks_yX7_scarcest : Cond.selects yX7_scarcest.cls yX7_scarcest yX7_scarcest ∈ q_WS := q_mem 794 (by decide +kernel) (by decide +kernel)
theorem km_L_60 : Cond.methodLink RL 60 yX7_doneIn ∈ q_WS := q_mem 796 (by decide +kernel) (by decide +kernel)
theorem ki_yX7_doneIn : Cond.instanceMethod yX7_doneIn ∈ q_WS := q_mem 797 (by decide +kernel) (by decide +kernel)
theorem ks_yX7_doneIn : Cond.selects yX7_doneIn.cls yX7_doneIn yX7_doneIn ∈ q_WS := q_mem 798 (by decide +kernel) (by decide +kernel)
theorem km_X7_138 : Cond.methodLink RX7 138 yX7_putAside ∈ q_WS := q_mem 800 (by decide +kernel) (by decide +kernel)
theorem ki_yX7_putAside : Cond.instanceMethod yX7_putAside ∈ q_WS := q_mem 802 (by decide +kernel) (by decide +kernel)
theorem km_X7_141 : Cond.methodLink RX7 141 yX7_takeBack ∈ q_WS := q_mem 804 (by decide +kernel) (by decide +kernel)
theorem ki_yX7_takeBack : Cond.instanceMethod yX7_takeBack ∈ q_WS := q_mem 806 (by decide +kernel) (by decide +kernel)
theorem km_L_65 : Cond.methodLink RL 65 yX7_withFixer ∈ q_WS := q_mem 808 (by decide +kernel) (by decide +kernel)
theorem ki_yX7_withFixer : Cond.instanceMethod yX7_withFixer ∈ q_WS := q_mem 809 (by decide +kernel) (by decide +kernel)
theorem ks_yX7_withFixer : Cond.selects yX7_withFixer.cls yX7_withFixer yX7_withFixer ∈ q_WS := q_mem 810 (by decide +kernel) (by decide +kernel)
theorem km_X7_144 : Cond.methodLink RX7 144 yX7_repairedWith ∈ q_WS := q_mem 812 (by decide +kernel) (by decide +kernel)
theorem ki_yX7_repairedWith : Cond.instanceMethod yX7_repairedWith ∈ q_WS := q_mem 814 (by decide +kernel) (by decide +kernel)
theorem km_L_69 : Cond.methodLink RL 69 yX7_bestCare ∈ q_WS := q_mem 816 (by decide +kernel) (by decide +kernel)
theorem ki_yX7_bestCare : Cond.instanceMethod yX7_bestCare ∈ q_WS := q_mem 817 (by decide +kernel) (by decide +kernel)
theorem ks_yX7_bestCare : Cond.selects yX7_bestCare.cls yX7_bestCare yX7_bestCare ∈ q_WS := q_mem 818 (by decide +kernel) (by decide +kernel)
theorem km_L_76 : Cond.methodLink RL 76 yX7_put ∈ q_WS := q_mem 820 (by decide +kernel) (by decide +kernel)
theorem ki_yX7_put : Cond.instanceMethod yX7_put ∈ q_WS := q_mem 821 (by decide +kernel) (by decide +kernel)
theorem ks_yX7_put : Cond.selects yX7_put.cls yX7_put yX7_put ∈ q_WS := q_mem 822 (by decide +kernel) (by decide +kernel)
theorem kg_X7_148 : Cond.constantLong RX7 148 255 ∈ q_WS := q_mem 824 (by decide +kernel) (by decide +kernel)
theorem km_L_80 : Cond.methodLink RL 80 yX7_wipe ∈ q_WS := q_mem 825 (by decide +kernel) (by decide +kernel)
theorem ki_yX7_wipe : Cond.instanceMethod yX7_wipe ∈ q_WS := q_mem 826 (by decide +kernel) (by decide +kernel)
theorem ks_yX7_wipe : Cond.selects yX7_wipe.cls yX7_wipe yX7_wipe ∈ q_WS := q_mem 827 (by decide +kernel) (by decide +kernel)
theorem km_L_84 : Cond.methodLink RL 84 yX7_fault ∈ q_WS := q_mem 829 (by decide +kernel) (by decide +kernel)
theorem ki_yX7_fault : Cond.instanceMethod yX7_fault ∈ q_WS := q_mem 830 (by decide +kernel) (by decide +kernel)
theorem ks_yX7_fault : Cond.selects yX7_fault.cls yX7_fault yX7_fault ∈ q_WS := q_mem 831 (by decide +kernel) (by decide +kernel)
theorem km_X7_179 : Cond.methodLink RX7 179 yX7_reads ∈ q_WS := q_mem 833 (by decide +kernel) (by decide +kernel)
theorem ki_yX7_reads : Cond.instanceMethod yX7_reads ∈ q_WS := q_mem 835 (by decide +kernel) (by decide +kernel)
theorem km_X7_176 : Cond.methodLink RX7 176 yX7_readsOrder ∈ q_WS := q_mem 837 (by decide +kernel) (by decide +kernel)
theorem ki_yX7_readsOrder : Cond.instanceMethod yX7_readsOrder ∈ q_WS := q_mem 839 (by decide +kernel) (by decide +kernel)
theorem km_X7_157 : Cond.methodLink RX7 157 yX7_sign ∈ q_WS := q_mem 841 (by decide +kernel) (by decide +kernel)
theorem ki_yX7_sign : Cond.instanceMethod yX7_sign ∈ q_WS := q_mem 843 (by decide +kernel) (by decide +kernel)
theorem km_X7_161 : Cond.methodLink RX7 161 yX7_digit ∈ q_WS := q_mem 845 (by decide +kernel) (by decide +kernel)
theorem ki_yX7_digit : Cond.instanceMethod yX7_digit ∈ q_WS := q_mem 847 (by decide +kernel) (by decide +kernel)
theorem km_X7_167 : Cond.methodLink RX7 167 yX7_takesSign ∈ q_WS := q_mem 849 (by decide +kernel) (by decide +kernel)
theorem ki_yX7_takesSign : Cond.instanceMethod yX7_takesSign ∈ q_WS := q_mem 851 (by decide +kernel) (by decide +kernel)
theorem km_X7_170 : Cond.methodLink RX7 170 yX7_digits ∈ q_WS := q_mem 853 (by decide +kernel) (by decide +kernel)
theorem ki_yX7_digits : Cond.instanceMethod yX7_digits ∈ q_WS := q_mem 855 (by decide +kernel) (by decide +kernel)
theorem km_X7_173 : Cond.methodLink RX7 173 yX7_number ∈ q_WS := q_mem 857 (by decide +kernel) (by decide +kernel)
theorem ki_yX7_number : Cond.instanceMethod yX7_number ∈ q_WS := q_mem 859 (by decide +kernel) (by decide +kernel)
theorem km_L_88 : Cond.methodLink RL 88 yX7_carryOut ∈ q_WS := q_mem 861 (by decide +kernel) (by decide +kernel)
theorem ki_yX7_carryOut : Cond.instanceMethod yX7_carryOut ∈ q_WS := q_mem 862 (by decide +kernel) (by decide +kernel)
theorem ks_yX7_carryOut : Cond.selects yX7_carryOut.cls yX7_carryOut yX7_carryOut ∈ q_WS := q_mem 863 (by decide +kernel) (by decide +kernel)
theorem km_X7_182 : Cond.methodLink RX7 182 yX7_refuses ∈ q_WS := q_mem 865 (by decide +kernel) (by decide +kernel)
theorem ki_yX7_refuses : Cond.instanceMethod yX7_refuses ∈ q_WS := q_mem 867 (by decide +kernel) (by decide +kernel)
theorem km_X7_185 : Cond.methodLink RX7 185 yX7_does ∈ q_WS := q_mem 869 (by decide +kernel) (by decide +kernel)
theorem ki_yX7_does : Cond.instanceMethod yX7_does ∈ q_WS := q_mem 871 (by decide +kernel) (by decide +kernel)
theorem km_L_92 : Cond.methodLink RL 92 yX7_undo ∈ q_WS := q_mem 873 (by decide +kernel) (by decide +kernel)
theorem ki_yX7_undo : Cond.instanceMethod yX7_undo ∈ q_WS := q_mem 874 (by decide +kernel) (by decide +kernel)
theorem ks_yX7_undo : Cond.selects yX7_undo.cls yX7_undo yX7_undo ∈ q_WS := q_mem 875 (by decide +kernel) (by decide +kernel)
theorem km_L_96 : Cond.methodLink RL 96 yX7_save ∈ q_WS := q_mem 877 (by decide +kernel) (by decide +kernel)
theorem ki_yX7_save : Cond.instanceMethod yX7_save ∈ q_WS := q_mem 878 (by decide +kernel) (by decide +kernel)
theorem ks_yX7_save : Cond.selects yX7_save.cls yX7_save yX7_save ∈ q_WS := q_mem 879 (by decide +kernel) (by decide +kernel)
theorem km_L_100 : Cond.methodLink RL 100 yX7_restore ∈ q_WS := q_mem 881 (by decide +kernel) (by decide +kernel)
theorem ki_yX7_restore : Cond.instanceMethod yX7_restore ∈ q_WS := q_mem 882 (by decide +kernel) (by decide +kernel)
theorem ks_yX7_restore : Cond.selects yX7_restore.cls yX7_restore yX7_restore ∈ q_WS := q_mem 883 (by decide +kernel) (by decide +kernel)
theorem kg_L_70 : Cond.constantLong RL 70 4294967295 ∈ q_WS := q_mem 885 (by decide +kernel) (by decide +kernel)
def mX6_init : q_Mth := (yX6_init, cX6_init, 1, none)
theorem kc_yX6_init : Cond.code yX6_init cX6_init 1 none ∈ q_WS := q_mem 68 (by decide +kernel) (by decide +kernel)
theorem kc_objectInit : Cond.code objectInit ⟨#[0xb1]⟩ 1 none ∈ q_WS := q_mem 71 (by decide +kernel) (by decide +kernel)
def mX0_init : q_Mth := (yX0_init, cX0_init, 2, none)
theorem kc_yX0_init : Cond.code yX0_init cX0_init 2 none ∈ q_WS := q_mem 76 (by decide +kernel) (by decide +kernel)
def mX5_init : q_Mth := (yX5_init, cX5_init, 1, none)
theorem kc_yX5_init : Cond.code yX5_init cX5_init 1 none ∈ q_WS := q_mem 87 (by decide +kernel) (by decide +kernel)
def mX1_init : q_Mth := (yX1_init, cX1_init, 1, none)
theorem kc_yX1_init : Cond.code yX1_init cX1_init 1 none ∈ q_WS := q_mem 132 (by decide +kernel) (by decide +kernel)
def mX3_init : q_Mth := (yX3_init, cX3_init, 1, none)
theorem kc_yX3_init : Cond.code yX3_init cX3_init 1 none ∈ q_WS := q_mem 168 (by decide +kernel) (by decide +kernel)
def mX4_init : q_Mth := (yX4_init, cX4_init, 2, none)
theorem kc_yX4_init : Cond.code yX4_init cX4_init 2 none ∈ q_WS := q_mem 210 (by decide +kernel) (by decide +kernel)
def mX2_init : q_Mth := (yX2_init, cX2_init, 1, none)
theorem kc_yX2_init : Cond.code yX2_init cX2_init 1 none ∈ q_WS := q_mem 230 (by decide +kernel) (by decide +kernel)
def mX6_thing : q_Mth := (yX6_thing, cX6_thing, 5, (some .int))
theorem kc_yX6_thing : Cond.code yX6_thing cX6_thing 5 (some .int) ∈ q_WS := q_mem 284 (by decide +kernel) (by decide +kernel)
def mX4_note : q_Mth := (yX4_note, cX4_note, 3, none)
theorem kc_yX4_note : Cond.code yX4_note cX4_note 3 none ∈ q_WS := q_mem 288 (by decide +kernel) (by decide +kernel)
def mX4_nextPlace : q_Mth := (yX4_nextPlace, cX4_nextPlace, 1, (some (.object "DonorParts$Cafe")))
theorem kc_yX4_nextPlace : Cond.code yX4_nextPlace cX4_nextPlace 1 (some (.object "DonorParts$Cafe")) ∈ q_WS := q_mem 292 (by decide +kernel) (by decide +kernel)
def mX0_copyFrom : q_Mth := (yX0_copyFrom, cX0_copyFrom, 4, none)
theorem kc_yX0_copyFrom : Cond.code yX0_copyFrom cX0_copyFrom 4 none ∈ q_WS := q_mem 296 (by decide +kernel) (by decide +kernel)
def mX0_thingAt : q_Mth := (yX0_thingAt, cX0_thingAt, 2, (some (.object "DonorParts$Thing")))
theorem kc_yX0_thingAt : Cond.code yX0_thingAt cX0_thingAt 2 (some (.object "DonorParts$Thing")) ∈ q_WS := q_mem 300 (by decide +kernel) (by decide +kernel)
def mX5_copyFrom : q_Mth := (yX5_copyFrom, cX5_copyFrom, 2, none)
theorem kc_yX5_copyFrom : Cond.code yX5_copyFrom cX5_copyFrom 2 none ∈ q_WS := q_mem 304 (by decide +kernel) (by decide +kernel)
def mX0_fixerAt : q_Mth := (yX0_fixerAt, cX0_fixerAt, 2, (some (.object "DonorParts$Fixer")))
theorem kc_yX0_fixerAt : Cond.code yX0_fixerAt cX0_fixerAt 2 (some (.object "DonorParts$Fixer")) ∈ q_WS := q_mem 308 (by decide +kernel) (by decide +kernel)
def mX1_copyFrom : q_Mth := (yX1_copyFrom, cX1_copyFrom, 2, none)
theorem kc_yX1_copyFrom : Cond.code yX1_copyFrom cX1_copyFrom 2 none ∈ q_WS := q_mem 312 (by decide +kernel) (by decide +kernel)
def mX0_partAt : q_Mth := (yX0_partAt, cX0_partAt, 2, (some (.object "DonorParts$Part")))
theorem kc_yX0_partAt : Cond.code yX0_partAt cX0_partAt 2 (some (.object "DonorParts$Part")) ∈ q_WS := q_mem 316 (by decide +kernel) (by decide +kernel)
def mX3_copyFrom : q_Mth := (yX3_copyFrom, cX3_copyFrom, 2, none)
theorem kc_yX3_copyFrom : Cond.code yX3_copyFrom cX3_copyFrom 2 none ∈ q_WS := q_mem 320 (by decide +kernel) (by decide +kernel)
def mX0_addThing : q_Mth := (yX0_addThing, cX0_addThing, 7, (some .int))
theorem kc_yX0_addThing : Cond.code yX0_addThing cX0_addThing 7 (some .int) ∈ q_WS := q_mem 324 (by decide +kernel) (by decide +kernel)
def mX6_partsOf : q_Mth := (yX6_partsOf, cX6_partsOf, 3, (some .int))
theorem kc_yX6_partsOf : Cond.code yX6_partsOf cX6_partsOf 3 (some .int) ∈ q_WS := q_mem 327 (by decide +kernel) (by decide +kernel)
def mX5_come : q_Mth := (yX5_come, cX5_come, 5, none)
theorem kc_yX5_come : Cond.code yX5_come cX5_come 5 none ∈ q_WS := q_mem 331 (by decide +kernel) (by decide +kernel)
def mX6_kept : q_Mth := (yX6_kept, cX6_kept, 2, (some .int))
theorem kc_yX6_kept : Cond.code yX6_kept cX6_kept 2 (some .int) ∈ q_WS := q_mem 335 (by decide +kernel) (by decide +kernel)
def mX4_keep : q_Mth := (yX4_keep, cX4_keep, 1, none)
theorem kc_yX4_keep : Cond.code yX4_keep cX4_keep 1 none ∈ q_WS := q_mem 339 (by decide +kernel) (by decide +kernel)
theorem kc_mmin : Cond.code Lib.Math.min.name Lib.Math.min.code 2 (some .int) ∈ q_WS := q_mem 342 (by decide +kernel) (by decide +kernel)
def mX6_fixer : q_Mth := (yX6_fixer, cX6_fixer, 3, (some .int))
theorem kc_yX6_fixer : Cond.code yX6_fixer cX6_fixer 3 (some .int) ∈ q_WS := q_mem 346 (by decide +kernel) (by decide +kernel)
def mX0_addFixer : q_Mth := (yX0_addFixer, cX0_addFixer, 5, (some .int))
theorem kc_yX0_addFixer : Cond.code yX0_addFixer cX0_addFixer 5 (some .int) ∈ q_WS := q_mem 350 (by decide +kernel) (by decide +kernel)
def mX6_isFixer : q_Mth := (yX6_isFixer, cX6_isFixer, 2, (some .boolean))
theorem kc_yX6_isFixer : Cond.code yX6_isFixer cX6_isFixer 2 (some .boolean) ∈ q_WS := q_mem 353 (by decide +kernel) (by decide +kernel)
def mX1_come : q_Mth := (yX1_come, cX1_come, 3, none)
theorem kc_yX1_come : Cond.code yX1_come cX1_come 3 none ∈ q_WS := q_mem 357 (by decide +kernel) (by decide +kernel)
def mX6_drawer : q_Mth := (yX6_drawer, cX6_drawer, 3, (some .int))
theorem kc_yX6_drawer : Cond.code yX6_drawer cX6_drawer 3 (some .int) ∈ q_WS := q_mem 361 (by decide +kernel) (by decide +kernel)
def mX0_fillDrawer : q_Mth := (yX0_fillDrawer, cX0_fillDrawer, 5, (some .int))
theorem kc_yX0_fillDrawer : Cond.code yX0_fillDrawer cX0_fillDrawer 5 (some .int) ∈ q_WS := q_mem 365 (by decide +kernel) (by decide +kernel)
def mX6_giveUp : q_Mth := (yX6_giveUp, cX6_giveUp, 2, (some .int))
theorem kc_yX6_giveUp : Cond.code yX6_giveUp cX6_giveUp 2 (some .int) ∈ q_WS := q_mem 369 (by decide +kernel) (by decide +kernel)
def mX0_giveWaitingUp : q_Mth := (yX0_giveWaitingUp, cX0_giveWaitingUp, 3, (some .int))
theorem kc_yX0_giveWaitingUp : Cond.code yX0_giveWaitingUp cX0_giveWaitingUp 3 (some .int) ∈ q_WS := q_mem 373 (by decide +kernel) (by decide +kernel)
def mX0_strip : q_Mth := (yX0_strip, cX0_strip, 6, (some .int))
theorem kc_yX0_strip : Cond.code yX0_strip cX0_strip 6 (some .int) ∈ q_WS := q_mem 377 (by decide +kernel) (by decide +kernel)
def mX6_isIn : q_Mth := (yX6_isIn, cX6_isIn, 2, (some .boolean))
theorem kc_yX6_isIn : Cond.code yX6_isIn cX6_isIn 2 (some .boolean) ∈ q_WS := q_mem 380 (by decide +kernel) (by decide +kernel)
def mX3_takeIn : q_Mth := (yX3_takeIn, cX3_takeIn, 1, (some .boolean))
theorem kc_yX3_takeIn : Cond.code yX3_takeIn cX3_takeIn 1 (some .boolean) ∈ q_WS := q_mem 384 (by decide +kernel) (by decide +kernel)
def mX5_end : q_Mth := (yX5_end, cX5_end, 2, none)
theorem kc_yX5_end : Cond.code yX5_end cX5_end 2 none ∈ q_WS := q_mem 388 (by decide +kernel) (by decide +kernel)
def mX6_pass : q_Mth := (yX6_pass, cX6_pass, 2, (some .int))
theorem kc_yX6_pass : Cond.code yX6_pass cX6_pass 2 (some .int) ∈ q_WS := q_mem 392 (by decide +kernel) (by decide +kernel)
def mX0_letPass : q_Mth := (yX0_letPass, cX0_letPass, 2, (some .int))
theorem kc_yX0_letPass : Cond.code yX0_letPass cX0_letPass 2 (some .int) ∈ q_WS := q_mem 396 (by decide +kernel) (by decide +kernel)
def mX0_passMinutes : q_Mth := (yX0_passMinutes, cX0_passMinutes, 5, (some .int))
theorem kc_yX0_passMinutes : Cond.code yX0_passMinutes cX0_passMinutes 5 (some .int) ∈ q_WS := q_mem 400 (by decide +kernel) (by decide +kernel)
def mX0_hasThingHere : q_Mth := (yX0_hasThingHere, cX0_hasThingHere, 3, (some .boolean))
theorem kc_yX0_hasThingHere : Cond.code yX0_hasThingHere cX0_hasThingHere 3 (some .boolean) ∈ q_WS := q_mem 404 (by decide +kernel) (by decide +kernel)
def mX5_isHere : q_Mth := (yX5_isHere, cX5_isHere, 1, (some .boolean))
theorem kc_yX5_isHere : Cond.code yX5_isHere cX5_isHere 1 (some .boolean) ∈ q_WS := q_mem 408 (by decide +kernel) (by decide +kernel)
def mX0_passMinute : q_Mth := (yX0_passMinute, cX0_passMinute, 3, (some .int))
theorem kc_yX0_passMinute : Cond.code yX0_passMinute cX0_passMinute 3 (some .int) ∈ q_WS := q_mem 412 (by decide +kernel) (by decide +kernel)
def mX0_takeThing : q_Mth := (yX0_takeThing, cX0_takeThing, 5, none)
theorem kc_yX0_takeThing : Cond.code yX0_takeThing cX0_takeThing 5 none ∈ q_WS := q_mem 416 (by decide +kernel) (by decide +kernel)
def mX0_nextOf : q_Mth := (yX0_nextOf, cX0_nextOf, 6, (some .int))
theorem kc_yX0_nextOf : Cond.code yX0_nextOf cX0_nextOf 6 (some .int) ∈ q_WS := q_mem 420 (by decide +kernel) (by decide +kernel)
def mX0_workOf : q_Mth := (yX0_workOf, cX0_workOf, 5, (some .int))
theorem kc_yX0_workOf : Cond.code yX0_workOf cX0_workOf 5 (some .int) ∈ q_WS := q_mem 424 (by decide +kernel) (by decide +kernel)
def mX0_exchangeLowest : q_Mth := (yX0_exchangeLowest, cX0_exchangeLowest, 4, (some .boolean))
theorem kc_yX0_exchangeLowest : Cond.code yX0_exchangeLowest cX0_exchangeLowest 4 (some .boolean) ∈ q_WS := q_mem 428 (by decide +kernel) (by decide +kernel)
def mX3_handOut : q_Mth := (yX3_handOut, cX3_handOut, 1, (some .boolean))
theorem kc_yX3_handOut : Cond.code yX3_handOut cX3_handOut 1 (some .boolean) ∈ q_WS := q_mem 432 (by decide +kernel) (by decide +kernel)
def mX5_tryTest : q_Mth := (yX5_tryTest, cX5_tryTest, 3, (some .boolean))
theorem kc_yX5_tryTest : Cond.code yX5_tryTest cX5_tryTest 3 (some .boolean) ∈ q_WS := q_mem 436 (by decide +kernel) (by decide +kernel)
def mX0_losePatience : q_Mth := (yX0_losePatience, cX0_losePatience, 3, none)
theorem kc_yX0_losePatience : Cond.code yX0_losePatience cX0_losePatience 3 none ∈ q_WS := q_mem 440 (by decide +kernel) (by decide +kernel)
def mX6_ofThing : q_Mth := (yX6_ofThing, cX6_ofThing, 4, (some .int))
theorem kc_yX6_ofThing : Cond.code yX6_ofThing cX6_ofThing 4 (some .int) ∈ q_WS := q_mem 444 (by decide +kernel) (by decide +kernel)
def mX0_placeOf : q_Mth := (yX0_placeOf, cX0_placeOf, 6, (some .int))
theorem kc_yX0_placeOf : Cond.code yX0_placeOf cX0_placeOf 6 (some .int) ∈ q_WS := q_mem 449 (by decide +kernel) (by decide +kernel)
def mX6_ofFixer : q_Mth := (yX6_ofFixer, cX6_ofFixer, 4, (some .int))
theorem kc_yX6_ofFixer : Cond.code yX6_ofFixer cX6_ofFixer 4 (some .int) ∈ q_WS := q_mem 453 (by decide +kernel) (by decide +kernel)
def mX6_ofPart : q_Mth := (yX6_ofPart, cX6_ofPart, 4, (some .int))
theorem kc_yX6_ofPart : Cond.code yX6_ofPart cX6_ofPart 4 (some .int) ∈ q_WS := q_mem 459 (by decide +kernel) (by decide +kernel)
def mX0_brokenOnes : q_Mth := (yX0_brokenOnes, cX0_brokenOnes, 5, (some .int))
theorem kc_yX0_brokenOnes : Cond.code yX0_brokenOnes cX0_brokenOnes 5 (some .int) ∈ q_WS := q_mem 464 (by decide +kernel) (by decide +kernel)
def mX6_count : q_Mth := (yX6_count, cX6_count, 2, (some .int))
theorem kc_yX6_count : Cond.code yX6_count cX6_count 2 (some .int) ∈ q_WS := q_mem 468 (by decide +kernel) (by decide +kernel)
def mX0_thingsThatAre : q_Mth := (yX0_thingsThatAre, cX0_thingsThatAre, 5, (some .int))
theorem kc_yX0_thingsThatAre : Cond.code yX0_thingsThatAre cX0_thingsThatAre 5 (some .int) ∈ q_WS := q_mem 472 (by decide +kernel) (by decide +kernel)
def mX6_scarcest : q_Mth := (yX6_scarcest, cX6_scarcest, 5, (some .int))
theorem kc_yX6_scarcest : Cond.code yX6_scarcest cX6_scarcest 5 (some .int) ∈ q_WS := q_mem 476 (by decide +kernel) (by decide +kernel)
def mX0_missingOnes : q_Mth := (yX0_missingOnes, cX0_missingOnes, 3, (some .int))
theorem kc_yX0_missingOnes : Cond.code yX0_missingOnes cX0_missingOnes 3 (some .int) ∈ q_WS := q_mem 480 (by decide +kernel) (by decide +kernel)
def mX6_doneIn : q_Mth := (yX6_doneIn, cX6_doneIn, 4, (some .int))
theorem kc_yX6_doneIn : Cond.code yX6_doneIn cX6_doneIn 4 (some .int) ∈ q_WS := q_mem 485 (by decide +kernel) (by decide +kernel)
def mX6_withFixer : q_Mth := (yX6_withFixer, cX6_withFixer, 4, (some .int))
theorem kc_yX6_withFixer : Cond.code yX6_withFixer cX6_withFixer 4 (some .int) ∈ q_WS := q_mem 492 (by decide +kernel) (by decide +kernel)
def mX6_isWhatIf : q_Mth := (yX6_isWhatIf, cX6_isWhatIf, 1, (some .boolean))
theorem kc_yX6_isWhatIf : Cond.code yX6_isWhatIf cX6_isWhatIf 1 (some .boolean) ∈ q_WS := q_mem 496 (by decide +kernel) (by decide +kernel)
def mX6_repairedWith : q_Mth := (yX6_repairedWith, cX6_repairedWith, 4, (some .int))
theorem kc_yX6_repairedWith : Cond.code yX6_repairedWith cX6_repairedWith 4 (some .int) ∈ q_WS := q_mem 500 (by decide +kernel) (by decide +kernel)
def mX6_bestCare : q_Mth := (yX6_bestCare, cX6_bestCare, 6, (some .int))
theorem kc_yX6_bestCare : Cond.code yX6_bestCare cX6_bestCare 6 (some .int) ∈ q_WS := q_mem 505 (by decide +kernel) (by decide +kernel)
def mX6_put : q_Mth := (yX6_put, cX6_put, 5, (some .int))
theorem kc_yX6_put : Cond.code yX6_put cX6_put 5 (some .int) ∈ q_WS := q_mem 509 (by decide +kernel) (by decide +kernel)
def mX6_signsIn : q_Mth := (yX6_signsIn, cX6_signsIn, 7, (some .int))
theorem kc_yX6_signsIn : Cond.code yX6_signsIn cX6_signsIn 7 (some .int) ∈ q_WS := q_mem 512 (by decide +kernel) (by decide +kernel)
def mX2_append : q_Mth := (yX2_append, cX2_append, 2, none)
theorem kc_yX2_append : Cond.code yX2_append cX2_append 2 none ∈ q_WS := q_mem 517 (by decide +kernel) (by decide +kernel)
def mX6_wipe : q_Mth := (yX6_wipe, cX6_wipe, 2, (some .int))
theorem kc_yX6_wipe : Cond.code yX6_wipe cX6_wipe 2 (some .int) ∈ q_WS := q_mem 521 (by decide +kernel) (by decide +kernel)
def mX6_fault : q_Mth := (yX6_fault, cX6_fault, 2, (some .int))
theorem kc_yX6_fault : Cond.code yX6_fault cX6_fault 2 (some .int) ∈ q_WS := q_mem 525 (by decide +kernel) (by decide +kernel)
def mX2_begin : q_Mth := (yX2_begin, cX2_begin, 1, none)
theorem kc_yX2_begin : Cond.code yX2_begin cX2_begin 1 none ∈ q_WS := q_mem 529 (by decide +kernel) (by decide +kernel)
def mX2_readOrder : q_Mth := (yX2_readOrder, cX2_readOrder, 1, (some .boolean))
theorem kc_yX2_readOrder : Cond.code yX2_readOrder cX2_readOrder 1 (some .boolean) ∈ q_WS := q_mem 533 (by decide +kernel) (by decide +kernel)
def mX2_sign : q_Mth := (yX2_sign, cX2_sign, 1, (some .int))
theorem kc_yX2_sign : Cond.code yX2_sign cX2_sign 1 (some .int) ∈ q_WS := q_mem 537 (by decide +kernel) (by decide +kernel)
def mX2_readSign : q_Mth := (yX2_readSign, cX2_readSign, 2, (some .boolean))
theorem kc_yX2_readSign : Cond.code yX2_readSign cX2_readSign 2 (some .boolean) ∈ q_WS := q_mem 541 (by decide +kernel) (by decide +kernel)
def mX2_readThing : q_Mth := (yX2_readThing, cX2_readThing, 1, (some .boolean))
theorem kc_yX2_readThing : Cond.code yX2_readThing cX2_readThing 1 (some .boolean) ∈ q_WS := q_mem 545 (by decide +kernel) (by decide +kernel)
def mX2_readDigit : q_Mth := (yX2_readDigit, cX2_readDigit, 3, (some .boolean))
theorem kc_yX2_readDigit : Cond.code yX2_readDigit cX2_readDigit 3 (some .boolean) ∈ q_WS := q_mem 549 (by decide +kernel) (by decide +kernel)
def mX2_digitAtMost : q_Mth := (yX2_digitAtMost, cX2_digitAtMost, 3, (some .int))
theorem kc_yX2_digitAtMost : Cond.code yX2_digitAtMost cX2_digitAtMost 3 (some .int) ∈ q_WS := q_mem 553 (by decide +kernel) (by decide +kernel)
def mX2_readSet : q_Mth := (yX2_readSet, cX2_readSet, 4, (some .boolean))
theorem kc_yX2_readSet : Cond.code yX2_readSet cX2_readSet 4 (some .boolean) ∈ q_WS := q_mem 557 (by decide +kernel) (by decide +kernel)
def mX2_readNumber : q_Mth := (yX2_readNumber, cX2_readNumber, 3, (some .boolean))
theorem kc_yX2_readNumber : Cond.code yX2_readNumber cX2_readNumber 3 (some .boolean) ∈ q_WS := q_mem 561 (by decide +kernel) (by decide +kernel)
def mX2_readLast : q_Mth := (yX2_readLast, cX2_readLast, 3, (some .boolean))
theorem kc_yX2_readLast : Cond.code yX2_readLast cX2_readLast 3 (some .boolean) ∈ q_WS := q_mem 565 (by decide +kernel) (by decide +kernel)
def mX2_isAtEnd : q_Mth := (yX2_isAtEnd, cX2_isAtEnd, 1, (some .boolean))
theorem kc_yX2_isAtEnd : Cond.code yX2_isAtEnd cX2_isAtEnd 1 (some .boolean) ∈ q_WS := q_mem 569 (by decide +kernel) (by decide +kernel)
def mX6_carryOut : q_Mth := (yX6_carryOut, cX6_carryOut, 2, (some .int))
theorem kc_yX6_carryOut : Cond.code yX6_carryOut cX6_carryOut 2 (some .int) ∈ q_WS := q_mem 574 (by decide +kernel) (by decide +kernel)
def mX6_carryOrder : q_Mth := (yX6_carryOrder, cX6_carryOrder, 1, (some .int))
theorem kc_yX6_carryOrder : Cond.code yX6_carryOrder cX6_carryOrder 1 (some .int) ∈ q_WS := q_mem 579 (by decide +kernel) (by decide +kernel)
def mX6_undo : q_Mth := (yX6_undo, cX6_undo, 1, (some .int))
theorem kc_yX6_undo : Cond.code yX6_undo cX6_undo 1 (some .int) ∈ q_WS := q_mem 583 (by decide +kernel) (by decide +kernel)
def mX4_takeBack : q_Mth := (yX4_takeBack, cX4_takeBack, 3, none)
theorem kc_yX4_takeBack : Cond.code yX4_takeBack cX4_takeBack 3 none ∈ q_WS := q_mem 587 (by decide +kernel) (by decide +kernel)
def mX6_save : q_Mth := (yX6_save, cX6_save, 3, (some .int))
theorem kc_yX6_save : Cond.code yX6_save cX6_save 3 (some .int) ∈ q_WS := q_mem 591 (by decide +kernel) (by decide +kernel)
def mX6_restore : q_Mth := (yX6_restore, cX6_restore, 3, (some .int))
theorem kc_yX6_restore : Cond.code yX6_restore cX6_restore 3 (some .int) ∈ q_WS := q_mem 595 (by decide +kernel) (by decide +kernel)
def mX7_init : q_Mth := (yX7_init, cX7_init, 2, none)
theorem kc_yX7_init : Cond.code yX7_init cX7_init 2 none ∈ q_WS := q_mem 600 (by decide +kernel) (by decide +kernel)
def mX7_thing : q_Mth := (yX7_thing, cX7_thing, 6, (some .int))
theorem kc_yX7_thing : Cond.code yX7_thing cX7_thing 6 (some .int) ∈ q_WS := q_mem 647 (by decide +kernel) (by decide +kernel)
def mX7_refusesThing : q_Mth := (yX7_refusesThing, cX7_refusesThing, 5, (some .int))
theorem kc_yX7_refusesThing : Cond.code yX7_refusesThing cX7_refusesThing 5 (some .int) ∈ q_WS := q_mem 651 (by decide +kernel) (by decide +kernel)
def mX7_in : q_Mth := (yX7_in, cX7_in, 3, (some .boolean))
theorem kc_yX7_in : Cond.code yX7_in cX7_in 3 (some .boolean) ∈ q_WS := q_mem 654 (by decide +kernel) (by decide +kernel)
def mX7_partsOf : q_Mth := (yX7_partsOf, cX7_partsOf, 1, (some .int))
theorem kc_yX7_partsOf : Cond.code yX7_partsOf cX7_partsOf 1 (some .int) ∈ q_WS := q_mem 657 (by decide +kernel) (by decide +kernel)
def mX7_records : q_Mth := (yX7_records, cX7_records, 2, none)
theorem kc_yX7_records : Cond.code yX7_records cX7_records 2 none ∈ q_WS := q_mem 661 (by decide +kernel) (by decide +kernel)
def mX7_comes : q_Mth := (yX7_comes, cX7_comes, 6, (some .int))
theorem kc_yX7_comes : Cond.code yX7_comes cX7_comes 6 (some .int) ∈ q_WS := q_mem 665 (by decide +kernel) (by decide +kernel)
def mX7_lay : q_Mth := (yX7_lay, cX7_lay, 4, none)
theorem kc_yX7_lay : Cond.code yX7_lay cX7_lay 4 none ∈ q_WS := q_mem 669 (by decide +kernel) (by decide +kernel)
def mX7_fixer : q_Mth := (yX7_fixer, cX7_fixer, 4, (some .int))
theorem kc_yX7_fixer : Cond.code yX7_fixer cX7_fixer 4 (some .int) ∈ q_WS := q_mem 673 (by decide +kernel) (by decide +kernel)
def mX7_refusesFixer : q_Mth := (yX7_refusesFixer, cX7_refusesFixer, 3, (some .int))
theorem kc_yX7_refusesFixer : Cond.code yX7_refusesFixer cX7_refusesFixer 3 (some .int) ∈ q_WS := q_mem 677 (by decide +kernel) (by decide +kernel)
def mX7_comesFixer : q_Mth := (yX7_comesFixer, cX7_comesFixer, 5, (some .int))
theorem kc_yX7_comesFixer : Cond.code yX7_comesFixer cX7_comesFixer 5 (some .int) ∈ q_WS := q_mem 681 (by decide +kernel) (by decide +kernel)
def mX7_drawer : q_Mth := (yX7_drawer, cX7_drawer, 5, (some .int))
theorem kc_yX7_drawer : Cond.code yX7_drawer cX7_drawer 5 (some .int) ∈ q_WS := q_mem 685 (by decide +kernel) (by decide +kernel)
def mX7_refusesDrawer : q_Mth := (yX7_refusesDrawer, cX7_refusesDrawer, 2, (some .int))
theorem kc_yX7_refusesDrawer : Cond.code yX7_refusesDrawer cX7_refusesDrawer 2 (some .int) ∈ q_WS := q_mem 688 (by decide +kernel) (by decide +kernel)
def mX7_giveUp : q_Mth := (yX7_giveUp, cX7_giveUp, 2, (some .int))
theorem kc_yX7_giveUp : Cond.code yX7_giveUp cX7_giveUp 2 (some .int) ∈ q_WS := q_mem 692 (by decide +kernel) (by decide +kernel)
def mX7_isThing : q_Mth := (yX7_isThing, cX7_isThing, 2, (some .boolean))
theorem kc_yX7_isThing : Cond.code yX7_isThing cX7_isThing 2 (some .boolean) ∈ q_WS := q_mem 696 (by decide +kernel) (by decide +kernel)
def mX7_of : q_Mth := (yX7_of, cX7_of, 3, (some .int))
theorem kc_yX7_of : Cond.code yX7_of cX7_of 3 (some .int) ∈ q_WS := q_mem 700 (by decide +kernel) (by decide +kernel)
def mX7_strips : q_Mth := (yX7_strips, cX7_strips, 6, (some .int))
theorem kc_yX7_strips : Cond.code yX7_strips cX7_strips 6 (some .int) ∈ q_WS := q_mem 704 (by decide +kernel) (by decide +kernel)
def mX7_pass : q_Mth := (yX7_pass, cX7_pass, 3, (some .int))
theorem kc_yX7_pass : Cond.code yX7_pass cX7_pass 3 (some .int) ∈ q_WS := q_mem 708 (by decide +kernel) (by decide +kernel)
def mX7_refusesPass : q_Mth := (yX7_refusesPass, cX7_refusesPass, 2, (some .int))
theorem kc_yX7_refusesPass : Cond.code yX7_refusesPass cX7_refusesPass 2 (some .int) ∈ q_WS := q_mem 712 (by decide +kernel) (by decide +kernel)
def mX7_minutes : q_Mth := (yX7_minutes, cX7_minutes, 4, (some .int))
theorem kc_yX7_minutes : Cond.code yX7_minutes cX7_minutes 4 (some .int) ∈ q_WS := q_mem 716 (by decide +kernel) (by decide +kernel)
def mX7_withHow : q_Mth := (yX7_withHow, cX7_withHow, 4, (some .int))
theorem kc_yX7_withHow : Cond.code yX7_withHow cX7_withHow 4 (some .int) ∈ q_WS := q_mem 720 (by decide +kernel) (by decide +kernel)
def mX7_minute : q_Mth := (yX7_minute, cX7_minute, 2, none)
theorem kc_yX7_minute : Cond.code yX7_minute cX7_minute 2 none ∈ q_WS := q_mem 724 (by decide +kernel) (by decide +kernel)
def mX7_fixer0 : q_Mth := (yX7_fixer0, cX7_fixer0, 3, (some .int))
theorem kc_yX7_fixer0 : Cond.code yX7_fixer0 cX7_fixer0 3 (some .int) ∈ q_WS := q_mem 728 (by decide +kernel) (by decide +kernel)
def mX7_takes : q_Mth := (yX7_takes, cX7_takes, 3, none)
theorem kc_yX7_takes : Cond.code yX7_takes cX7_takes 3 none ∈ q_WS := q_mem 732 (by decide +kernel) (by decide +kernel)
def mX7_nextFor : q_Mth := (yX7_nextFor, cX7_nextFor, 5, (some .int))
theorem kc_yX7_nextFor : Cond.code yX7_nextFor cX7_nextFor 5 (some .int) ∈ q_WS := q_mem 736 (by decide +kernel) (by decide +kernel)
def mX7_works : q_Mth := (yX7_works, cX7_works, 4, none)
theorem kc_yX7_works : Cond.code yX7_works cX7_works 4 none ∈ q_WS := q_mem 740 (by decide +kernel) (by decide +kernel)
def mX7_more : q_Mth := (yX7_more, cX7_more, 3, none)
theorem kc_yX7_more : Cond.code yX7_more cX7_more 3 none ∈ q_WS := q_mem 744 (by decide +kernel) (by decide +kernel)
def mX7_exchanges : q_Mth := (yX7_exchanges, cX7_exchanges, 3, (some .boolean))
theorem kc_yX7_exchanges : Cond.code yX7_exchanges cX7_exchanges 3 (some .boolean) ∈ q_WS := q_mem 748 (by decide +kernel) (by decide +kernel)
def mX7_lowest : q_Mth := (yX7_lowest, cX7_lowest, 2, (some .int))
theorem kc_yX7_lowest : Cond.code yX7_lowest cX7_lowest 2 (some .int) ∈ q_WS := q_mem 751 (by decide +kernel) (by decide +kernel)
def mX7_tests : q_Mth := (yX7_tests, cX7_tests, 4, (some .boolean))
theorem kc_yX7_tests : Cond.code yX7_tests cX7_tests 4 (some .boolean) ∈ q_WS := q_mem 755 (by decide +kernel) (by decide +kernel)
def mX7_givesUp : q_Mth := (yX7_givesUp, cX7_givesUp, 3, none)
theorem kc_yX7_givesUp : Cond.code yX7_givesUp cX7_givesUp 3 none ∈ q_WS := q_mem 759 (by decide +kernel) (by decide +kernel)
def mX7_frees : q_Mth := (yX7_frees, cX7_frees, 2, none)
theorem kc_yX7_frees : Cond.code yX7_frees cX7_frees 2 none ∈ q_WS := q_mem 763 (by decide +kernel) (by decide +kernel)
def mX7_ofThing : q_Mth := (yX7_ofThing, cX7_ofThing, 3, (some .int))
theorem kc_yX7_ofThing : Cond.code yX7_ofThing cX7_ofThing 3 (some .int) ∈ q_WS := q_mem 767 (by decide +kernel) (by decide +kernel)
def mX7_fixerOf : q_Mth := (yX7_fixerOf, cX7_fixerOf, 3, (some .int))
theorem kc_yX7_fixerOf : Cond.code yX7_fixerOf cX7_fixerOf 3 (some .int) ∈ q_WS := q_mem 771 (by decide +kernel) (by decide +kernel)
def mX7_placeOf : q_Mth := (yX7_placeOf, cX7_placeOf, 5, (some .int))
theorem kc_yX7_placeOf : Cond.code yX7_placeOf cX7_placeOf 5 (some .int) ∈ q_WS := q_mem 775 (by decide +kernel) (by decide +kernel)
def mX7_ofFixer : q_Mth := (yX7_ofFixer, cX7_ofFixer, 3, (some .int))
theorem kc_yX7_ofFixer : Cond.code yX7_ofFixer cX7_ofFixer 3 (some .int) ∈ q_WS := q_mem 779 (by decide +kernel) (by decide +kernel)
def mX7_ofPart : q_Mth := (yX7_ofPart, cX7_ofPart, 3, (some .int))
theorem kc_yX7_ofPart : Cond.code yX7_ofPart cX7_ofPart 3 (some .int) ∈ q_WS := q_mem 783 (by decide +kernel) (by decide +kernel)
def mX7_brokenOnes : q_Mth := (yX7_brokenOnes, cX7_brokenOnes, 4, (some .int))
theorem kc_yX7_brokenOnes : Cond.code yX7_brokenOnes cX7_brokenOnes 4 (some .int) ∈ q_WS := q_mem 787 (by decide +kernel) (by decide +kernel)
def mX7_count : q_Mth := (yX7_count, cX7_count, 2, (some .int))
theorem kc_yX7_count : Cond.code yX7_count cX7_count 2 (some .int) ∈ q_WS := q_mem 791 (by decide +kernel) (by decide +kernel)
def mX7_scarcest : q_Mth := (yX7_scarcest, cX7_scarcest, 5, (some .int))
theorem kc_yX7_scarcest : Cond.code yX7_scarcest cX7_scarcest 5 (some .int) ∈ q_WS := q_mem 795 (by decide +kernel) (by decide +kernel)
def mX7_doneIn : q_Mth := (yX7_doneIn, cX7_doneIn, 3, (some .int))
theorem kc_yX7_doneIn : Cond.code yX7_doneIn cX7_doneIn 3 (some .int) ∈ q_WS := q_mem 799 (by decide +kernel) (by decide +kernel)
def mX7_putAside : q_Mth := (yX7_putAside, cX7_putAside, 2, none)
theorem kc_yX7_putAside : Cond.code yX7_putAside cX7_putAside 2 none ∈ q_WS := q_mem 803 (by decide +kernel) (by decide +kernel)
def mX7_takeBack : q_Mth := (yX7_takeBack, cX7_takeBack, 2, none)
theorem kc_yX7_takeBack : Cond.code yX7_takeBack cX7_takeBack 2 none ∈ q_WS := q_mem 807 (by decide +kernel) (by decide +kernel)
def mX7_withFixer : q_Mth := (yX7_withFixer, cX7_withFixer, 5, (some .int))
theorem kc_yX7_withFixer : Cond.code yX7_withFixer cX7_withFixer 5 (some .int) ∈ q_WS := q_mem 811 (by decide +kernel) (by decide +kernel)
def mX7_repairedWith : q_Mth := (yX7_repairedWith, cX7_repairedWith, 5, (some .int))
theorem kc_yX7_repairedWith : Cond.code yX7_repairedWith cX7_repairedWith 5 (some .int) ∈ q_WS := q_mem 815 (by decide +kernel) (by decide +kernel)
def mX7_bestCare : q_Mth := (yX7_bestCare, cX7_bestCare, 6, (some .int))
theorem kc_yX7_bestCare : Cond.code yX7_bestCare cX7_bestCare 6 (some .int) ∈ q_WS := q_mem 819 (by decide +kernel) (by decide +kernel)
def mX7_put : q_Mth := (yX7_put, cX7_put, 8, (some .int))
theorem kc_yX7_put : Cond.code yX7_put cX7_put 8 (some .int) ∈ q_WS := q_mem 823 (by decide +kernel) (by decide +kernel)
def mX7_wipe : q_Mth := (yX7_wipe, cX7_wipe, 2, (some .int))
theorem kc_yX7_wipe : Cond.code yX7_wipe cX7_wipe 2 (some .int) ∈ q_WS := q_mem 828 (by decide +kernel) (by decide +kernel)
def mX7_fault : q_Mth := (yX7_fault, cX7_fault, 1, (some .int))
theorem kc_yX7_fault : Cond.code yX7_fault cX7_fault 1 (some .int) ∈ q_WS := q_mem 832 (by decide +kernel) (by decide +kernel)
def mX7_reads : q_Mth := (yX7_reads, cX7_reads, 1, (some .int))
theorem kc_yX7_reads : Cond.code yX7_reads cX7_reads 1 (some .int) ∈ q_WS := q_mem 836 (by decide +kernel) (by decide +kernel)
def mX7_readsOrder : q_Mth := (yX7_readsOrder, cX7_readsOrder, 4, none)
theorem kc_yX7_readsOrder : Cond.code yX7_readsOrder cX7_readsOrder 4 none ∈ q_WS := q_mem 840 (by decide +kernel) (by decide +kernel)
def mX7_sign : q_Mth := (yX7_sign, cX7_sign, 1, (some .int))
theorem kc_yX7_sign : Cond.code yX7_sign cX7_sign 1 (some .int) ∈ q_WS := q_mem 844 (by decide +kernel) (by decide +kernel)
def mX7_digit : q_Mth := (yX7_digit, cX7_digit, 3, (some .int))
theorem kc_yX7_digit : Cond.code yX7_digit cX7_digit 3 (some .int) ∈ q_WS := q_mem 848 (by decide +kernel) (by decide +kernel)
def mX7_takesSign : q_Mth := (yX7_takesSign, cX7_takesSign, 3, (some .boolean))
theorem kc_yX7_takesSign : Cond.code yX7_takesSign cX7_takesSign 3 (some .boolean) ∈ q_WS := q_mem 852 (by decide +kernel) (by decide +kernel)
def mX7_digits : q_Mth := (yX7_digits, cX7_digits, 3, (some .int))
theorem kc_yX7_digits : Cond.code yX7_digits cX7_digits 3 (some .int) ∈ q_WS := q_mem 856 (by decide +kernel) (by decide +kernel)
def mX7_number : q_Mth := (yX7_number, cX7_number, 2, (some .int))
theorem kc_yX7_number : Cond.code yX7_number cX7_number 2 (some .int) ∈ q_WS := q_mem 860 (by decide +kernel) (by decide +kernel)
def mX7_carryOut : q_Mth := (yX7_carryOut, cX7_carryOut, 2, (some .int))
theorem kc_yX7_carryOut : Cond.code yX7_carryOut cX7_carryOut 2 (some .int) ∈ q_WS := q_mem 864 (by decide +kernel) (by decide +kernel)
def mX7_refuses : q_Mth := (yX7_refuses, cX7_refuses, 2, (some .int))
theorem kc_yX7_refuses : Cond.code yX7_refuses cX7_refuses 2 (some .int) ∈ q_WS := q_mem 868 (by decide +kernel) (by decide +kernel)
def mX7_does : q_Mth := (yX7_does, cX7_does, 2, none)
theorem kc_yX7_does : Cond.code yX7_does cX7_does 2 none ∈ q_WS := q_mem 872 (by decide +kernel) (by decide +kernel)
def mX7_undo : q_Mth := (yX7_undo, cX7_undo, 2, (some .int))
theorem kc_yX7_undo : Cond.code yX7_undo cX7_undo 2 (some .int) ∈ q_WS := q_mem 876 (by decide +kernel) (by decide +kernel)
def mX7_save : q_Mth := (yX7_save, cX7_save, 3, (some .int))
theorem kc_yX7_save : Cond.code yX7_save cX7_save 3 (some .int) ∈ q_WS := q_mem 880 (by decide +kernel) (by decide +kernel)
def mX7_restore : q_Mth := (yX7_restore, cX7_restore, 3, (some .int))
theorem kc_yX7_restore : Cond.code yX7_restore cX7_restore 3 (some .int) ∈ q_WS := q_mem 884 (by decide +kernel) (by decide +kernel)
theorem kv_yX0_init : q_Vm mX0_init 0 := ⟨kc_yX0_init, k0_X0, ⟨by decide +kernel, by decide +kernel, by decide +kernel⟩, by decide⟩
theorem kv_yX0_thingAt : q_Vm mX0_thingAt 1 := ⟨kc_yX0_thingAt, k0_X0, ⟨by decide +kernel, by decide +kernel, by decide +kernel⟩, by decide⟩
theorem kv_yX0_fixerAt : q_Vm mX0_fixerAt 1 := ⟨kc_yX0_fixerAt, k0_X0, ⟨by decide +kernel, by decide +kernel, by decide +kernel⟩, by decide⟩
theorem kv_yX0_partAt : q_Vm mX0_partAt 1 := ⟨kc_yX0_partAt, k0_X0, ⟨by decide +kernel, by decide +kernel, by decide +kernel⟩, by decide⟩
theorem kv_yX0_copyFrom : q_Vm mX0_copyFrom 1 := ⟨kc_yX0_copyFrom, k0_X0, ⟨by decide +kernel, by decide +kernel, by decide +kernel⟩, by decide⟩
theorem kv_yX0_addThing : q_Vm mX0_addThing 4 := ⟨kc_yX0_addThing, k0_X0, ⟨by decide +kernel, by decide +kernel, by decide +kernel⟩, by decide⟩
theorem kv_yX0_addFixer : q_Vm mX0_addFixer 2 := ⟨kc_yX0_addFixer, k0_X0, ⟨by decide +kernel, by decide +kernel, by decide +kernel⟩, by decide⟩
theorem kv_yX0_fillDrawer : q_Vm mX0_fillDrawer 2 := ⟨kc_yX0_fillDrawer, k0_X0, ⟨by decide +kernel, by decide +kernel, by decide +kernel⟩, by decide⟩
theorem kv_yX0_giveWaitingUp : q_Vm mX0_giveWaitingUp 1 := ⟨kc_yX0_giveWaitingUp, k0_X0, ⟨by decide +kernel, by decide +kernel, by decide +kernel⟩, by decide⟩
theorem kv_yX0_letPass : q_Vm mX0_letPass 1 := ⟨kc_yX0_letPass, k0_X0, ⟨by decide +kernel, by decide +kernel, by decide +kernel⟩, by decide⟩
theorem kv_yX0_passMinutes : q_Vm mX0_passMinutes 1 := ⟨kc_yX0_passMinutes, k0_X0, ⟨by decide +kernel, by decide +kernel, by decide +kernel⟩, by decide⟩
theorem kv_yX0_passMinute : q_Vm mX0_passMinute 0 := ⟨kc_yX0_passMinute, k0_X0, ⟨by decide +kernel, by decide +kernel, by decide +kernel⟩, by decide⟩
theorem kv_yX0_takeThing : q_Vm mX0_takeThing 1 := ⟨kc_yX0_takeThing, k0_X0, ⟨by decide +kernel, by decide +kernel, by decide +kernel⟩, by decide⟩
theorem kv_yX0_workOf : q_Vm mX0_workOf 1 := ⟨kc_yX0_workOf, k0_X0, ⟨by decide +kernel, by decide +kernel, by decide +kernel⟩, by decide⟩
theorem kv_yX0_exchangeLowest : q_Vm mX0_exchangeLowest 1 := ⟨kc_yX0_exchangeLowest, k0_X0, ⟨by decide +kernel, by decide +kernel, by decide +kernel⟩, by decide⟩
theorem kv_yX0_strip : q_Vm mX0_strip 1 := ⟨kc_yX0_strip, k0_X0, ⟨by decide +kernel, by decide +kernel, by decide +kernel⟩, by decide⟩
theorem kv_yX0_losePatience : q_Vm mX0_losePatience 0 := ⟨kc_yX0_losePatience, k0_X0, ⟨by decide +kernel, by decide +kernel, by decide +kernel⟩, by decide⟩
theorem kv_yX0_hasThingHere : q_Vm mX0_hasThingHere 0 := ⟨kc_yX0_hasThingHere, k0_X0, ⟨by decide +kernel, by decide +kernel, by decide +kernel⟩, by decide⟩
theorem kv_yX0_nextOf : q_Vm mX0_nextOf 1 := ⟨kc_yX0_nextOf, k0_X0, ⟨by decide +kernel, by decide +kernel, by decide +kernel⟩, by decide⟩
theorem kv_yX0_placeOf : q_Vm mX0_placeOf 1 := ⟨kc_yX0_placeOf, k0_X0, ⟨by decide +kernel, by decide +kernel, by decide +kernel⟩, by decide⟩
theorem kv_yX0_thingsThatAre : q_Vm mX0_thingsThatAre 1 := ⟨kc_yX0_thingsThatAre, k0_X0, ⟨by decide +kernel, by decide +kernel, by decide +kernel⟩, by decide⟩
theorem kv_yX0_brokenOnes : q_Vm mX0_brokenOnes 1 := ⟨kc_yX0_brokenOnes, k0_X0, ⟨by decide +kernel, by decide +kernel, by decide +kernel⟩, by decide⟩
theorem kv_yX0_missingOnes : q_Vm mX0_missingOnes 1 := ⟨kc_yX0_missingOnes, k0_X0, ⟨by decide +kernel, by decide +kernel, by decide +kernel⟩, by decide⟩
theorem kv_yX1_init : q_Vm mX1_init 0 := ⟨kc_yX1_init, k0_X1, ⟨by decide +kernel, by decide +kernel, by decide +kernel⟩, by decide⟩
theorem kv_yX1_come : q_Vm mX1_come 2 := ⟨kc_yX1_come, k0_X1, ⟨by decide +kernel, by decide +kernel, by decide +kernel⟩, by decide⟩
theorem kv_yX1_copyFrom : q_Vm mX1_copyFrom 1 := ⟨kc_yX1_copyFrom, k0_X1, ⟨by decide +kernel, by decide +kernel, by decide +kernel⟩, by decide⟩
theorem kv_yX2_init : q_Vm mX2_init 0 := ⟨kc_yX2_init, k0_X2, ⟨by decide +kernel, by decide +kernel, by decide +kernel⟩, by decide⟩
theorem kv_yX2_append : q_Vm mX2_append 1 := ⟨kc_yX2_append, k0_X2, ⟨by decide +kernel, by decide +kernel, by decide +kernel⟩, by decide⟩
theorem kv_yX2_sign : q_Vm mX2_sign 0 := ⟨kc_yX2_sign, k0_X2, ⟨by decide +kernel, by decide +kernel, by decide +kernel⟩, by decide⟩
theorem kv_yX2_begin : q_Vm mX2_begin 0 := ⟨kc_yX2_begin, k0_X2, ⟨by decide +kernel, by decide +kernel, by decide +kernel⟩, by decide⟩
theorem kv_yX2_isAtEnd : q_Vm mX2_isAtEnd 0 := ⟨kc_yX2_isAtEnd, k0_X2, ⟨by decide +kernel, by decide +kernel, by decide +kernel⟩, by decide⟩
theorem kv_yX2_readOrder : q_Vm mX2_readOrder 0 := ⟨kc_yX2_readOrder, k0_X2, ⟨by decide +kernel, by decide +kernel, by decide +kernel⟩, by decide⟩
theorem kv_yX2_readSign : q_Vm mX2_readSign 1 := ⟨kc_yX2_readSign, k0_X2, ⟨by decide +kernel, by decide +kernel, by decide +kernel⟩, by decide⟩
theorem kv_yX2_readThing : q_Vm mX2_readThing 0 := ⟨kc_yX2_readThing, k0_X2, ⟨by decide +kernel, by decide +kernel, by decide +kernel⟩, by decide⟩
theorem kv_yX2_readDigit : q_Vm mX2_readDigit 1 := ⟨kc_yX2_readDigit, k0_X2, ⟨by decide +kernel, by decide +kernel, by decide +kernel⟩, by decide⟩
theorem kv_yX2_readLast : q_Vm mX2_readLast 1 := ⟨kc_yX2_readLast, k0_X2, ⟨by decide +kernel, by decide +kernel, by decide +kernel⟩, by decide⟩
theorem kv_yX2_readSet : q_Vm mX2_readSet 1 := ⟨kc_yX2_readSet, k0_X2, ⟨by decide +kernel, by decide +kernel, by decide +kernel⟩, by decide⟩
theorem kv_yX2_readNumber : q_Vm mX2_readNumber 0 := ⟨kc_yX2_readNumber, k0_X2, ⟨by decide +kernel, by decide +kernel, by decide +kernel⟩, by decide⟩
theorem kv_yX2_digitAtMost : q_Vm mX2_digitAtMost 1 := ⟨kc_yX2_digitAtMost, k0_X2, ⟨by decide +kernel, by decide +kernel, by decide +kernel⟩, by decide⟩
theorem kv_yX3_init : q_Vm mX3_init 0 := ⟨kc_yX3_init, k0_X3, ⟨by decide +kernel, by decide +kernel, by decide +kernel⟩, by decide⟩
theorem kv_yX3_copyFrom : q_Vm mX3_copyFrom 1 := ⟨kc_yX3_copyFrom, k0_X3, ⟨by decide +kernel, by decide +kernel, by decide +kernel⟩, by decide⟩
theorem kv_yX3_takeIn : q_Vm mX3_takeIn 0 := ⟨kc_yX3_takeIn, k0_X3, ⟨by decide +kernel, by decide +kernel, by decide +kernel⟩, by decide⟩
theorem kv_yX3_handOut : q_Vm mX3_handOut 0 := ⟨kc_yX3_handOut, k0_X3, ⟨by decide +kernel, by decide +kernel, by decide +kernel⟩, by decide⟩
theorem kv_yX4_init : q_Vm mX4_init 0 := ⟨kc_yX4_init, k0_X4, ⟨by decide +kernel, by decide +kernel, by decide +kernel⟩, by decide⟩
theorem kv_yX4_note : q_Vm mX4_note 1 := ⟨kc_yX4_note, k0_X4, ⟨by decide +kernel, by decide +kernel, by decide +kernel⟩, by decide⟩
theorem kv_yX4_keep : q_Vm mX4_keep 0 := ⟨kc_yX4_keep, k0_X4, ⟨by decide +kernel, by decide +kernel, by decide +kernel⟩, by decide⟩
theorem kv_yX4_takeBack : q_Vm mX4_takeBack 1 := ⟨kc_yX4_takeBack, k0_X4, ⟨by decide +kernel, by decide +kernel, by decide +kernel⟩, by decide⟩
theorem kv_yX4_nextPlace : q_Vm mX4_nextPlace 0 := ⟨kc_yX4_nextPlace, k0_X4, ⟨by decide +kernel, by decide +kernel, by decide +kernel⟩, by decide⟩
theorem kv_yX5_init : q_Vm mX5_init 0 := ⟨kc_yX5_init, k0_X5, ⟨by decide +kernel, by decide +kernel, by decide +kernel⟩, by decide⟩
theorem kv_yX5_come : q_Vm mX5_come 4 := ⟨kc_yX5_come, k0_X5, ⟨by decide +kernel, by decide +kernel, by decide +kernel⟩, by decide⟩
theorem kv_yX5_copyFrom : q_Vm mX5_copyFrom 1 := ⟨kc_yX5_copyFrom, k0_X5, ⟨by decide +kernel, by decide +kernel, by decide +kernel⟩, by decide⟩
theorem kv_yX5_isHere : q_Vm mX5_isHere 0 := ⟨kc_yX5_isHere, k0_X5, ⟨by decide +kernel, by decide +kernel, by decide +kernel⟩, by decide⟩
theorem kv_yX5_end : q_Vm mX5_end 1 := ⟨kc_yX5_end, k0_X5, ⟨by decide +kernel, by decide +kernel, by decide +kernel⟩, by decide⟩
theorem kv_yX5_tryTest : q_Vm mX5_tryTest 2 := ⟨kc_yX5_tryTest, k0_X5, ⟨by decide +kernel, by decide +kernel, by decide +kernel⟩, by decide⟩
theorem kv_yX6_init : q_Vm mX6_init 0 := ⟨kc_yX6_init, k0_X6, ⟨by decide +kernel, by decide +kernel, by decide +kernel⟩, by decide⟩
theorem kv_yX6_thing : q_Vm mX6_thing 4 := ⟨kc_yX6_thing, k0_X6, ⟨by decide +kernel, by decide +kernel, by decide +kernel⟩, by decide⟩
theorem kv_yX6_fixer : q_Vm mX6_fixer 2 := ⟨kc_yX6_fixer, k0_X6, ⟨by decide +kernel, by decide +kernel, by decide +kernel⟩, by decide⟩
theorem kv_yX6_drawer : q_Vm mX6_drawer 2 := ⟨kc_yX6_drawer, k0_X6, ⟨by decide +kernel, by decide +kernel, by decide +kernel⟩, by decide⟩
theorem kv_yX6_giveUp : q_Vm mX6_giveUp 1 := ⟨kc_yX6_giveUp, k0_X6, ⟨by decide +kernel, by decide +kernel, by decide +kernel⟩, by decide⟩
theorem kv_yX6_pass : q_Vm mX6_pass 1 := ⟨kc_yX6_pass, k0_X6, ⟨by decide +kernel, by decide +kernel, by decide +kernel⟩, by decide⟩
theorem kv_yX6_ofThing : q_Vm mX6_ofThing 2 := ⟨kc_yX6_ofThing, k0_X6, ⟨by decide +kernel, by decide +kernel, by decide +kernel⟩, by decide⟩
theorem kv_yX6_ofFixer : q_Vm mX6_ofFixer 2 := ⟨kc_yX6_ofFixer, k0_X6, ⟨by decide +kernel, by decide +kernel, by decide +kernel⟩, by decide⟩
theorem kv_yX6_ofPart : q_Vm mX6_ofPart 2 := ⟨kc_yX6_ofPart, k0_X6, ⟨by decide +kernel, by decide +kernel, by decide +kernel⟩, by decide⟩
theorem kv_yX6_count : q_Vm mX6_count 1 := ⟨kc_yX6_count, k0_X6, ⟨by decide +kernel, by decide +kernel, by decide +kernel⟩, by decide⟩
theorem kv_yX6_scarcest : q_Vm mX6_scarcest 0 := ⟨kc_yX6_scarcest, k0_X6, ⟨by decide +kernel, by decide +kernel, by decide +kernel⟩, by decide⟩
theorem kv_yX6_doneIn : q_Vm mX6_doneIn 1 := ⟨kc_yX6_doneIn, k0_X6, ⟨by decide +kernel, by decide +kernel, by decide +kernel⟩, by decide⟩
theorem kv_yX6_withFixer : q_Vm mX6_withFixer 3 := ⟨kc_yX6_withFixer, k0_X6, ⟨by decide +kernel, by decide +kernel, by decide +kernel⟩, by decide⟩
theorem kv_yX6_bestCare : q_Vm mX6_bestCare 1 := ⟨kc_yX6_bestCare, k0_X6, ⟨by decide +kernel, by decide +kernel, by decide +kernel⟩, by decide⟩
theorem kv_yX6_put : q_Vm mX6_put 1 := ⟨kc_yX6_put, k0_X6, ⟨by decide +kernel, by decide +kernel, by decide +kernel⟩, by decide⟩
theorem kv_yX6_wipe : q_Vm mX6_wipe 0 := ⟨kc_yX6_wipe, k0_X6, ⟨by decide +kernel, by decide +kernel, by decide +kernel⟩, by decide⟩
theorem kv_yX6_fault : q_Vm mX6_fault 0 := ⟨kc_yX6_fault, k0_X6, ⟨by decide +kernel, by decide +kernel, by decide +kernel⟩, by decide⟩
theorem kv_yX6_carryOut : q_Vm mX6_carryOut 0 := ⟨kc_yX6_carryOut, k0_X6, ⟨by decide +kernel, by decide +kernel, by decide +kernel⟩, by decide⟩
theorem kv_yX6_undo : q_Vm mX6_undo 0 := ⟨kc_yX6_undo, k0_X6, ⟨by decide +kernel, by decide +kernel, by decide +kernel⟩, by decide⟩
theorem kv_yX6_save : q_Vm mX6_save 1 := ⟨kc_yX6_save, k0_X6, ⟨by decide +kernel, by decide +kernel, by decide +kernel⟩, by decide⟩
theorem kv_yX6_restore : q_Vm mX6_restore 1 := ⟨kc_yX6_restore, k0_X6, ⟨by decide +kernel, by decide +kernel, by decide +kernel⟩, by decide⟩
theorem kv_yX6_kept : q_Vm mX6_kept 1 := ⟨kc_yX6_kept, k0_X6, ⟨by decide +kernel, by decide +kernel, by decide +kernel⟩, by decide⟩
theorem kv_yX6_repairedWith : q_Vm mX6_repairedWith 3 := ⟨kc_yX6_repairedWith, k0_X6, ⟨by decide +kernel, by decide +kernel, by decide +kernel⟩, by decide⟩
theorem kv_yX6_carryOrder : q_Vm mX6_carryOrder 0 := ⟨kc_yX6_carryOrder, k0_X6, ⟨by decide +kernel, by decide +kernel, by decide +kernel⟩, by decide⟩
theorem kv_yX6_signsIn : q_Vm mX6_signsIn 1 := ⟨kc_yX6_signsIn, k0_X6, ⟨by decide +kernel, by decide +kernel, by decide +kernel⟩, by decide⟩
theorem kv_yX6_isFixer : q_Vm mX6_isFixer 2 := ⟨kc_yX6_isFixer, k0_X6, ⟨by decide +kernel, by decide +kernel, by decide +kernel⟩, by decide⟩
theorem kv_yX6_isWhatIf : q_Vm mX6_isWhatIf 1 := ⟨kc_yX6_isWhatIf, k0_X6, ⟨by decide +kernel, by decide +kernel, by decide +kernel⟩, by decide⟩
theorem kv_yX6_isIn : q_Vm mX6_isIn 2 := ⟨kc_yX6_isIn, k0_X6, ⟨by decide +kernel, by decide +kernel, by decide +kernel⟩, by decide⟩
theorem kv_yX6_partsOf : q_Vm mX6_partsOf 1 := ⟨kc_yX6_partsOf, k0_X6, ⟨by decide +kernel, by decide +kernel, by decide +kernel⟩, by decide⟩
theorem kv_yX7_init : q_Vm mX7_init 0 := ⟨kc_yX7_init, k0_X7, ⟨by decide +kernel, by decide +kernel, by decide +kernel⟩, by decide⟩
theorem kv_yX7_in : q_Vm mX7_in 3 := ⟨kc_yX7_in, k0_X7, ⟨by decide +kernel, by decide +kernel, by decide +kernel⟩, by decide⟩
theorem kv_yX7_of : q_Vm mX7_of 2 := ⟨kc_yX7_of, k0_X7, ⟨by decide +kernel, by decide +kernel, by decide +kernel⟩, by decide⟩
theorem kv_yX7_lay : q_Vm mX7_lay 3 := ⟨kc_yX7_lay, k0_X7, ⟨by decide +kernel, by decide +kernel, by decide +kernel⟩, by decide⟩
theorem kv_yX7_fixer0 : q_Vm mX7_fixer0 2 := ⟨kc_yX7_fixer0, k0_X7, ⟨by decide +kernel, by decide +kernel, by decide +kernel⟩, by decide⟩
theorem kv_yX7_more : q_Vm mX7_more 2 := ⟨kc_yX7_more, k0_X7, ⟨by decide +kernel, by decide +kernel, by decide +kernel⟩, by decide⟩
theorem kv_yX7_records : q_Vm mX7_records 0 := ⟨kc_yX7_records, k0_X7, ⟨by decide +kernel, by decide +kernel, by decide +kernel⟩, by decide⟩
theorem kv_yX7_putAside : q_Vm mX7_putAside 0 := ⟨kc_yX7_putAside, k0_X7, ⟨by decide +kernel, by decide +kernel, by decide +kernel⟩, by decide⟩
theorem kv_yX7_takeBack : q_Vm mX7_takeBack 0 := ⟨kc_yX7_takeBack, k0_X7, ⟨by decide +kernel, by decide +kernel, by decide +kernel⟩, by decide⟩
theorem kv_yX7_partsOf : q_Vm mX7_partsOf 1 := ⟨kc_yX7_partsOf, k0_X7, ⟨by decide +kernel, by decide +kernel, by decide +kernel⟩, by decide⟩
theorem kv_yX7_lowest : q_Vm mX7_lowest 1 := ⟨kc_yX7_lowest, k0_X7, ⟨by decide +kernel, by decide +kernel, by decide +kernel⟩, by decide⟩
theorem kv_yX7_strips : q_Vm mX7_strips 1 := ⟨kc_yX7_strips, k0_X7, ⟨by decide +kernel, by decide +kernel, by decide +kernel⟩, by decide⟩
theorem kv_yX7_nextFor : q_Vm mX7_nextFor 1 := ⟨kc_yX7_nextFor, k0_X7, ⟨by decide +kernel, by decide +kernel, by decide +kernel⟩, by decide⟩
theorem kv_yX7_fixerOf : q_Vm mX7_fixerOf 1 := ⟨kc_yX7_fixerOf, k0_X7, ⟨by decide +kernel, by decide +kernel, by decide +kernel⟩, by decide⟩
theorem kv_yX7_frees : q_Vm mX7_frees 1 := ⟨kc_yX7_frees, k0_X7, ⟨by decide +kernel, by decide +kernel, by decide +kernel⟩, by decide⟩
theorem kv_yX7_givesUp : q_Vm mX7_givesUp 2 := ⟨kc_yX7_givesUp, k0_X7, ⟨by decide +kernel, by decide +kernel, by decide +kernel⟩, by decide⟩
theorem kv_yX7_exchanges : q_Vm mX7_exchanges 1 := ⟨kc_yX7_exchanges, k0_X7, ⟨by decide +kernel, by decide +kernel, by decide +kernel⟩, by decide⟩
theorem kv_yX7_tests : q_Vm mX7_tests 2 := ⟨kc_yX7_tests, k0_X7, ⟨by decide +kernel, by decide +kernel, by decide +kernel⟩, by decide⟩
theorem kv_yX7_works : q_Vm mX7_works 1 := ⟨kc_yX7_works, k0_X7, ⟨by decide +kernel, by decide +kernel, by decide +kernel⟩, by decide⟩
theorem kv_yX7_takes : q_Vm mX7_takes 1 := ⟨kc_yX7_takes, k0_X7, ⟨by decide +kernel, by decide +kernel, by decide +kernel⟩, by decide⟩
theorem kv_yX7_minute : q_Vm mX7_minute 0 := ⟨kc_yX7_minute, k0_X7, ⟨by decide +kernel, by decide +kernel, by decide +kernel⟩, by decide⟩
theorem kv_yX7_withHow : q_Vm mX7_withHow 1 := ⟨kc_yX7_withHow, k0_X7, ⟨by decide +kernel, by decide +kernel, by decide +kernel⟩, by decide⟩
theorem kv_yX7_minutes : q_Vm mX7_minutes 1 := ⟨kc_yX7_minutes, k0_X7, ⟨by decide +kernel, by decide +kernel, by decide +kernel⟩, by decide⟩
theorem kv_yX7_refusesThing : q_Vm mX7_refusesThing 4 := ⟨kc_yX7_refusesThing, k0_X7, ⟨by decide +kernel, by decide +kernel, by decide +kernel⟩, by decide⟩
theorem kv_yX7_comes : q_Vm mX7_comes 4 := ⟨kc_yX7_comes, k0_X7, ⟨by decide +kernel, by decide +kernel, by decide +kernel⟩, by decide⟩
theorem kv_yX7_thing : q_Vm mX7_thing 4 := ⟨kc_yX7_thing, k0_X7, ⟨by decide +kernel, by decide +kernel, by decide +kernel⟩, by decide⟩
theorem kv_yX7_refusesFixer : q_Vm mX7_refusesFixer 2 := ⟨kc_yX7_refusesFixer, k0_X7, ⟨by decide +kernel, by decide +kernel, by decide +kernel⟩, by decide⟩
theorem kv_yX7_comesFixer : q_Vm mX7_comesFixer 2 := ⟨kc_yX7_comesFixer, k0_X7, ⟨by decide +kernel, by decide +kernel, by decide +kernel⟩, by decide⟩
theorem kv_yX7_fixer : q_Vm mX7_fixer 2 := ⟨kc_yX7_fixer, k0_X7, ⟨by decide +kernel, by decide +kernel, by decide +kernel⟩, by decide⟩
theorem kv_yX7_refusesDrawer : q_Vm mX7_refusesDrawer 2 := ⟨kc_yX7_refusesDrawer, k0_X7, ⟨by decide +kernel, by decide +kernel, by decide +kernel⟩, by decide⟩
theorem kv_yX7_drawer : q_Vm mX7_drawer 2 := ⟨kc_yX7_drawer, k0_X7, ⟨by decide +kernel, by decide +kernel, by decide +kernel⟩, by decide⟩
theorem kv_yX7_isThing : q_Vm mX7_isThing 1 := ⟨kc_yX7_isThing, k0_X7, ⟨by decide +kernel, by decide +kernel, by decide +kernel⟩, by decide⟩
theorem kv_yX7_giveUp : q_Vm mX7_giveUp 1 := ⟨kc_yX7_giveUp, k0_X7, ⟨by decide +kernel, by decide +kernel, by decide +kernel⟩, by decide⟩
theorem kv_yX7_refusesPass : q_Vm mX7_refusesPass 1 := ⟨kc_yX7_refusesPass, k0_X7, ⟨by decide +kernel, by decide +kernel, by decide +kernel⟩, by decide⟩
theorem kv_yX7_pass : q_Vm mX7_pass 1 := ⟨kc_yX7_pass, k0_X7, ⟨by decide +kernel, by decide +kernel, by decide +kernel⟩, by decide⟩
theorem kv_yX7_placeOf : q_Vm mX7_placeOf 1 := ⟨kc_yX7_placeOf, k0_X7, ⟨by decide +kernel, by decide +kernel, by decide +kernel⟩, by decide⟩
theorem kv_yX7_ofThing : q_Vm mX7_ofThing 2 := ⟨kc_yX7_ofThing, k0_X7, ⟨by decide +kernel, by decide +kernel, by decide +kernel⟩, by decide⟩
theorem kv_yX7_ofFixer : q_Vm mX7_ofFixer 2 := ⟨kc_yX7_ofFixer, k0_X7, ⟨by decide +kernel, by decide +kernel, by decide +kernel⟩, by decide⟩
theorem kv_yX7_brokenOnes : q_Vm mX7_brokenOnes 1 := ⟨kc_yX7_brokenOnes, k0_X7, ⟨by decide +kernel, by decide +kernel, by decide +kernel⟩, by decide⟩
theorem kv_yX7_ofPart : q_Vm mX7_ofPart 2 := ⟨kc_yX7_ofPart, k0_X7, ⟨by decide +kernel, by decide +kernel, by decide +kernel⟩, by decide⟩
theorem kv_yX7_count : q_Vm mX7_count 1 := ⟨kc_yX7_count, k0_X7, ⟨by decide +kernel, by decide +kernel, by decide +kernel⟩, by decide⟩
theorem kv_yX7_scarcest : q_Vm mX7_scarcest 0 := ⟨kc_yX7_scarcest, k0_X7, ⟨by decide +kernel, by decide +kernel, by decide +kernel⟩, by decide⟩
theorem kv_yX7_doneIn : q_Vm mX7_doneIn 1 := ⟨kc_yX7_doneIn, k0_X7, ⟨by decide +kernel, by decide +kernel, by decide +kernel⟩, by decide⟩
theorem kv_yX7_repairedWith : q_Vm mX7_repairedWith 3 := ⟨kc_yX7_repairedWith, k0_X7, ⟨by decide +kernel, by decide +kernel, by decide +kernel⟩, by decide⟩
theorem kv_yX7_withFixer : q_Vm mX7_withFixer 3 := ⟨kc_yX7_withFixer, k0_X7, ⟨by decide +kernel, by decide +kernel, by decide +kernel⟩, by decide⟩
theorem kv_yX7_bestCare : q_Vm mX7_bestCare 1 := ⟨kc_yX7_bestCare, k0_X7, ⟨by decide +kernel, by decide +kernel, by decide +kernel⟩, by decide⟩
theorem kv_yX7_put : q_Vm mX7_put 1 := ⟨kc_yX7_put, k0_X7, ⟨by decide +kernel, by decide +kernel, by decide +kernel⟩, by decide⟩
theorem kv_yX7_wipe : q_Vm mX7_wipe 0 := ⟨kc_yX7_wipe, k0_X7, ⟨by decide +kernel, by decide +kernel, by decide +kernel⟩, by decide⟩
theorem kv_yX7_sign : q_Vm mX7_sign 0 := ⟨kc_yX7_sign, k0_X7, ⟨by decide +kernel, by decide +kernel, by decide +kernel⟩, by decide⟩
theorem kv_yX7_takesSign : q_Vm mX7_takesSign 1 := ⟨kc_yX7_takesSign, k0_X7, ⟨by decide +kernel, by decide +kernel, by decide +kernel⟩, by decide⟩
theorem kv_yX7_digit : q_Vm mX7_digit 1 := ⟨kc_yX7_digit, k0_X7, ⟨by decide +kernel, by decide +kernel, by decide +kernel⟩, by decide⟩
theorem kv_yX7_digits : q_Vm mX7_digits 1 := ⟨kc_yX7_digits, k0_X7, ⟨by decide +kernel, by decide +kernel, by decide +kernel⟩, by decide⟩
theorem kv_yX7_number : q_Vm mX7_number 0 := ⟨kc_yX7_number, k0_X7, ⟨by decide +kernel, by decide +kernel, by decide +kernel⟩, by decide⟩
theorem kv_yX7_readsOrder : q_Vm mX7_readsOrder 0 := ⟨kc_yX7_readsOrder, k0_X7, ⟨by decide +kernel, by decide +kernel, by decide +kernel⟩, by decide⟩
theorem kv_yX7_reads : q_Vm mX7_reads 0 := ⟨kc_yX7_reads, k0_X7, ⟨by decide +kernel, by decide +kernel, by decide +kernel⟩, by decide⟩
theorem kv_yX7_fault : q_Vm mX7_fault 0 := ⟨kc_yX7_fault, k0_X7, ⟨by decide +kernel, by decide +kernel, by decide +kernel⟩, by decide⟩
theorem kv_yX7_refuses : q_Vm mX7_refuses 1 := ⟨kc_yX7_refuses, k0_X7, ⟨by decide +kernel, by decide +kernel, by decide +kernel⟩, by decide⟩
theorem kv_yX7_does : q_Vm mX7_does 1 := ⟨kc_yX7_does, k0_X7, ⟨by decide +kernel, by decide +kernel, by decide +kernel⟩, by decide⟩
theorem kv_yX7_carryOut : q_Vm mX7_carryOut 0 := ⟨kc_yX7_carryOut, k0_X7, ⟨by decide +kernel, by decide +kernel, by decide +kernel⟩, by decide⟩
theorem kv_yX7_undo : q_Vm mX7_undo 0 := ⟨kc_yX7_undo, k0_X7, ⟨by decide +kernel, by decide +kernel, by decide +kernel⟩, by decide⟩
theorem kv_yX7_save : q_Vm mX7_save 1 := ⟨kc_yX7_save, k0_X7, ⟨by decide +kernel, by decide +kernel, by decide +kernel⟩, by decide⟩
theorem kv_yX7_restore : q_Vm mX7_restore 1 := ⟨kc_yX7_restore, k0_X7, ⟨by decide +kernel, by decide +kernel, by decide +kernel⟩, by decide⟩
theorem kw_X0 : ∀ w ∈ u_ws RX0 TX0 6, w ∈ q_WS := by
  intro w hw
  obtain ⟨k, hk, rfl⟩ := List.mem_map.mp hw
  have hk := List.mem_range.mp hk
  rcases (show k = 0 ∨ k = 1 ∨ k = 2 ∨ k = 3 ∨ k = 4 ∨ k = 5 by omega) with rfl | rfl | rfl | rfl | rfl | rfl
  · exact q_mem 193 (by decide +kernel) (by decide +kernel)
  · exact q_mem 195 (by decide +kernel) (by decide +kernel)
  · exact q_mem 197 (by decide +kernel) (by decide +kernel)
  · exact q_mem 199 (by decide +kernel) (by decide +kernel)
  · exact q_mem 201 (by decide +kernel) (by decide +kernel)
  · exact q_mem 203 (by decide +kernel) (by decide +kernel)
theorem kC_X0 : q_Cl 0 RX0 TX0 6 := ⟨rfl, kw_X0, tyX0_ok, nmX0, rfl⟩
theorem kw_X1 : ∀ w ∈ u_ws RX1 TX1 6, w ∈ q_WS := by
  intro w hw
  obtain ⟨k, hk, rfl⟩ := List.mem_map.mp hw
  have hk := List.mem_range.mp hk
  rcases (show k = 0 ∨ k = 1 ∨ k = 2 ∨ k = 3 ∨ k = 4 ∨ k = 5 by omega) with rfl | rfl | rfl | rfl | rfl | rfl
  · exact q_mem 152 (by decide +kernel) (by decide +kernel)
  · exact q_mem 154 (by decide +kernel) (by decide +kernel)
  · exact q_mem 156 (by decide +kernel) (by decide +kernel)
  · exact q_mem 158 (by decide +kernel) (by decide +kernel)
  · exact q_mem 160 (by decide +kernel) (by decide +kernel)
  · exact q_mem 162 (by decide +kernel) (by decide +kernel)
theorem kC_X1 : q_Cl 1 RX1 TX1 6 := ⟨rfl, kw_X1, tyX1_ok, nmX1, rfl⟩
theorem kw_X2 : ∀ w ∈ u_ws RX2 TX2 8, w ∈ q_WS := by
  intro w hw
  obtain ⟨k, hk, rfl⟩ := List.mem_map.mp hw
  have hk := List.mem_range.mp hk
  rcases (show k = 0 ∨ k = 1 ∨ k = 2 ∨ k = 3 ∨ k = 4 ∨ k = 5 ∨ k = 6 ∨ k = 7 by omega) with rfl | rfl | rfl | rfl | rfl | rfl | rfl | rfl
  · exact q_mem 247 (by decide +kernel) (by decide +kernel)
  · exact q_mem 249 (by decide +kernel) (by decide +kernel)
  · exact q_mem 251 (by decide +kernel) (by decide +kernel)
  · exact q_mem 253 (by decide +kernel) (by decide +kernel)
  · exact q_mem 255 (by decide +kernel) (by decide +kernel)
  · exact q_mem 257 (by decide +kernel) (by decide +kernel)
  · exact q_mem 259 (by decide +kernel) (by decide +kernel)
  · exact q_mem 261 (by decide +kernel) (by decide +kernel)
theorem kC_X2 : q_Cl 2 RX2 TX2 8 := ⟨rfl, kw_X2, tyX2_ok, nmX2, rfl⟩
theorem kw_X3 : ∀ w ∈ u_ws RX3 TX3 3, w ∈ q_WS := by
  intro w hw
  obtain ⟨k, hk, rfl⟩ := List.mem_map.mp hw
  have hk := List.mem_range.mp hk
  rcases (show k = 0 ∨ k = 1 ∨ k = 2 by omega) with rfl | rfl | rfl
  · exact q_mem 177 (by decide +kernel) (by decide +kernel)
  · exact q_mem 179 (by decide +kernel) (by decide +kernel)
  · exact q_mem 181 (by decide +kernel) (by decide +kernel)
theorem kC_X3 : q_Cl 3 RX3 TX3 3 := ⟨rfl, kw_X3, tyX3_ok, nmX3, rfl⟩
theorem kw_X4 : ∀ w ∈ u_ws RX4 TX4 3, w ∈ q_WS := by
  intro w hw
  obtain ⟨k, hk, rfl⟩ := List.mem_map.mp hw
  have hk := List.mem_range.mp hk
  rcases (show k = 0 ∨ k = 1 ∨ k = 2 by omega) with rfl | rfl | rfl
  · exact q_mem 219 (by decide +kernel) (by decide +kernel)
  · exact q_mem 221 (by decide +kernel) (by decide +kernel)
  · exact q_mem 223 (by decide +kernel) (by decide +kernel)
theorem kC_X4 : q_Cl 4 RX4 TX4 3 := ⟨rfl, kw_X4, tyX4_ok, nmX4, rfl⟩
theorem kw_X5 : ∀ w ∈ u_ws RX5 TX5 8, w ∈ q_WS := by
  intro w hw
  obtain ⟨k, hk, rfl⟩ := List.mem_map.mp hw
  have hk := List.mem_range.mp hk
  rcases (show k = 0 ∨ k = 1 ∨ k = 2 ∨ k = 3 ∨ k = 4 ∨ k = 5 ∨ k = 6 ∨ k = 7 by omega) with rfl | rfl | rfl | rfl | rfl | rfl | rfl | rfl
  · exact q_mem 112 (by decide +kernel) (by decide +kernel)
  · exact q_mem 114 (by decide +kernel) (by decide +kernel)
  · exact q_mem 116 (by decide +kernel) (by decide +kernel)
  · exact q_mem 118 (by decide +kernel) (by decide +kernel)
  · exact q_mem 120 (by decide +kernel) (by decide +kernel)
  · exact q_mem 122 (by decide +kernel) (by decide +kernel)
  · exact q_mem 124 (by decide +kernel) (by decide +kernel)
  · exact q_mem 126 (by decide +kernel) (by decide +kernel)
theorem kC_X5 : q_Cl 5 RX5 TX5 8 := ⟨rfl, kw_X5, tyX5_ok, nmX5, rfl⟩
theorem kw_X6 : ∀ w ∈ u_ws RX6 TX6 5, w ∈ q_WS := by
  intro w hw
  obtain ⟨k, hk, rfl⟩ := List.mem_map.mp hw
  have hk := List.mem_range.mp hk
  rcases (show k = 0 ∨ k = 1 ∨ k = 2 ∨ k = 3 ∨ k = 4 by omega) with rfl | rfl | rfl | rfl | rfl
  · exact q_mem 270 (by decide +kernel) (by decide +kernel)
  · exact q_mem 272 (by decide +kernel) (by decide +kernel)
  · exact q_mem 274 (by decide +kernel) (by decide +kernel)
  · exact q_mem 276 (by decide +kernel) (by decide +kernel)
  · exact q_mem 278 (by decide +kernel) (by decide +kernel)
theorem kC_X6 : q_Cl 6 RX6 TX6 5 := ⟨rfl, kw_X6, tyX6_ok, nmX6, rfl⟩
theorem kw_X7 : ∀ w ∈ u_ws RX7 TX7 13, w ∈ q_WS := by
  intro w hw
  obtain ⟨k, hk, rfl⟩ := List.mem_map.mp hw
  have hk := List.mem_range.mp hk
  rcases (show k = 0 ∨ k = 1 ∨ k = 2 ∨ k = 3 ∨ k = 4 ∨ k = 5 ∨ k = 6 ∨ k = 7 ∨ k = 8 ∨ k = 9 ∨ k = 10 ∨ k = 11 ∨ k = 12 by omega) with rfl | rfl | rfl | rfl | rfl | rfl | rfl | rfl | rfl | rfl | rfl | rfl | rfl
  · exact q_mem 615 (by decide +kernel) (by decide +kernel)
  · exact q_mem 617 (by decide +kernel) (by decide +kernel)
  · exact q_mem 619 (by decide +kernel) (by decide +kernel)
  · exact q_mem 621 (by decide +kernel) (by decide +kernel)
  · exact q_mem 623 (by decide +kernel) (by decide +kernel)
  · exact q_mem 625 (by decide +kernel) (by decide +kernel)
  · exact q_mem 627 (by decide +kernel) (by decide +kernel)
  · exact q_mem 629 (by decide +kernel) (by decide +kernel)
  · exact q_mem 631 (by decide +kernel) (by decide +kernel)
  · exact q_mem 633 (by decide +kernel) (by decide +kernel)
  · exact q_mem 635 (by decide +kernel) (by decide +kernel)
  · exact q_mem 637 (by decide +kernel) (by decide +kernel)
  · exact q_mem 639 (by decide +kernel) (by decide +kernel)
theorem kC_X7 : q_Cl 7 RX7 TX7 13 := ⟨rfl, kw_X7, tyX7_ok, nmX7, rfl⟩
end
