section
-- ===== PART A: goes FIRST, ahead of the names: the tables' words, and 'selects' of the private methods out of them =====
/-- a private method of a class that the tables say can be made, by its rows of tables_1 -/
def lw_okq (q : MethodName × Nat) : Prop := (q.1.cls ≠ "java/lang/invoke/MethodHandle" ∧ q.1.cls ≠ "java/lang/invoke/VarHandle") ∧ Cond.instantiable q.1.cls q.2 ∈ tables_1 ∧ Cond.privateMethod q.1 ∈ tables_1 ∧ Cond.instanceMethod q.1 ∈ tables_1
theorem lw_p0 : lw_okq (⟨"DonorParts$Past", "nextPlace", "()LDonorParts$Cafe;"⟩, 3) := ⟨⟨by decide +kernel, by decide +kernel⟩, List.mem_of_getElem? (i := 153) (by decide +kernel), List.mem_of_getElem? (i := 236) (by decide +kernel), List.mem_of_getElem? (i := 237) (by decide +kernel)⟩
theorem lw_p1 : lw_okq (⟨"DonorParts", "kept", "(I)I"⟩, 5) := ⟨⟨by decide +kernel, by decide +kernel⟩, List.mem_of_getElem? (i := 11) (by decide +kernel), List.mem_of_getElem? (i := 279) (by decide +kernel), List.mem_of_getElem? (i := 280) (by decide +kernel)⟩
theorem lw_p2 : lw_okq (⟨"DonorParts$Cafe", "strip", "(LDonorParts$Thing;)I"⟩, 6) := ⟨⟨by decide +kernel, by decide +kernel⟩, List.mem_of_getElem? (i := 19) (by decide +kernel), List.mem_of_getElem? (i := 321) (by decide +kernel), List.mem_of_getElem? (i := 322) (by decide +kernel)⟩
theorem lw_p3 : lw_okq (⟨"DonorParts$Cafe", "hasThingHere", "()Z"⟩, 6) := ⟨⟨by decide +kernel, by decide +kernel⟩, List.mem_of_getElem? (i := 19) (by decide +kernel), List.mem_of_getElem? (i := 348) (by decide +kernel), List.mem_of_getElem? (i := 349) (by decide +kernel)⟩
theorem lw_p4 : lw_okq (⟨"DonorParts$Cafe", "takeThing", "(I)V"⟩, 6) := ⟨⟨by decide +kernel, by decide +kernel⟩, List.mem_of_getElem? (i := 19) (by decide +kernel), List.mem_of_getElem? (i := 360) (by decide +kernel), List.mem_of_getElem? (i := 361) (by decide +kernel)⟩
theorem lw_p5 : lw_okq (⟨"DonorParts$Cafe", "workOf", "(I)I"⟩, 6) := ⟨⟨by decide +kernel, by decide +kernel⟩, List.mem_of_getElem? (i := 19) (by decide +kernel), List.mem_of_getElem? (i := 368) (by decide +kernel), List.mem_of_getElem? (i := 369) (by decide +kernel)⟩
theorem lw_p6 : lw_okq (⟨"DonorParts$Cafe", "exchangeLowest", "(LDonorParts$Thing;)Z"⟩, 6) := ⟨⟨by decide +kernel, by decide +kernel⟩, List.mem_of_getElem? (i := 19) (by decide +kernel), List.mem_of_getElem? (i := 372) (by decide +kernel), List.mem_of_getElem? (i := 373) (by decide +kernel)⟩
theorem lw_p7 : lw_okq (⟨"DonorParts$Cafe", "losePatience", "()V"⟩, 6) := ⟨⟨by decide +kernel, by decide +kernel⟩, List.mem_of_getElem? (i := 19) (by decide +kernel), List.mem_of_getElem? (i := 384) (by decide +kernel), List.mem_of_getElem? (i := 385) (by decide +kernel)⟩
theorem lw_p8 : lw_okq (⟨"DonorParts", "repairedWith", "(III)I"⟩, 5) := ⟨⟨by decide +kernel, by decide +kernel⟩, List.mem_of_getElem? (i := 11) (by decide +kernel), List.mem_of_getElem? (i := 444) (by decide +kernel), List.mem_of_getElem? (i := 445) (by decide +kernel)⟩
theorem lw_p9 : lw_okq (⟨"DonorParts$Pad", "sign", "()I"⟩, 8) := ⟨⟨by decide +kernel, by decide +kernel⟩, List.mem_of_getElem? (i := 173) (by decide +kernel), List.mem_of_getElem? (i := 481) (by decide +kernel), List.mem_of_getElem? (i := 482) (by decide +kernel)⟩
theorem lw_p10 : lw_okq (⟨"DonorParts$Pad", "readThing", "()Z"⟩, 8) := ⟨⟨by decide +kernel, by decide +kernel⟩, List.mem_of_getElem? (i := 173) (by decide +kernel), List.mem_of_getElem? (i := 489) (by decide +kernel), List.mem_of_getElem? (i := 490) (by decide +kernel)⟩
theorem lw_p11 : lw_okq (⟨"DonorParts$Pad", "readDigit", "(I)Z"⟩, 8) := ⟨⟨by decide +kernel, by decide +kernel⟩, List.mem_of_getElem? (i := 173) (by decide +kernel), List.mem_of_getElem? (i := 493) (by decide +kernel), List.mem_of_getElem? (i := 494) (by decide +kernel)⟩
theorem lw_p12 : lw_okq (⟨"DonorParts$Pad", "digitAtMost", "(I)I"⟩, 8) := ⟨⟨by decide +kernel, by decide +kernel⟩, List.mem_of_getElem? (i := 173) (by decide +kernel), List.mem_of_getElem? (i := 497) (by decide +kernel), List.mem_of_getElem? (i := 498) (by decide +kernel)⟩
theorem lw_p13 : lw_okq (⟨"DonorParts$Pad", "readSet", "(I)Z"⟩, 8) := ⟨⟨by decide +kernel, by decide +kernel⟩, List.mem_of_getElem? (i := 173) (by decide +kernel), List.mem_of_getElem? (i := 501) (by decide +kernel), List.mem_of_getElem? (i := 502) (by decide +kernel)⟩
theorem lw_p14 : lw_okq (⟨"DonorParts$Pad", "readNumber", "()Z"⟩, 8) := ⟨⟨by decide +kernel, by decide +kernel⟩, List.mem_of_getElem? (i := 173) (by decide +kernel), List.mem_of_getElem? (i := 505) (by decide +kernel), List.mem_of_getElem? (i := 506) (by decide +kernel)⟩
theorem lw_p15 : lw_okq (⟨"DonorParts$Pad", "readLast", "(I)Z"⟩, 8) := ⟨⟨by decide +kernel, by decide +kernel⟩, List.mem_of_getElem? (i := 173) (by decide +kernel), List.mem_of_getElem? (i := 509) (by decide +kernel), List.mem_of_getElem? (i := 510) (by decide +kernel)⟩
def lw_privs_1 : List (MethodName × Nat) := [(⟨"DonorParts$Past", "nextPlace", "()LDonorParts$Cafe;"⟩, 3), (⟨"DonorParts", "kept", "(I)I"⟩, 5), (⟨"DonorParts$Cafe", "strip", "(LDonorParts$Thing;)I"⟩, 6), (⟨"DonorParts$Cafe", "hasThingHere", "()Z"⟩, 6), (⟨"DonorParts$Cafe", "takeThing", "(I)V"⟩, 6), (⟨"DonorParts$Cafe", "workOf", "(I)I"⟩, 6), (⟨"DonorParts$Cafe", "exchangeLowest", "(LDonorParts$Thing;)Z"⟩, 6), (⟨"DonorParts$Cafe", "losePatience", "()V"⟩, 6), (⟨"DonorParts", "repairedWith", "(III)I"⟩, 5), (⟨"DonorParts$Pad", "sign", "()I"⟩, 8), (⟨"DonorParts$Pad", "readThing", "()Z"⟩, 8), (⟨"DonorParts$Pad", "readDigit", "(I)Z"⟩, 8), (⟨"DonorParts$Pad", "digitAtMost", "(I)I"⟩, 8), (⟨"DonorParts$Pad", "readSet", "(I)Z"⟩, 8), (⟨"DonorParts$Pad", "readNumber", "()Z"⟩, 8), (⟨"DonorParts$Pad", "readLast", "(I)Z"⟩, 8)]
theorem lw_r1 : ∀ q ∈ lw_privs_1, lw_okq q := List.forall_mem_cons.mpr ⟨lw_p0, List.forall_mem_cons.mpr ⟨lw_p1, List.forall_mem_cons.mpr ⟨lw_p2, List.forall_mem_cons.mpr ⟨lw_p3, List.forall_mem_cons.mpr ⟨lw_p4, List.forall_mem_cons.mpr ⟨lw_p5, List.forall_mem_cons.mpr ⟨lw_p6, List.forall_mem_cons.mpr ⟨lw_p7, List.forall_mem_cons.mpr ⟨lw_p8, List.forall_mem_cons.mpr ⟨lw_p9, List.forall_mem_cons.mpr ⟨lw_p10, List.forall_mem_cons.mpr ⟨lw_p11, List.forall_mem_cons.mpr ⟨lw_p12, List.forall_mem_cons.mpr ⟨lw_p13, List.forall_mem_cons.mpr ⟨lw_p14, List.forall_mem_cons.mpr ⟨lw_p15, fun _ h => absurd h List.not_mem_nil⟩⟩⟩⟩⟩⟩⟩⟩⟩⟩⟩⟩⟩⟩⟩⟩
theorem lw_p16 : lw_okq (⟨"DonorParts", "carryOrder", "()I"⟩, 5) := ⟨⟨by decide +kernel, by decide +kernel⟩, List.mem_of_getElem? (i := 11) (by decide +kernel), List.mem_of_getElem? (i := 523) (by decide +kernel), List.mem_of_getElem? (i := 524) (by decide +kernel)⟩
theorem lw_p17 : lw_okq (⟨"DonorPartsModel", "refusesThing", "(IIII)I"⟩, 13) := ⟨⟨by decide +kernel, by decide +kernel⟩, List.mem_of_getElem? (i := 543) (by decide +kernel), List.mem_of_getElem? (i := 595) (by decide +kernel), List.mem_of_getElem? (i := 596) (by decide +kernel)⟩
theorem lw_p18 : lw_okq (⟨"DonorPartsModel", "records", "()V"⟩, 13) := ⟨⟨by decide +kernel, by decide +kernel⟩, List.mem_of_getElem? (i := 543) (by decide +kernel), List.mem_of_getElem? (i := 605) (by decide +kernel), List.mem_of_getElem? (i := 606) (by decide +kernel)⟩
theorem lw_p19 : lw_okq (⟨"DonorPartsModel", "comes", "(IIII)I"⟩, 13) := ⟨⟨by decide +kernel, by decide +kernel⟩, List.mem_of_getElem? (i := 543) (by decide +kernel), List.mem_of_getElem? (i := 609) (by decide +kernel), List.mem_of_getElem? (i := 610) (by decide +kernel)⟩
theorem lw_p20 : lw_okq (⟨"DonorPartsModel", "lay", "(III)V"⟩, 13) := ⟨⟨by decide +kernel, by decide +kernel⟩, List.mem_of_getElem? (i := 543) (by decide +kernel), List.mem_of_getElem? (i := 613) (by decide +kernel), List.mem_of_getElem? (i := 614) (by decide +kernel)⟩
theorem lw_p21 : lw_okq (⟨"DonorPartsModel", "refusesFixer", "(II)I"⟩, 13) := ⟨⟨by decide +kernel, by decide +kernel⟩, List.mem_of_getElem? (i := 543) (by decide +kernel), List.mem_of_getElem? (i := 621) (by decide +kernel), List.mem_of_getElem? (i := 622) (by decide +kernel)⟩
theorem lw_p22 : lw_okq (⟨"DonorPartsModel", "comesFixer", "(II)I"⟩, 13) := ⟨⟨by decide +kernel, by decide +kernel⟩, List.mem_of_getElem? (i := 543) (by decide +kernel), List.mem_of_getElem? (i := 625) (by decide +kernel), List.mem_of_getElem? (i := 626) (by decide +kernel)⟩
theorem lw_p23 : lw_okq (⟨"DonorPartsModel", "isThing", "(I)Z"⟩, 13) := ⟨⟨by decide +kernel, by decide +kernel⟩, List.mem_of_getElem? (i := 543) (by decide +kernel), List.mem_of_getElem? (i := 640) (by decide +kernel), List.mem_of_getElem? (i := 641) (by decide +kernel)⟩
theorem lw_p24 : lw_okq (⟨"DonorPartsModel", "of", "(II)I"⟩, 13) := ⟨⟨by decide +kernel, by decide +kernel⟩, List.mem_of_getElem? (i := 543) (by decide +kernel), List.mem_of_getElem? (i := 644) (by decide +kernel), List.mem_of_getElem? (i := 645) (by decide +kernel)⟩
theorem lw_p25 : lw_okq (⟨"DonorPartsModel", "strips", "(I)I"⟩, 13) := ⟨⟨by decide +kernel, by decide +kernel⟩, List.mem_of_getElem? (i := 543) (by decide +kernel), List.mem_of_getElem? (i := 648) (by decide +kernel), List.mem_of_getElem? (i := 649) (by decide +kernel)⟩
theorem lw_p26 : lw_okq (⟨"DonorPartsModel", "refusesPass", "(I)I"⟩, 13) := ⟨⟨by decide +kernel, by decide +kernel⟩, List.mem_of_getElem? (i := 543) (by decide +kernel), List.mem_of_getElem? (i := 656) (by decide +kernel), List.mem_of_getElem? (i := 657) (by decide +kernel)⟩
theorem lw_p27 : lw_okq (⟨"DonorPartsModel", "minutes", "(I)I"⟩, 13) := ⟨⟨by decide +kernel, by decide +kernel⟩, List.mem_of_getElem? (i := 543) (by decide +kernel), List.mem_of_getElem? (i := 660) (by decide +kernel), List.mem_of_getElem? (i := 661) (by decide +kernel)⟩
theorem lw_p28 : lw_okq (⟨"DonorPartsModel", "withHow", "(I)I"⟩, 13) := ⟨⟨by decide +kernel, by decide +kernel⟩, List.mem_of_getElem? (i := 543) (by decide +kernel), List.mem_of_getElem? (i := 664) (by decide +kernel), List.mem_of_getElem? (i := 665) (by decide +kernel)⟩
theorem lw_p29 : lw_okq (⟨"DonorPartsModel", "minute", "()V"⟩, 13) := ⟨⟨by decide +kernel, by decide +kernel⟩, List.mem_of_getElem? (i := 543) (by decide +kernel), List.mem_of_getElem? (i := 668) (by decide +kernel), List.mem_of_getElem? (i := 669) (by decide +kernel)⟩
theorem lw_p30 : lw_okq (⟨"DonorPartsModel", "fixer0", "(II)I"⟩, 13) := ⟨⟨by decide +kernel, by decide +kernel⟩, List.mem_of_getElem? (i := 543) (by decide +kernel), List.mem_of_getElem? (i := 672) (by decide +kernel), List.mem_of_getElem? (i := 673) (by decide +kernel)⟩
theorem lw_p31 : lw_okq (⟨"DonorPartsModel", "takes", "(I)V"⟩, 13) := ⟨⟨by decide +kernel, by decide +kernel⟩, List.mem_of_getElem? (i := 543) (by decide +kernel), List.mem_of_getElem? (i := 676) (by decide +kernel), List.mem_of_getElem? (i := 677) (by decide +kernel)⟩
def lw_privs_2 : List (MethodName × Nat) := [(⟨"DonorParts", "carryOrder", "()I"⟩, 5), (⟨"DonorPartsModel", "refusesThing", "(IIII)I"⟩, 13), (⟨"DonorPartsModel", "records", "()V"⟩, 13), (⟨"DonorPartsModel", "comes", "(IIII)I"⟩, 13), (⟨"DonorPartsModel", "lay", "(III)V"⟩, 13), (⟨"DonorPartsModel", "refusesFixer", "(II)I"⟩, 13), (⟨"DonorPartsModel", "comesFixer", "(II)I"⟩, 13), (⟨"DonorPartsModel", "isThing", "(I)Z"⟩, 13), (⟨"DonorPartsModel", "of", "(II)I"⟩, 13), (⟨"DonorPartsModel", "strips", "(I)I"⟩, 13), (⟨"DonorPartsModel", "refusesPass", "(I)I"⟩, 13), (⟨"DonorPartsModel", "minutes", "(I)I"⟩, 13), (⟨"DonorPartsModel", "withHow", "(I)I"⟩, 13), (⟨"DonorPartsModel", "minute", "()V"⟩, 13), (⟨"DonorPartsModel", "fixer0", "(II)I"⟩, 13), (⟨"DonorPartsModel", "takes", "(I)V"⟩, 13)]
theorem lw_r2 : ∀ q ∈ lw_privs_2, lw_okq q := List.forall_mem_cons.mpr ⟨lw_p16, List.forall_mem_cons.mpr ⟨lw_p17, List.forall_mem_cons.mpr ⟨lw_p18, List.forall_mem_cons.mpr ⟨lw_p19, List.forall_mem_cons.mpr ⟨lw_p20, List.forall_mem_cons.mpr ⟨lw_p21, List.forall_mem_cons.mpr ⟨lw_p22, List.forall_mem_cons.mpr ⟨lw_p23, List.forall_mem_cons.mpr ⟨lw_p24, List.forall_mem_cons.mpr ⟨lw_p25, List.forall_mem_cons.mpr ⟨lw_p26, List.forall_mem_cons.mpr ⟨lw_p27, List.forall_mem_cons.mpr ⟨lw_p28, List.forall_mem_cons.mpr ⟨lw_p29, List.forall_mem_cons.mpr ⟨lw_p30, List.forall_mem_cons.mpr ⟨lw_p31, fun _ h => absurd h List.not_mem_nil⟩⟩⟩⟩⟩⟩⟩⟩⟩⟩⟩⟩⟩⟩⟩⟩
theorem lw_p32 : lw_okq (⟨"DonorPartsModel", "nextFor", "(I)I"⟩, 13) := ⟨⟨by decide +kernel, by decide +kernel⟩, List.mem_of_getElem? (i := 543) (by decide +kernel), List.mem_of_getElem? (i := 680) (by decide +kernel), List.mem_of_getElem? (i := 681) (by decide +kernel)⟩
theorem lw_p33 : lw_okq (⟨"DonorPartsModel", "works", "(I)V"⟩, 13) := ⟨⟨by decide +kernel, by decide +kernel⟩, List.mem_of_getElem? (i := 543) (by decide +kernel), List.mem_of_getElem? (i := 684) (by decide +kernel), List.mem_of_getElem? (i := 685) (by decide +kernel)⟩
theorem lw_p34 : lw_okq (⟨"DonorPartsModel", "more", "(II)V"⟩, 13) := ⟨⟨by decide +kernel, by decide +kernel⟩, List.mem_of_getElem? (i := 543) (by decide +kernel), List.mem_of_getElem? (i := 688) (by decide +kernel), List.mem_of_getElem? (i := 689) (by decide +kernel)⟩
theorem lw_p35 : lw_okq (⟨"DonorPartsModel", "exchanges", "(I)Z"⟩, 13) := ⟨⟨by decide +kernel, by decide +kernel⟩, List.mem_of_getElem? (i := 543) (by decide +kernel), List.mem_of_getElem? (i := 692) (by decide +kernel), List.mem_of_getElem? (i := 693) (by decide +kernel)⟩
theorem lw_p36 : lw_okq (⟨"DonorPartsModel", "tests", "(II)Z"⟩, 13) := ⟨⟨by decide +kernel, by decide +kernel⟩, List.mem_of_getElem? (i := 543) (by decide +kernel), List.mem_of_getElem? (i := 699) (by decide +kernel), List.mem_of_getElem? (i := 700) (by decide +kernel)⟩
theorem lw_p37 : lw_okq (⟨"DonorPartsModel", "givesUp", "(II)V"⟩, 13) := ⟨⟨by decide +kernel, by decide +kernel⟩, List.mem_of_getElem? (i := 543) (by decide +kernel), List.mem_of_getElem? (i := 703) (by decide +kernel), List.mem_of_getElem? (i := 704) (by decide +kernel)⟩
theorem lw_p38 : lw_okq (⟨"DonorPartsModel", "frees", "(I)V"⟩, 13) := ⟨⟨by decide +kernel, by decide +kernel⟩, List.mem_of_getElem? (i := 543) (by decide +kernel), List.mem_of_getElem? (i := 707) (by decide +kernel), List.mem_of_getElem? (i := 708) (by decide +kernel)⟩
theorem lw_p39 : lw_okq (⟨"DonorPartsModel", "fixerOf", "(I)I"⟩, 13) := ⟨⟨by decide +kernel, by decide +kernel⟩, List.mem_of_getElem? (i := 543) (by decide +kernel), List.mem_of_getElem? (i := 715) (by decide +kernel), List.mem_of_getElem? (i := 716) (by decide +kernel)⟩
theorem lw_p40 : lw_okq (⟨"DonorPartsModel", "placeOf", "(I)I"⟩, 13) := ⟨⟨by decide +kernel, by decide +kernel⟩, List.mem_of_getElem? (i := 543) (by decide +kernel), List.mem_of_getElem? (i := 719) (by decide +kernel), List.mem_of_getElem? (i := 720) (by decide +kernel)⟩
theorem lw_p41 : lw_okq (⟨"DonorPartsModel", "brokenOnes", "(I)I"⟩, 13) := ⟨⟨by decide +kernel, by decide +kernel⟩, List.mem_of_getElem? (i := 543) (by decide +kernel), List.mem_of_getElem? (i := 731) (by decide +kernel), List.mem_of_getElem? (i := 732) (by decide +kernel)⟩
theorem lw_p42 : lw_okq (⟨"DonorPartsModel", "putAside", "()V"⟩, 13) := ⟨⟨by decide +kernel, by decide +kernel⟩, List.mem_of_getElem? (i := 543) (by decide +kernel), List.mem_of_getElem? (i := 747) (by decide +kernel), List.mem_of_getElem? (i := 748) (by decide +kernel)⟩
theorem lw_p43 : lw_okq (⟨"DonorPartsModel", "takeBack", "()V"⟩, 13) := ⟨⟨by decide +kernel, by decide +kernel⟩, List.mem_of_getElem? (i := 543) (by decide +kernel), List.mem_of_getElem? (i := 751) (by decide +kernel), List.mem_of_getElem? (i := 752) (by decide +kernel)⟩
theorem lw_p44 : lw_okq (⟨"DonorPartsModel", "repairedWith", "(III)I"⟩, 13) := ⟨⟨by decide +kernel, by decide +kernel⟩, List.mem_of_getElem? (i := 543) (by decide +kernel), List.mem_of_getElem? (i := 759) (by decide +kernel), List.mem_of_getElem? (i := 760) (by decide +kernel)⟩
theorem lw_p45 : lw_okq (⟨"DonorPartsModel", "reads", "()I"⟩, 13) := ⟨⟨by decide +kernel, by decide +kernel⟩, List.mem_of_getElem? (i := 543) (by decide +kernel), List.mem_of_getElem? (i := 780) (by decide +kernel), List.mem_of_getElem? (i := 781) (by decide +kernel)⟩
theorem lw_p46 : lw_okq (⟨"DonorPartsModel", "readsOrder", "()V"⟩, 13) := ⟨⟨by decide +kernel, by decide +kernel⟩, List.mem_of_getElem? (i := 543) (by decide +kernel), List.mem_of_getElem? (i := 784) (by decide +kernel), List.mem_of_getElem? (i := 785) (by decide +kernel)⟩
theorem lw_p47 : lw_okq (⟨"DonorPartsModel", "sign", "()I"⟩, 13) := ⟨⟨by decide +kernel, by decide +kernel⟩, List.mem_of_getElem? (i := 543) (by decide +kernel), List.mem_of_getElem? (i := 788) (by decide +kernel), List.mem_of_getElem? (i := 789) (by decide +kernel)⟩
def lw_privs_3 : List (MethodName × Nat) := [(⟨"DonorPartsModel", "nextFor", "(I)I"⟩, 13), (⟨"DonorPartsModel", "works", "(I)V"⟩, 13), (⟨"DonorPartsModel", "more", "(II)V"⟩, 13), (⟨"DonorPartsModel", "exchanges", "(I)Z"⟩, 13), (⟨"DonorPartsModel", "tests", "(II)Z"⟩, 13), (⟨"DonorPartsModel", "givesUp", "(II)V"⟩, 13), (⟨"DonorPartsModel", "frees", "(I)V"⟩, 13), (⟨"DonorPartsModel", "fixerOf", "(I)I"⟩, 13), (⟨"DonorPartsModel", "placeOf", "(I)I"⟩, 13), (⟨"DonorPartsModel", "brokenOnes", "(I)I"⟩, 13), (⟨"DonorPartsModel", "putAside", "()V"⟩, 13), (⟨"DonorPartsModel", "takeBack", "()V"⟩, 13), (⟨"DonorPartsModel", "repairedWith", "(III)I"⟩, 13), (⟨"DonorPartsModel", "reads", "()I"⟩, 13), (⟨"DonorPartsModel", "readsOrder", "()V"⟩, 13), (⟨"DonorPartsModel", "sign", "()I"⟩, 13)]
theorem lw_r3 : ∀ q ∈ lw_privs_3, lw_okq q := List.forall_mem_cons.mpr ⟨lw_p32, List.forall_mem_cons.mpr ⟨lw_p33, List.forall_mem_cons.mpr ⟨lw_p34, List.forall_mem_cons.mpr ⟨lw_p35, List.forall_mem_cons.mpr ⟨lw_p36, List.forall_mem_cons.mpr ⟨lw_p37, List.forall_mem_cons.mpr ⟨lw_p38, List.forall_mem_cons.mpr ⟨lw_p39, List.forall_mem_cons.mpr ⟨lw_p40, List.forall_mem_cons.mpr ⟨lw_p41, List.forall_mem_cons.mpr ⟨lw_p42, List.forall_mem_cons.mpr ⟨lw_p43, List.forall_mem_cons.mpr ⟨lw_p44, List.forall_mem_cons.mpr ⟨lw_p45, List.forall_mem_cons.mpr ⟨lw_p46, List.forall_mem_cons.mpr ⟨lw_p47, fun _ h => absurd h List.not_mem_nil⟩⟩⟩⟩⟩⟩⟩⟩⟩⟩⟩⟩⟩⟩⟩⟩
theorem lw_p48 : lw_okq (⟨"DonorPartsModel", "digit", "(I)I"⟩, 13) := ⟨⟨by decide +kernel, by decide +kernel⟩, List.mem_of_getElem? (i := 543) (by decide +kernel), List.mem_of_getElem? (i := 792) (by decide +kernel), List.mem_of_getElem? (i := 793) (by decide +kernel)⟩
theorem lw_p49 : lw_okq (⟨"DonorPartsModel", "takesSign", "(I)Z"⟩, 13) := ⟨⟨by decide +kernel, by decide +kernel⟩, List.mem_of_getElem? (i := 543) (by decide +kernel), List.mem_of_getElem? (i := 796) (by decide +kernel), List.mem_of_getElem? (i := 797) (by decide +kernel)⟩
theorem lw_p50 : lw_okq (⟨"DonorPartsModel", "digits", "(I)I"⟩, 13) := ⟨⟨by decide +kernel, by decide +kernel⟩, List.mem_of_getElem? (i := 543) (by decide +kernel), List.mem_of_getElem? (i := 800) (by decide +kernel), List.mem_of_getElem? (i := 801) (by decide +kernel)⟩
theorem lw_p51 : lw_okq (⟨"DonorPartsModel", "number", "()I"⟩, 13) := ⟨⟨by decide +kernel, by decide +kernel⟩, List.mem_of_getElem? (i := 543) (by decide +kernel), List.mem_of_getElem? (i := 804) (by decide +kernel), List.mem_of_getElem? (i := 805) (by decide +kernel)⟩
theorem lw_p52 : lw_okq (⟨"DonorPartsModel", "refuses", "(I)I"⟩, 13) := ⟨⟨by decide +kernel, by decide +kernel⟩, List.mem_of_getElem? (i := 543) (by decide +kernel), List.mem_of_getElem? (i := 812) (by decide +kernel), List.mem_of_getElem? (i := 813) (by decide +kernel)⟩
theorem lw_p53 : lw_okq (⟨"DonorPartsModel", "does", "(I)V"⟩, 13) := ⟨⟨by decide +kernel, by decide +kernel⟩, List.mem_of_getElem? (i := 543) (by decide +kernel), List.mem_of_getElem? (i := 816) (by decide +kernel), List.mem_of_getElem? (i := 817) (by decide +kernel)⟩
def lw_privs_4 : List (MethodName × Nat) := [(⟨"DonorPartsModel", "digit", "(I)I"⟩, 13), (⟨"DonorPartsModel", "takesSign", "(I)Z"⟩, 13), (⟨"DonorPartsModel", "digits", "(I)I"⟩, 13), (⟨"DonorPartsModel", "number", "()I"⟩, 13), (⟨"DonorPartsModel", "refuses", "(I)I"⟩, 13), (⟨"DonorPartsModel", "does", "(I)V"⟩, 13)]
theorem lw_r4 : ∀ q ∈ lw_privs_4, lw_okq q := List.forall_mem_cons.mpr ⟨lw_p48, List.forall_mem_cons.mpr ⟨lw_p49, List.forall_mem_cons.mpr ⟨lw_p50, List.forall_mem_cons.mpr ⟨lw_p51, List.forall_mem_cons.mpr ⟨lw_p52, List.forall_mem_cons.mpr ⟨lw_p53, fun _ h => absurd h List.not_mem_nil⟩⟩⟩⟩⟩⟩
def lw_privs : List (MethodName × Nat) := lw_privs_1 ++ (lw_privs_2 ++ (lw_privs_3 ++ (lw_privs_4)))
def lw_tbl : List Cond := k2_sels lw_privs ++ tables_1
theorem lw_privs_ok : ∀ q ∈ lw_privs, lw_okq q := by
  show ∀ q ∈ lw_privs_1 ++ (lw_privs_2 ++ (lw_privs_3 ++ (lw_privs_4))), lw_okq q
  exact List.forall_mem_append.mpr ⟨lw_r1, List.forall_mem_append.mpr ⟨lw_r2, List.forall_mem_append.mpr ⟨lw_r3, lw_r4⟩⟩⟩
-- ===== end of PART A; then your names; then what follows =====
def RX0 : String := "DonorParts$Cafe"
def TX0 : u_T := fun k => match k with
  | 0 => ("DonorParts$Cafe", "minutes", "I", false)
  | 1 => ("DonorParts$Cafe", "things", "I", false)
  | 2 => ("DonorParts$Cafe", "fixers", "I", false)
  | 3 => ("DonorParts$Cafe", "thingRow", "[LDonorParts$Thing;", true)
  | 4 => ("DonorParts$Cafe", "fixerRow", "[LDonorParts$Fixer;", true)
  | _ => ("DonorParts$Cafe", "partRow", "[LDonorParts$Part;", true)
def tyX0 : Nat → FieldType := fun k => match k with
  | 0 => .int
  | 1 => .int
  | 2 => .int
  | 3 => .array (.object "DonorParts$Thing")
  | 4 => .array (.object "DonorParts$Fixer")
  | _ => .array (.object "DonorParts$Part")
abbrev wsX00 : List Cond := u_ws RX0 TX0 6
theorem nmX0 : ∀ a, a < 6 → ∀ b, b < 6 → a ≠ b → (TX0 a).2.1 ≠ (TX0 b).2.1 := by decide +kernel
theorem tyX0_ok : ∀ k, k < 6 → parseFieldDescriptor (TX0 k).2.2.1 = some (tyX0 k) := by decide +kernel
abbrev cX0_init : ByteArray := prog_2_method_1_code
def yX0_init : MethodName := ⟨RX0, "<init>", "()V"⟩
abbrev cX0_thingAt : ByteArray := prog_2_method_2_code
def yX0_thingAt : MethodName := ⟨RX0, "thingAt", "(I)LDonorParts$Thing;"⟩
abbrev cX0_fixerAt : ByteArray := prog_2_method_3_code
def yX0_fixerAt : MethodName := ⟨RX0, "fixerAt", "(I)LDonorParts$Fixer;"⟩
abbrev cX0_partAt : ByteArray := prog_2_method_4_code
def yX0_partAt : MethodName := ⟨RX0, "partAt", "(I)LDonorParts$Part;"⟩
abbrev cX0_copyFrom : ByteArray := prog_2_method_5_code
def yX0_copyFrom : MethodName := ⟨RX0, "copyFrom", "(LDonorParts$Cafe;)V"⟩
abbrev cX0_addThing : ByteArray := prog_2_method_6_code
def yX0_addThing : MethodName := ⟨RX0, "addThing", "(IIII)I"⟩
abbrev cX0_addFixer : ByteArray := prog_2_method_7_code
def yX0_addFixer : MethodName := ⟨RX0, "addFixer", "(II)I"⟩
abbrev cX0_fillDrawer : ByteArray := prog_2_method_8_code
def yX0_fillDrawer : MethodName := ⟨RX0, "fillDrawer", "(II)I"⟩
abbrev cX0_giveWaitingUp : ByteArray := prog_2_method_9_code
def yX0_giveWaitingUp : MethodName := ⟨RX0, "giveWaitingUp", "(I)I"⟩
abbrev cX0_letPass : ByteArray := prog_2_method_10_code
def yX0_letPass : MethodName := ⟨RX0, "letPass", "(I)I"⟩
abbrev cX0_passMinutes : ByteArray := prog_2_method_11_code
def yX0_passMinutes : MethodName := ⟨RX0, "passMinutes", "(I)I"⟩
abbrev cX0_passMinute : ByteArray := prog_2_method_12_code
def yX0_passMinute : MethodName := ⟨RX0, "passMinute", "()I"⟩
abbrev cX0_takeThing : ByteArray := prog_2_method_13_code
def yX0_takeThing : MethodName := ⟨RX0, "takeThing", "(I)V"⟩
abbrev cX0_workOf : ByteArray := prog_2_method_14_code
def yX0_workOf : MethodName := ⟨RX0, "workOf", "(I)I"⟩
abbrev cX0_exchangeLowest : ByteArray := prog_2_method_15_code
def yX0_exchangeLowest : MethodName := ⟨RX0, "exchangeLowest", "(LDonorParts$Thing;)Z"⟩
abbrev cX0_strip : ByteArray := prog_2_method_16_code
def yX0_strip : MethodName := ⟨RX0, "strip", "(LDonorParts$Thing;)I"⟩
abbrev cX0_losePatience : ByteArray := prog_2_method_17_code
def yX0_losePatience : MethodName := ⟨RX0, "losePatience", "()V"⟩
abbrev cX0_hasThingHere : ByteArray := prog_2_method_18_code
def yX0_hasThingHere : MethodName := ⟨RX0, "hasThingHere", "()Z"⟩
abbrev cX0_nextOf : ByteArray := prog_2_method_19_code
def yX0_nextOf : MethodName := ⟨RX0, "nextOf", "(I)I"⟩
abbrev cX0_placeOf : ByteArray := prog_2_method_20_code
def yX0_placeOf : MethodName := ⟨RX0, "placeOf", "(I)I"⟩
abbrev cX0_thingsThatAre : ByteArray := prog_2_method_21_code
def yX0_thingsThatAre : MethodName := ⟨RX0, "thingsThatAre", "(I)I"⟩
abbrev cX0_brokenOnes : ByteArray := prog_2_method_22_code
def yX0_brokenOnes : MethodName := ⟨RX0, "brokenOnes", "(I)I"⟩
abbrev cX0_missingOnes : ByteArray := prog_2_method_23_code
def yX0_missingOnes : MethodName := ⟨RX0, "missingOnes", "(I)I"⟩
def RX1 : String := "DonorParts$Fixer"
def TX1 : u_T := fun k => match k with
  | 0 => ("DonorParts$Fixer", "kinds", "I", false)
  | 1 => ("DonorParts$Fixer", "care", "I", false)
  | 2 => ("DonorParts$Fixer", "task", "I", false)
  | 3 => ("DonorParts$Fixer", "repaired", "I", false)
  | 4 => ("DonorParts$Fixer", "givenUp", "I", false)
  | _ => ("DonorParts$Fixer", "worked", "I", false)
def tyX1 : Nat → FieldType := fun k => match k with
  | 0 => .int
  | 1 => .int
  | 2 => .int
  | 3 => .int
  | 4 => .int
  | _ => .int
abbrev wsX10 : List Cond := u_ws RX1 TX1 6
theorem nmX1 : ∀ a, a < 6 → ∀ b, b < 6 → a ≠ b → (TX1 a).2.1 ≠ (TX1 b).2.1 := by decide +kernel
theorem tyX1_ok : ∀ k, k < 6 → parseFieldDescriptor (TX1 k).2.2.1 = some (tyX1 k) := by decide +kernel
abbrev cX1_init : ByteArray := prog_3_method_1_code
def yX1_init : MethodName := ⟨RX1, "<init>", "()V"⟩
abbrev cX1_come : ByteArray := prog_3_method_2_code
def yX1_come : MethodName := ⟨RX1, "come", "(II)V"⟩
abbrev cX1_copyFrom : ByteArray := prog_3_method_3_code
def yX1_copyFrom : MethodName := ⟨RX1, "copyFrom", "(LDonorParts$Fixer;)V"⟩
def RX2 : String := "DonorParts$Pad"
def TX2 : u_T := fun k => match k with
  | 0 => ("DonorParts$Pad", "length", "I", false)
  | 1 => ("DonorParts$Pad", "at", "I", false)
  | 2 => ("DonorParts$Pad", "letter", "I", false)
  | 3 => ("DonorParts$Pad", "digit", "I", false)
  | 4 => ("DonorParts$Pad", "set", "I", false)
  | 5 => ("DonorParts$Pad", "number", "I", false)
  | 6 => ("DonorParts$Pad", "last", "I", false)
  | _ => ("DonorParts$Pad", "signs", "[C", true)
def tyX2 : Nat → FieldType := fun k => match k with
  | 0 => .int
  | 1 => .int
  | 2 => .int
  | 3 => .int
  | 4 => .int
  | 5 => .int
  | 6 => .int
  | _ => .array .char
abbrev wsX20 : List Cond := u_ws RX2 TX2 8
theorem nmX2 : ∀ a, a < 8 → ∀ b, b < 8 → a ≠ b → (TX2 a).2.1 ≠ (TX2 b).2.1 := by decide +kernel
theorem tyX2_ok : ∀ k, k < 8 → parseFieldDescriptor (TX2 k).2.2.1 = some (tyX2 k) := by decide +kernel
abbrev cX2_init : ByteArray := prog_4_method_1_code
def yX2_init : MethodName := ⟨RX2, "<init>", "()V"⟩
abbrev cX2_append : ByteArray := prog_4_method_2_code
def yX2_append : MethodName := ⟨RX2, "append", "(I)V"⟩
abbrev cX2_sign : ByteArray := prog_4_method_3_code
def yX2_sign : MethodName := ⟨RX2, "sign", "()I"⟩
abbrev cX2_begin : ByteArray := prog_4_method_4_code
def yX2_begin : MethodName := ⟨RX2, "begin", "()V"⟩
abbrev cX2_isAtEnd : ByteArray := prog_4_method_5_code
def yX2_isAtEnd : MethodName := ⟨RX2, "isAtEnd", "()Z"⟩
abbrev cX2_readOrder : ByteArray := prog_4_method_6_code
def yX2_readOrder : MethodName := ⟨RX2, "readOrder", "()Z"⟩
abbrev cX2_readSign : ByteArray := prog_4_method_7_code
def yX2_readSign : MethodName := ⟨RX2, "readSign", "(I)Z"⟩
abbrev cX2_readThing : ByteArray := prog_4_method_8_code
def yX2_readThing : MethodName := ⟨RX2, "readThing", "()Z"⟩
abbrev cX2_readDigit : ByteArray := prog_4_method_9_code
def yX2_readDigit : MethodName := ⟨RX2, "readDigit", "(I)Z"⟩
abbrev cX2_readLast : ByteArray := prog_4_method_10_code
def yX2_readLast : MethodName := ⟨RX2, "readLast", "(I)Z"⟩
abbrev cX2_readSet : ByteArray := prog_4_method_11_code
def yX2_readSet : MethodName := ⟨RX2, "readSet", "(I)Z"⟩
abbrev cX2_readNumber : ByteArray := prog_4_method_12_code
def yX2_readNumber : MethodName := ⟨RX2, "readNumber", "()Z"⟩
abbrev cX2_digitAtMost : ByteArray := prog_4_method_13_code
def yX2_digitAtMost : MethodName := ⟨RX2, "digitAtMost", "(I)I"⟩
def RX3 : String := "DonorParts$Part"
def TX3 : u_T := fun k => match k with
  | 0 => ("DonorParts$Part", "stock", "I", false)
  | 1 => ("DonorParts$Part", "exchanged", "I", false)
  | _ => ("DonorParts$Part", "stripped", "I", false)
def tyX3 : Nat → FieldType := fun k => match k with
  | 0 => .int
  | 1 => .int
  | _ => .int
abbrev wsX30 : List Cond := u_ws RX3 TX3 3
theorem nmX3 : ∀ a, a < 3 → ∀ b, b < 3 → a ≠ b → (TX3 a).2.1 ≠ (TX3 b).2.1 := by decide +kernel
theorem tyX3_ok : ∀ k, k < 3 → parseFieldDescriptor (TX3 k).2.2.1 = some (tyX3 k) := by decide +kernel
abbrev cX3_init : ByteArray := prog_5_method_1_code
def yX3_init : MethodName := ⟨RX3, "<init>", "()V"⟩
abbrev cX3_copyFrom : ByteArray := prog_5_method_2_code
def yX3_copyFrom : MethodName := ⟨RX3, "copyFrom", "(LDonorParts$Part;)V"⟩
abbrev cX3_takeIn : ByteArray := prog_5_method_3_code
def yX3_takeIn : MethodName := ⟨RX3, "takeIn", "()Z"⟩
abbrev cX3_handOut : ByteArray := prog_5_method_4_code
def yX3_handOut : MethodName := ⟨RX3, "handOut", "()Z"⟩
def RX4 : String := "DonorParts$Past"
def TX4 : u_T := fun k => match k with
  | 0 => ("DonorParts$Past", "many", "I", false)
  | 1 => ("DonorParts$Past", "next", "I", false)
  | _ => ("DonorParts$Past", "ring", "[LDonorParts$Cafe;", true)
def tyX4 : Nat → FieldType := fun k => match k with
  | 0 => .int
  | 1 => .int
  | _ => .array (.object "DonorParts$Cafe")
abbrev wsX40 : List Cond := u_ws RX4 TX4 3
theorem nmX4 : ∀ a, a < 3 → ∀ b, b < 3 → a ≠ b → (TX4 a).2.1 ≠ (TX4 b).2.1 := by decide +kernel
theorem tyX4_ok : ∀ k, k < 3 → parseFieldDescriptor (TX4 k).2.2.1 = some (tyX4 k) := by decide +kernel
abbrev cX4_init : ByteArray := prog_6_method_1_code
def yX4_init : MethodName := ⟨RX4, "<init>", "()V"⟩
abbrev cX4_note : ByteArray := prog_6_method_2_code
def yX4_note : MethodName := ⟨RX4, "note", "(LDonorParts$Cafe;)V"⟩
abbrev cX4_keep : ByteArray := prog_6_method_3_code
def yX4_keep : MethodName := ⟨RX4, "keep", "()V"⟩
abbrev cX4_takeBack : ByteArray := prog_6_method_4_code
def yX4_takeBack : MethodName := ⟨RX4, "takeBack", "(LDonorParts$Cafe;)V"⟩
abbrev cX4_nextPlace : ByteArray := prog_6_method_5_code
def yX4_nextPlace : MethodName := ⟨RX4, "nextPlace", "()LDonorParts$Cafe;"⟩
def RX5 : String := "DonorParts$Thing"
def TX5 : u_T := fun k => match k with
  | 0 => ("DonorParts$Thing", "kind", "I", false)
  | 1 => ("DonorParts$Thing", "broken", "I", false)
  | 2 => ("DonorParts$Thing", "patience", "I", false)
  | 3 => ("DonorParts$Thing", "tests", "I", false)
  | 4 => ("DonorParts$Thing", "how", "I", false)
  | 5 => ("DonorParts$Thing", "worker", "I", false)
  | 6 => ("DonorParts$Thing", "failures", "I", false)
  | _ => ("DonorParts$Thing", "exchanged", "I", false)
def tyX5 : Nat → FieldType := fun k => match k with
  | 0 => .int
  | 1 => .int
  | 2 => .int
  | 3 => .int
  | 4 => .int
  | 5 => .int
  | 6 => .int
  | _ => .int
abbrev wsX50 : List Cond := u_ws RX5 TX5 8
theorem nmX5 : ∀ a, a < 8 → ∀ b, b < 8 → a ≠ b → (TX5 a).2.1 ≠ (TX5 b).2.1 := by decide +kernel
theorem tyX5_ok : ∀ k, k < 8 → parseFieldDescriptor (TX5 k).2.2.1 = some (tyX5 k) := by decide +kernel
abbrev cX5_init : ByteArray := prog_7_method_1_code
def yX5_init : MethodName := ⟨RX5, "<init>", "()V"⟩
abbrev cX5_come : ByteArray := prog_7_method_2_code
def yX5_come : MethodName := ⟨RX5, "come", "(IIII)V"⟩
abbrev cX5_copyFrom : ByteArray := prog_7_method_3_code
def yX5_copyFrom : MethodName := ⟨RX5, "copyFrom", "(LDonorParts$Thing;)V"⟩
abbrev cX5_isHere : ByteArray := prog_7_method_4_code
def yX5_isHere : MethodName := ⟨RX5, "isHere", "()Z"⟩
abbrev cX5_end : ByteArray := prog_7_method_5_code
def yX5_end : MethodName := ⟨RX5, "end", "(I)V"⟩
abbrev cX5_tryTest : ByteArray := prog_7_method_6_code
def yX5_tryTest : MethodName := ⟨RX5, "tryTest", "(II)Z"⟩
def RX6 : String := "DonorParts"
def TX6 : u_T := fun k => match k with
  | 0 => ("DonorParts", "now", "LDonorParts$Cafe;", true)
  | 1 => ("DonorParts", "ahead", "LDonorParts$Cafe;", true)
  | 2 => ("DonorParts", "past", "LDonorParts$Past;", true)
  | 3 => ("DonorParts", "slots", "[LDonorParts$Cafe;", true)
  | _ => ("DonorParts", "pad", "LDonorParts$Pad;", true)
def tyX6 : Nat → FieldType := fun k => match k with
  | 0 => .object "DonorParts$Cafe"
  | 1 => .object "DonorParts$Cafe"
  | 2 => .object "DonorParts$Past"
  | 3 => .array (.object "DonorParts$Cafe")
  | _ => .object "DonorParts$Pad"
abbrev wsX60 : List Cond := u_ws RX6 TX6 5
theorem nmX6 : ∀ a, a < 5 → ∀ b, b < 5 → a ≠ b → (TX6 a).2.1 ≠ (TX6 b).2.1 := by decide +kernel
theorem tyX6_ok : ∀ k, k < 5 → parseFieldDescriptor (TX6 k).2.2.1 = some (tyX6 k) := by decide +kernel
abbrev cX6_init : ByteArray := prog_1_method_1_code
def yX6_init : MethodName := ⟨RX6, "<init>", "()V"⟩
abbrev cX6_thing : ByteArray := prog_1_method_2_code
def yX6_thing : MethodName := ⟨RX6, "thing", "(IIII)I"⟩
abbrev cX6_fixer : ByteArray := prog_1_method_3_code
def yX6_fixer : MethodName := ⟨RX6, "fixer", "(II)I"⟩
abbrev cX6_drawer : ByteArray := prog_1_method_4_code
def yX6_drawer : MethodName := ⟨RX6, "drawer", "(II)I"⟩
abbrev cX6_giveUp : ByteArray := prog_1_method_5_code
def yX6_giveUp : MethodName := ⟨RX6, "giveUp", "(I)I"⟩
abbrev cX6_pass : ByteArray := prog_1_method_6_code
def yX6_pass : MethodName := ⟨RX6, "pass", "(I)I"⟩
abbrev cX6_ofThing : ByteArray := prog_1_method_7_code
def yX6_ofThing : MethodName := ⟨RX6, "ofThing", "(II)I"⟩
abbrev cX6_ofFixer : ByteArray := prog_1_method_8_code
def yX6_ofFixer : MethodName := ⟨RX6, "ofFixer", "(II)I"⟩
abbrev cX6_ofPart : ByteArray := prog_1_method_9_code
def yX6_ofPart : MethodName := ⟨RX6, "ofPart", "(II)I"⟩
abbrev cX6_count : ByteArray := prog_1_method_10_code
def yX6_count : MethodName := ⟨RX6, "count", "(I)I"⟩
abbrev cX6_scarcest : ByteArray := prog_1_method_11_code
def yX6_scarcest : MethodName := ⟨RX6, "scarcest", "()I"⟩
abbrev cX6_doneIn : ByteArray := prog_1_method_12_code
def yX6_doneIn : MethodName := ⟨RX6, "doneIn", "(I)I"⟩
abbrev cX6_withFixer : ByteArray := prog_1_method_13_code
def yX6_withFixer : MethodName := ⟨RX6, "withFixer", "(III)I"⟩
abbrev cX6_bestCare : ByteArray := prog_1_method_14_code
def yX6_bestCare : MethodName := ⟨RX6, "bestCare", "(I)I"⟩
abbrev cX6_put : ByteArray := prog_1_method_15_code
def yX6_put : MethodName := ⟨RX6, "put", "(J)I"⟩
abbrev cX6_wipe : ByteArray := prog_1_method_16_code
def yX6_wipe : MethodName := ⟨RX6, "wipe", "()I"⟩
abbrev cX6_fault : ByteArray := prog_1_method_17_code
def yX6_fault : MethodName := ⟨RX6, "fault", "()I"⟩
abbrev cX6_carryOut : ByteArray := prog_1_method_18_code
def yX6_carryOut : MethodName := ⟨RX6, "carryOut", "()I"⟩
abbrev cX6_undo : ByteArray := prog_1_method_19_code
def yX6_undo : MethodName := ⟨RX6, "undo", "()I"⟩
abbrev cX6_save : ByteArray := prog_1_method_20_code
def yX6_save : MethodName := ⟨RX6, "save", "(I)I"⟩
abbrev cX6_restore : ByteArray := prog_1_method_21_code
def yX6_restore : MethodName := ⟨RX6, "restore", "(I)I"⟩
abbrev cX6_kept : ByteArray := prog_1_method_22_code
def yX6_kept : MethodName := ⟨RX6, "kept", "(I)I"⟩
abbrev cX6_repairedWith : ByteArray := prog_1_method_23_code
def yX6_repairedWith : MethodName := ⟨RX6, "repairedWith", "(III)I"⟩
abbrev cX6_carryOrder : ByteArray := prog_1_method_24_code
def yX6_carryOrder : MethodName := ⟨RX6, "carryOrder", "()I"⟩
abbrev cX6_signsIn : ByteArray := prog_1_method_25_code
def yX6_signsIn : MethodName := ⟨RX6, "signsIn", "(J)I"⟩
abbrev cX6_isFixer : ByteArray := prog_1_method_26_code
def yX6_isFixer : MethodName := ⟨RX6, "isFixer", "(II)Z"⟩
abbrev cX6_isWhatIf : ByteArray := prog_1_method_27_code
def yX6_isWhatIf : MethodName := ⟨RX6, "isWhatIf", "(I)Z"⟩
abbrev cX6_isIn : ByteArray := prog_1_method_28_code
def yX6_isIn : MethodName := ⟨RX6, "isIn", "(II)Z"⟩
abbrev cX6_partsOf : ByteArray := prog_1_method_29_code
def yX6_partsOf : MethodName := ⟨RX6, "partsOf", "(I)I"⟩
def RX7 : String := "DonorPartsModel"
def TX7 : u_T := fun k => match k with
  | 0 => ("DonorPartsModel", "thrown", "I", false)
  | 1 => ("DonorPartsModel", "s", "[I", true)
  | 2 => ("DonorPartsModel", "aside", "[I", true)
  | 3 => ("DonorPartsModel", "undos", "[I", true)
  | 4 => ("DonorPartsModel", "undoMany", "I", false)
  | 5 => ("DonorPartsModel", "slots", "[I", true)
  | 6 => ("DonorPartsModel", "hasSlot", "[Z", true)
  | 7 => ("DonorPartsModel", "pad", "[I", true)
  | 8 => ("DonorPartsModel", "length", "I", false)
  | 9 => ("DonorPartsModel", "at", "I", false)
  | 10 => ("DonorPartsModel", "isWell", "Z", false)
  | 11 => ("DonorPartsModel", "orders", "[I", true)
  | _ => ("DonorPartsModel", "orderMany", "I", false)
def tyX7 : Nat → FieldType := fun k => match k with
  | 0 => .int
  | 1 => .array .int
  | 2 => .array .int
  | 3 => .array .int
  | 4 => .int
  | 5 => .array .int
  | 6 => .array .boolean
  | 7 => .array .int
  | 8 => .int
  | 9 => .int
  | 10 => .boolean
  | 11 => .array .int
  | _ => .int
abbrev wsX70 : List Cond := u_ws RX7 TX7 13
theorem nmX7 : ∀ a, a < 13 → ∀ b, b < 13 → a ≠ b → (TX7 a).2.1 ≠ (TX7 b).2.1 := by decide +kernel
theorem tyX7_ok : ∀ k, k < 13 → parseFieldDescriptor (TX7 k).2.2.1 = some (tyX7 k) := by decide +kernel
abbrev cX7_init : ByteArray := prog_9_method_1_code
def yX7_init : MethodName := ⟨RX7, "<init>", "()V"⟩
abbrev cX7_in : ByteArray := prog_9_method_3_code
def yX7_in : MethodName := ⟨RX7, "in", "(III)Z"⟩
abbrev cX7_of : ByteArray := prog_9_method_4_code
def yX7_of : MethodName := ⟨RX7, "of", "(II)I"⟩
abbrev cX7_lay : ByteArray := prog_9_method_5_code
def yX7_lay : MethodName := ⟨RX7, "lay", "(III)V"⟩
abbrev cX7_fixer0 : ByteArray := prog_9_method_6_code
def yX7_fixer0 : MethodName := ⟨RX7, "fixer0", "(II)I"⟩
abbrev cX7_more : ByteArray := prog_9_method_7_code
def yX7_more : MethodName := ⟨RX7, "more", "(II)V"⟩
abbrev cX7_records : ByteArray := prog_9_method_8_code
def yX7_records : MethodName := ⟨RX7, "records", "()V"⟩
abbrev cX7_putAside : ByteArray := prog_9_method_9_code
def yX7_putAside : MethodName := ⟨RX7, "putAside", "()V"⟩
abbrev cX7_takeBack : ByteArray := prog_9_method_10_code
def yX7_takeBack : MethodName := ⟨RX7, "takeBack", "()V"⟩
abbrev cX7_partsOf : ByteArray := prog_9_method_11_code
def yX7_partsOf : MethodName := ⟨RX7, "partsOf", "(I)I"⟩
abbrev cX7_lowest : ByteArray := prog_9_method_12_code
def yX7_lowest : MethodName := ⟨RX7, "lowest", "(I)I"⟩
abbrev cX7_strips : ByteArray := prog_9_method_13_code
def yX7_strips : MethodName := ⟨RX7, "strips", "(I)I"⟩
abbrev cX7_nextFor : ByteArray := prog_9_method_14_code
def yX7_nextFor : MethodName := ⟨RX7, "nextFor", "(I)I"⟩
abbrev cX7_fixerOf : ByteArray := prog_9_method_15_code
def yX7_fixerOf : MethodName := ⟨RX7, "fixerOf", "(I)I"⟩
abbrev cX7_frees : ByteArray := prog_9_method_16_code
def yX7_frees : MethodName := ⟨RX7, "frees", "(I)V"⟩
abbrev cX7_givesUp : ByteArray := prog_9_method_17_code
def yX7_givesUp : MethodName := ⟨RX7, "givesUp", "(II)V"⟩
abbrev cX7_exchanges : ByteArray := prog_9_method_18_code
def yX7_exchanges : MethodName := ⟨RX7, "exchanges", "(I)Z"⟩
abbrev cX7_tests : ByteArray := prog_9_method_19_code
def yX7_tests : MethodName := ⟨RX7, "tests", "(II)Z"⟩
abbrev cX7_works : ByteArray := prog_9_method_20_code
def yX7_works : MethodName := ⟨RX7, "works", "(I)V"⟩
abbrev cX7_takes : ByteArray := prog_9_method_21_code
def yX7_takes : MethodName := ⟨RX7, "takes", "(I)V"⟩
abbrev cX7_minute : ByteArray := prog_9_method_22_code
def yX7_minute : MethodName := ⟨RX7, "minute", "()V"⟩
abbrev cX7_withHow : ByteArray := prog_9_method_23_code
def yX7_withHow : MethodName := ⟨RX7, "withHow", "(I)I"⟩
abbrev cX7_minutes : ByteArray := prog_9_method_24_code
def yX7_minutes : MethodName := ⟨RX7, "minutes", "(I)I"⟩
abbrev cX7_refusesThing : ByteArray := prog_9_method_25_code
def yX7_refusesThing : MethodName := ⟨RX7, "refusesThing", "(IIII)I"⟩
abbrev cX7_comes : ByteArray := prog_9_method_26_code
def yX7_comes : MethodName := ⟨RX7, "comes", "(IIII)I"⟩
abbrev cX7_thing : ByteArray := prog_9_method_27_code
def yX7_thing : MethodName := ⟨RX7, "thing", "(IIII)I"⟩
abbrev cX7_refusesFixer : ByteArray := prog_9_method_28_code
def yX7_refusesFixer : MethodName := ⟨RX7, "refusesFixer", "(II)I"⟩
abbrev cX7_comesFixer : ByteArray := prog_9_method_29_code
def yX7_comesFixer : MethodName := ⟨RX7, "comesFixer", "(II)I"⟩
abbrev cX7_fixer : ByteArray := prog_9_method_30_code
def yX7_fixer : MethodName := ⟨RX7, "fixer", "(II)I"⟩
abbrev cX7_refusesDrawer : ByteArray := prog_9_method_31_code
def yX7_refusesDrawer : MethodName := ⟨RX7, "refusesDrawer", "(II)I"⟩
abbrev cX7_drawer : ByteArray := prog_9_method_32_code
def yX7_drawer : MethodName := ⟨RX7, "drawer", "(II)I"⟩
abbrev cX7_isThing : ByteArray := prog_9_method_33_code
def yX7_isThing : MethodName := ⟨RX7, "isThing", "(I)Z"⟩
abbrev cX7_giveUp : ByteArray := prog_9_method_34_code
def yX7_giveUp : MethodName := ⟨RX7, "giveUp", "(I)I"⟩
abbrev cX7_refusesPass : ByteArray := prog_9_method_35_code
def yX7_refusesPass : MethodName := ⟨RX7, "refusesPass", "(I)I"⟩
abbrev cX7_pass : ByteArray := prog_9_method_36_code
def yX7_pass : MethodName := ⟨RX7, "pass", "(I)I"⟩
abbrev cX7_placeOf : ByteArray := prog_9_method_37_code
def yX7_placeOf : MethodName := ⟨RX7, "placeOf", "(I)I"⟩
abbrev cX7_ofThing : ByteArray := prog_9_method_38_code
def yX7_ofThing : MethodName := ⟨RX7, "ofThing", "(II)I"⟩
abbrev cX7_ofFixer : ByteArray := prog_9_method_39_code
def yX7_ofFixer : MethodName := ⟨RX7, "ofFixer", "(II)I"⟩
abbrev cX7_brokenOnes : ByteArray := prog_9_method_40_code
def yX7_brokenOnes : MethodName := ⟨RX7, "brokenOnes", "(I)I"⟩
abbrev cX7_ofPart : ByteArray := prog_9_method_41_code
def yX7_ofPart : MethodName := ⟨RX7, "ofPart", "(II)I"⟩
abbrev cX7_count : ByteArray := prog_9_method_42_code
def yX7_count : MethodName := ⟨RX7, "count", "(I)I"⟩
abbrev cX7_scarcest : ByteArray := prog_9_method_43_code
def yX7_scarcest : MethodName := ⟨RX7, "scarcest", "()I"⟩
abbrev cX7_doneIn : ByteArray := prog_9_method_44_code
def yX7_doneIn : MethodName := ⟨RX7, "doneIn", "(I)I"⟩
abbrev cX7_repairedWith : ByteArray := prog_9_method_45_code
def yX7_repairedWith : MethodName := ⟨RX7, "repairedWith", "(III)I"⟩
abbrev cX7_withFixer : ByteArray := prog_9_method_46_code
def yX7_withFixer : MethodName := ⟨RX7, "withFixer", "(III)I"⟩
abbrev cX7_bestCare : ByteArray := prog_9_method_47_code
def yX7_bestCare : MethodName := ⟨RX7, "bestCare", "(I)I"⟩
abbrev cX7_put : ByteArray := prog_9_method_48_code
def yX7_put : MethodName := ⟨RX7, "put", "(J)I"⟩
abbrev cX7_wipe : ByteArray := prog_9_method_49_code
def yX7_wipe : MethodName := ⟨RX7, "wipe", "()I"⟩
abbrev cX7_sign : ByteArray := prog_9_method_50_code
def yX7_sign : MethodName := ⟨RX7, "sign", "()I"⟩
abbrev cX7_takesSign : ByteArray := prog_9_method_51_code
def yX7_takesSign : MethodName := ⟨RX7, "takesSign", "(I)Z"⟩
abbrev cX7_digit : ByteArray := prog_9_method_52_code
def yX7_digit : MethodName := ⟨RX7, "digit", "(I)I"⟩
abbrev cX7_digits : ByteArray := prog_9_method_53_code
def yX7_digits : MethodName := ⟨RX7, "digits", "(I)I"⟩
abbrev cX7_number : ByteArray := prog_9_method_54_code
def yX7_number : MethodName := ⟨RX7, "number", "()I"⟩
abbrev cX7_readsOrder : ByteArray := prog_9_method_55_code
def yX7_readsOrder : MethodName := ⟨RX7, "readsOrder", "()V"⟩
abbrev cX7_reads : ByteArray := prog_9_method_56_code
def yX7_reads : MethodName := ⟨RX7, "reads", "()I"⟩
abbrev cX7_fault : ByteArray := prog_9_method_57_code
def yX7_fault : MethodName := ⟨RX7, "fault", "()I"⟩
abbrev cX7_refuses : ByteArray := prog_9_method_58_code
def yX7_refuses : MethodName := ⟨RX7, "refuses", "(I)I"⟩
abbrev cX7_does : ByteArray := prog_9_method_59_code
def yX7_does : MethodName := ⟨RX7, "does", "(I)V"⟩
abbrev cX7_carryOut : ByteArray := prog_9_method_60_code
def yX7_carryOut : MethodName := ⟨RX7, "carryOut", "()I"⟩
abbrev cX7_undo : ByteArray := prog_9_method_61_code
def yX7_undo : MethodName := ⟨RX7, "undo", "()I"⟩
abbrev cX7_save : ByteArray := prog_9_method_62_code
def yX7_save : MethodName := ⟨RX7, "save", "(I)I"⟩
abbrev cX7_restore : ByteArray := prog_9_method_63_code
def yX7_restore : MethodName := ⟨RX7, "restore", "(I)I"⟩
def RJ9 : String := "java/lang/Math"
abbrev cJ9_min_7cf53 : ByteArray := prog_10_method_69_code
def yJ9_min_7cf53 : MethodName := ⟨RJ9, "min", "(II)I"⟩
def RL : String := "DonorPartsLaw"
abbrev cL_law : ByteArray := code
def yL_law : MethodName := ⟨RL, "law", "([I)Z"⟩
abbrev vwCl : List vw_C := [(RX0, TX0, 6), (RX1, TX1, 6), (RX2, TX2, 8), (RX3, TX3, 3), (RX4, TX4, 3), (RX5, TX5, 8), (RX6, TX6, 5), (RX7, TX7, 13)]
end
section
/-! one flat memory: a place is a number (in the order of making), a field or an element a second one; ints and references apart. A world of the kit is read off it. -/
abbrev q_Mth : Type := MethodName × ByteArray × Nat × Option FieldType
abbrev q_Kd : Type := Nat ⊕ (Nat × Nat)
abbrev q_Mem : Type := Nat → Nat → Int32
abbrev q_Sh : Type := Nat × (Nat → q_Kd) × (Nat → Nat → Option Nat)
def q_cv (ad : Nat → Nat) : Value → Value
  | .ref a => .ref (ad a)
  | .int x => .int x
  | .long x => .long x
  | .null => .null
  | v => v
def q_ty : Nat → Nat → FieldType
  | 0 => tyX0
  | 1 => tyX1
  | 2 => tyX2
  | 3 => tyX3
  | 4 => tyX4
  | 5 => tyX5
  | 6 => tyX6
  | _ => tyX7
def q_N : Nat → Nat
  | 0 => 6
  | 1 => 6
  | 2 => 8
  | 3 => 3
  | 4 => 3
  | 5 => 8
  | 6 => 5
  | _ => 13
def q_tys (cA : Nat → ClassId) : List (ClassId × FieldType) := [(cA 0, .int), (cA 1, .boolean), (cA 2, .char), (cA 3, .object RX5), (cA 4, .object RX1), (cA 5, .object RX3), (cA 6, .object RX0)]
def q_isR : FieldType → Bool
  | .object _ => true
  | .array _ => true
  | _ => false
def q_fv (ad : Nat → Nat) (I : q_Mem) (R : Nat → Nat → Option Nat) (l ci k : Nat) : Value := if q_isR (q_ty ci k) = true then va_rf ((R l k).map ad) else .int (I l k)
def q_E (cA : Nat → ClassId) (ad : Nat → Nat) (K : Nat → q_Kd) (R : Nat → Nat → Option Nat) (I : q_Mem) (l : Nat) : va_E := match K l with
  | .inl ci => .inr (ci, (List.range (q_N ci)).map (fun k => q_fv ad I R l ci k))
  | .inr (t, n) => .inl (cA t, n, if t < 3 then .inl (I l) else .inr (.inr (.inr (.inr (fun j => (R l j).map ad)))))
def q_ws (cA : Nat → ClassId) (ad : Nat → Nat) (Sh : q_Sh) (I : q_Mem) : va_W := (List.range Sh.1).map (fun l => (ad l, q_E cA ad Sh.2.1 Sh.2.2 I l))
def q_is (Sh : q_Sh) (l ci : Nat) : Prop := l < Sh.1 ∧ Sh.2.1 l = .inl ci
def q_ar (Sh : q_Sh) (l t n : Nat) : Prop := l < Sh.1 ∧ Sh.2.1 l = .inr (t, n)
def q_upI (I : q_Mem) (l k : Nat) (v : Int32) : q_Mem := fun a b => if a = l ∧ b = k then v else I a b
def q_upR (R : Nat → Nat → Option Nat) (l k : Nat) (v : Option Nat) : Nat → Nat → Option Nat := fun a b => if a = l ∧ b = k then v else R a b
/-- the words that every method's contract asks for -/
def q_WS : List Cond := lw_tbl.filter goodWord
theorem q_mem {w : Cond} (i : Nat) (h : lw_tbl[i]? = some w) (hg : goodWord w = true) : w ∈ q_WS := List.mem_filter.mpr ⟨List.mem_of_getElem? h, hg⟩
def q_ws1 (Y : q_Mth) : List Cond := .code Y.1 Y.2.1 Y.2.2.1 Y.2.2.2 :: q_WS
theorem q_good {Ts : List Cond} (h : ∀ w ∈ q_WS, w ∈ Ts) : GoodIn Ts q_WS := fun w hw => ⟨h w hw, good_of_word (List.mem_filter.mp hw).2⟩
/-- words that warming keeps by laws of their own -/
def q_nl : List Cond := [.methodLinkNest RX0 39 yX5_init RX6, .methodLinkNest RX0 40 yX1_init RX6, .methodLinkNest RX0 41 yX3_init RX6, .methodLinkNest RX6 32 yX2_init RX6, .methodLinkNest RX0 64 yX6_partsOf RX6, .methodLinkNest RX0 72 yX6_isFixer RX6, .methodLinkNest RX0 150 yX6_isIn RX6]
def q_al : List String := [RX0, RX1, RX3, RX5]
def q_ext (U : State) : Prop := (∀ w ∈ q_nl, va_Nw w U) ∧ (∀ C ∈ q_al, va_AO C U)
theorem q_ext_moved {s U : State} (hW : s.WarmedH U.vm) (h : q_ext s) : q_ext U := by
  refine ⟨fun w hw => ?_, fun C hC => (h.2 C hC).moved hW.alike⟩
  have h1 := h.1 w hw
  simp only [q_nl, List.mem_cons, List.not_mem_nil, or_false] at hw
  rcases hw with rfl | rfl | rfl | rfl | rfl | rfl | rfl <;> exact va_Nw.warmM hW h1
theorem q_ext_calling {U : State} (g : JFrame) (mk : MethodId) (a : Array Value) (h : q_ext U) : q_ext (U.calling g mk a) := by
  refine ⟨fun w hw => ?_, fun C hC => (h.2 C hC).moved (Vm.Alike.refl U.vm)⟩
  have h1 := h.1 w hw
  simp only [q_nl, List.mem_cons, List.not_mem_nil, or_false] at hw
  rcases hw with rfl | rfl | rfl | rfl | rfl | rfl | rfl <;> exact va_Nw.same rfl rfl h1
/-! reading and setting a world at a place -/
theorem q_ws_at {cA : Nat → ClassId} {ad : Nat → Nat} {Sh : q_Sh} {I : q_Mem} {l : Nat} (h : l < Sh.1) : (q_ws cA ad Sh I)[l]? = some (ad l, q_E cA ad Sh.2.1 Sh.2.2 I l) := by
  simp [q_ws, h]
theorem q_E_obj {cA : Nat → ClassId} {ad : Nat → Nat} {K : Nat → q_Kd} {R : Nat → Nat → Option Nat} {I : q_Mem} {l ci : Nat} (h : K l = .inl ci) : q_E cA ad K R I l = .inr (ci, (List.range (q_N ci)).map (fun k => q_fv ad I R l ci k)) := by
  unfold q_E; rw [h]
theorem q_E_arr {cA : Nat → ClassId} {ad : Nat → Nat} {K : Nat → q_Kd} {R : Nat → Nat → Option Nat} {I : q_Mem} {l t n : Nat} (h : K l = .inr (t, n)) : q_E cA ad K R I l = .inl (cA t, n, if t < 3 then .inl (I l) else .inr (.inr (.inr (.inr (fun j => (R l j).map ad))))) := by
  unfold q_E; rw [h]
theorem q_fs_at {ad : Nat → Nat} {I : q_Mem} {R : Nat → Nat → Option Nat} {l ci k : Nat} (h : k < q_N ci) : ((List.range (q_N ci)).map (fun k => q_fv ad I R l ci k))[k]? = some (q_fv ad I R l ci k) := by
  simp [h]
theorem q_map_set {α : Type} {n i : Nat} {f g : Nat → α} {x : α} (hx : g i = x) (ho : ∀ j, j ≠ i → g j = f j) : ((List.range n).map f).set i x = (List.range n).map g := by
  apply List.ext_getElem?
  intro j
  rw [List.getElem?_set]
  by_cases hj : i = j
  · subst hj
    by_cases hi : i < n
    · simp [hi, hx]
    · simp [hi]
  · simp [hj]
    by_cases hi : j < n
    · simp [hi, ho j (Ne.symm hj)]
    · simp [hi]
theorem q_E_other {cA : Nat → ClassId} {ad : Nat → Nat} {K : Nat → q_Kd} {R : Nat → Nat → Option Nat} {I : q_Mem} {l k j : Nat} {v : Int32} (h : j ≠ l) : q_E cA ad K R (q_upI I l k v) j = q_E cA ad K R I j := by
  have e : q_upI I l k v j = I j := by funext b; simp [q_upI, h]
  unfold q_E q_fv
  simp only [e]
theorem q_E_otherR {cA : Nat → ClassId} {ad : Nat → Nat} {K : Nat → q_Kd} {R : Nat → Nat → Option Nat} {I : q_Mem} {l k j : Nat} {v : Option Nat} (h : j ≠ l) : q_E cA ad K (q_upR R l k v) I j = q_E cA ad K R I j := by
  have e : q_upR R l k v j = R j := by funext b; simp [q_upR, h]
  unfold q_E q_fv
  simp only [e]
theorem q_ws_put {cA : Nat → ClassId} {ad : Nat → Nat} {Sh : q_Sh} {I : q_Mem} {l ci k : Nat} {v : Int32} (hK : Sh.2.1 l = .inl ci) (hr : q_isR (q_ty ci k) = false) :
    (q_ws cA ad Sh I).set l (ad l, .inr (ci, ((List.range (q_N ci)).map (fun k => q_fv ad I Sh.2.2 l ci k)).set k (.int v))) = q_ws cA ad Sh (q_upI I l k v) := by
  refine q_map_set ?_ (fun j hj => by rw [q_E_other hj])
  rw [q_E_obj hK]
  congr 3
  symm
  refine q_map_set ?_ (fun j hj => ?_)
  · simp [q_fv, hr, q_upI]
  · simp [q_fv, q_upI, hj]
theorem q_ws_putR {cA : Nat → ClassId} {ad : Nat → Nat} {Sh : q_Sh} {I : q_Mem} {l ci k : Nat} {v : Option Nat} (hK : Sh.2.1 l = .inl ci) (hr : q_isR (q_ty ci k) = true) :
    (q_ws cA ad Sh I).set l (ad l, .inr (ci, ((List.range (q_N ci)).map (fun k => q_fv ad I Sh.2.2 l ci k)).set k (va_rf (v.map ad)))) = q_ws cA ad (Sh.1, Sh.2.1, q_upR Sh.2.2 l k v) I := by
  refine q_map_set ?_ (fun j hj => by rw [q_E_otherR hj])
  rw [q_E_obj hK]
  congr 3
  symm
  refine q_map_set ?_ (fun j hj => ?_)
  · simp [q_fv, hr, q_upR]
  · simp [q_fv, q_upR, hj]
theorem q_ws_ast {cA : Nat → ClassId} {ad : Nat → Nat} {Sh : q_Sh} {I : q_Mem} {l t n k : Nat} {v : Int32} (hK : Sh.2.1 l = .inr (t, n)) (ht : t < 3) :
    (q_ws cA ad Sh I).set l (ad l, .inl (cA t, n, .inl (upd (I l) k v))) = q_ws cA ad Sh (q_upI I l k v) := by
  refine q_map_set ?_ (fun j hj => by rw [q_E_other hj])
  have e : upd (I l) k v = q_upI I l k v l := funext fun b => by simp [upd, q_upI]
  rw [q_E_arr hK, if_pos ht, e]
theorem q_ws_astq {cA : Nat → ClassId} {ad : Nat → Nat} {Sh : q_Sh} {I : q_Mem} {l t n k : Nat} {v : Nat} (hK : Sh.2.1 l = .inr (t, n)) (ht : ¬ t < 3) :
    (q_ws cA ad Sh I).set l (ad l, .inl (cA t, n, .inr (.inr (.inr (.inr (va_up (fun j => (Sh.2.2 l j).map ad) k (some (ad v)))))))) = q_ws cA ad (Sh.1, Sh.2.1, q_upR Sh.2.2 l k (some v)) I := by
  refine q_map_set ?_ (fun j hj => by rw [q_E_otherR hj])
  have e : va_up (fun j => (Sh.2.2 l j).map ad) k (some (ad v)) = fun j => (q_upR Sh.2.2 l k (some v) l j).map ad := funext fun b => by
    by_cases hb : b = k
    · simp [va_up, q_upR, hb]
    · simp [va_up, q_upR, hb]
  rw [q_E_arr hK, if_neg ht, e]
/-! where a walk stands -/
abbrev q_Cx : Type := Program × Launch × Env × Room × State × MethodId × Array Value × List Frame × Method × Code × va_G × (Nat → ClassId) × (Nat → Prop) × (State → Prop) × (Nat × Nat) × Nat × (Nat → Nat)
abbrev q_p (Γ : q_Cx) := Γ.1
abbrev q_l (Γ : q_Cx) := Γ.2.1
abbrev q_e (Γ : q_Cx) := Γ.2.2.1
abbrev q_R (Γ : q_Cx) := Γ.2.2.2.1
abbrev q_s (Γ : q_Cx) := Γ.2.2.2.2.1
abbrev q_m (Γ : q_Cx) := Γ.2.2.2.2.2.1
abbrev q_args (Γ : q_Cx) := Γ.2.2.2.2.2.2.1
abbrev q_below (Γ : q_Cx) := Γ.2.2.2.2.2.2.2.1
abbrev q_meth (Γ : q_Cx) := Γ.2.2.2.2.2.2.2.2.1
abbrev q_c (Γ : q_Cx) := Γ.2.2.2.2.2.2.2.2.2.1
abbrev q_D (Γ : q_Cx) := Γ.2.2.2.2.2.2.2.2.2.2.1
abbrev q_cA (Γ : q_Cx) := Γ.2.2.2.2.2.2.2.2.2.2.2.1
abbrev q_A (Γ : q_Cx) := Γ.2.2.2.2.2.2.2.2.2.2.2.2.1
abbrev q_Q (Γ : q_Cx) := Γ.2.2.2.2.2.2.2.2.2.2.2.2.2.1
abbrev q_bud (Γ : q_Cx) := Γ.2.2.2.2.2.2.2.2.2.2.2.2.2.2.1
abbrev q_n0 (Γ : q_Cx) := Γ.2.2.2.2.2.2.2.2.2.2.2.2.2.2.2.1
abbrev q_ad0 (Γ : q_Cx) := Γ.2.2.2.2.2.2.2.2.2.2.2.2.2.2.2.2
/-- the addresses of what was there at the start stay; nothing made: all stay -/
def q_grow (n0 : Nat) (ad0 : Nat → Nat) (n : Nat) (ad : Nat → Nat) : Prop := n0 ≤ n ∧ (∀ l, l < n0 → ad l = ad0 l) ∧ (n = n0 → ad = ad0)
theorem q_grow_rf {n : Nat} {ad : Nat → Nat} : q_grow n ad n ad := ⟨Nat.le_refl _, fun _ _ => rfl, fun _ => rfl⟩
theorem q_grow_tr {n0 n1 n2 : Nat} {a0 a1 a2 : Nat → Nat} (h : q_grow n0 a0 n1 a1) (k : q_grow n1 a1 n2 a2) : q_grow n0 a0 n2 a2 :=
  ⟨Nat.le_trans h.1 k.1, fun l hl => (k.2.1 l (Nat.lt_of_lt_of_le hl h.1)).trans (h.2.1 l hl), fun e => by
    have e1 : n1 = n0 := Nat.le_antisymm (e ▸ k.1) h.1
    exact (k.2.2 (e.trans e1.symm)).trans (h.2.2 e1)⟩
def q_lvm (ad : Nat → Nat) (lv : List (Nat × Value)) : List (Nat × Value) := lv.map (fun q => (q.1, q_cv ad q.2))
def q_W (Γ : q_Cx) (Y : q_Mth) (rc rs : Nat) (Sh : q_Sh) (I : q_Mem) (pc : Nat) (lv : List (Nat × Value)) (st : List Value) : Prop :=
  ∀ (ad : Nat → Nat) (H : Heap) (locs : List Loc) (cells slots : Nat) (ls : Array Slot),
    cells + rc ≤ (q_bud Γ).1 → slots + rs ≤ (q_bud Γ).2 →
    va_P (q_D Γ) vwCl (q_ws (q_cA Γ) ad Sh I) H → va_D (q_A Γ) (q_ws (q_cA Γ) ad Sh I) → va_S (q_A Γ) (q_s Γ).heap H locs →
    q_grow (q_n0 Γ) (q_ad0 Γ) Sh.1 ad → lv_has ls Y.2.2.1 (q_lvm ad lv) →
    W (q_p Γ) (q_l Γ) (q_e Γ) (q_R Γ) (q_s Γ) (q_m Γ) (q_args Γ) (q_below Γ) (q_meth Γ) (q_c Γ) H locs cells slots (q_Q Γ) (F0 (q_m Γ) pc ls (st.map (q_cv ad)))
def q_Ok (Γ : q_Cx) (Y : q_Mth) (d : Nat) : Prop :=
  (q_p Γ).tables.exec = Jvm.exec ∧ (q_c Γ).code = Y.2.1 ∧ (q_c Γ).maxLocals = Y.2.2.1 ∧ (q_s Γ).vm.findClass Y.1.cls = some (q_m Γ).cls ∧ (∀ w ∈ q_WS, w.before (q_args Γ) (q_s Γ) = true) ∧
  (q_meth Γ).locks = false ∧ va_K (q_D Γ) vwCl (q_tys (q_cA Γ)) (q_s Γ) ∧ (∀ q : Nat, (q_s Γ).heap.size ≤ q → q_A Γ q) ∧ q_ext (q_s Γ) ∧ ((q_bud Γ).1 ≤ (q_R Γ).cells ∧ (q_bud Γ).2 ≤ (q_R Γ).slots) ∧
  (q_meth Γ).name = Y.1.name ∧ d ≤ (q_R Γ).frames ∧ 30 * d ≤ (q_R Γ).locals
/-- a method's end -/
def q_Qc (D : va_G) (cA : Nat → ClassId) (n0 : Nat) (ad0 : Nat → Nat) (K : Option Value → q_Sh → q_Mem → Prop) (A : Nat → Prop) : Array Value → State → Outcome → State → Prop := fun _ st oc t =>
  (∃ (v : Option Value) (Sh : q_Sh) (I : q_Mem) (ad : Nat → Nat), oc = .returned (v.map (q_cv ad)) ∧ K v Sh I ∧ q_grow n0 ad0 Sh.1 ad ∧ va_P D vwCl (q_ws cA ad Sh I) t.heap ∧ va_D A (q_ws cA ad Sh I)) ∧ va_F A st t
def q_rm (d mc ms : Nat) : Room := { frames := d, cells := mc, slots := ms, locals := 30 * d }
def q_Pc (D : va_G) (cA : Nat → ClassId) (ad : Nat → Nat) (sz : Nat) (args : List Value) (Sh : q_Sh) (I : q_Mem) : Array Value → State → Prop :=
  va_Pc (args.map (q_cv ad)) (fun U => U.heap.size = sz ∧ va_P D vwCl (q_ws cA ad Sh I) U.heap ∧ va_K D vwCl (q_tys cA) U ∧ va_D (fun _ => True) (q_ws cA ad Sh I) ∧ q_ext U)
/-- method Y, called with args in the memory (Sh, I), returns, and K holds of its answer and the memory then; at most d frames, mc cells, ms slots -/
def q_Call (Y : q_Mth) (d mc ms : Nat) (args : List Value) (Sh : q_Sh) (I : q_Mem) (K : Option Value → q_Sh → q_Mem → Prop) : Prop :=
  ∀ (l : Launch) (D : va_G) (cA : Nat → ClassId) (ad : Nat → Nat) (sz : Nat),
    Met l Y.1 (q_ws1 Y) (q_rm d mc ms) (q_Pc D cA ad sz args Sh I) (q_Qc D cA Sh.1 ad K (va_A (q_ws cA ad Sh I) sz)) mc ms (va_A (q_ws cA ad Sh I) sz)
def q_OkM (Γ : q_Cx) (Y : q_Mth) (d : Nat) (K : Option Value → q_Sh → q_Mem → Prop) : Prop :=
  q_Ok Γ Y d ∧ (q_meth Γ).sig.returnType = Y.2.2.2 ∧ q_Q Γ = MQ (q_below Γ) (q_Qc (q_D Γ) (q_cA Γ) (q_n0 Γ) (q_ad0 Γ) K (q_A Γ)) (q_args Γ) (q_s Γ) (q_bud Γ).1 (q_bud Γ).2 (q_A Γ)
theorem q_sl_len (ad : Nat → Nat) (vs : List Value) : (lg_sl (vs.map (q_cv ad))).length = (lg_sl vs).length := by
  induction vs with
  | nil => rfl
  | cons v t ih =>
    have hc : (q_cv ad v).category = v.category := by cases v <;> rfl
    simp only [lg_sl, List.map_cons, List.flatMap_cons, List.length_append] at ih ⊢
    rw [ih, hc]
    by_cases h : v.category = 2 <;> simp [h]
theorem q_cat (ad : Nat → Nat) (v : Value) : (q_cv ad v).category = v.category := by cases v <;> rfl
theorem q_args_map (ad : Nat → Nat) (vs : List Value) : ∀ i, lv_args i (vs.map (q_cv ad)) = q_lvm ad (lv_args i vs) := by
  induction vs with
  | nil => intro i; rfl
  | cons v t ih =>
    intro i
    simp only [List.map_cons, lv_args, q_lvm, q_cat] at ih ⊢
    rw [ih]
/-- a method's contract out of its walk -/
theorem q_call_of {Y : q_Mth} {d mc ms : Nat} {args : List Value} {Sh : q_Sh} {I : q_Mem} {K : Option Value → q_Sh → q_Mem → Prop} (hy : plainName Y.1.cls = true) (hn : (lg_sl args).length ≤ Y.2.2.1)
    (body : ∀ Γ : q_Cx, q_OkM Γ Y d K → q_W Γ Y mc ms Sh I 0 (lv_args 0 args) []) : q_Call Y d mc ms args Sh I K := by
  intro l D cA ad sz
  refine Met.ofW (cc := Y.2.1) (maxL := Y.2.2.1) (ret := Y.2.2.2) hy rfl ?_
  intro p e s m as below meth c s₁ B hml hv
  obtain ⟨rfl, hsz, hP, hK, hD0, hE⟩ := hv
  have hts0 := atoms_spec (ws := q_ws1 Y) B.pre
  have hown : s.vm.findClass Y.1.cls = some m.cls := findClass_of_methodNamed B.named
  have hin : meth.name = Y.1.name := (name_of_methodNamed B.named B.method).1
  subst hsz
  have hD := hD0.self (sz := s.heap.size)
  have h := body (p, l, e, q_rm d mc ms, s, m, (args.map (q_cv ad)).toArray, below, meth, c, D, cA, va_A (q_ws cA ad Sh I) s.heap.size, MQ below (q_Qc D cA Sh.1 ad K (va_A (q_ws cA ad Sh I) s.heap.size)) (args.map (q_cv ad)).toArray s mc ms (va_A (q_ws cA ad Sh I) s.heap.size), (mc, ms), Sh.1, ad)
    ⟨⟨B.exec, B.bytes, hml, hown, fun w hw => hts0 w (List.mem_cons_of_mem _ hw), B.notSynchronized, hK, fun q hq => Or.inr hq, hE, ⟨Nat.le_refl _, Nat.le_refl _⟩, hin, Nat.le_refl _, Nat.le_refl _⟩, B.returns, rfl⟩
  have hl := lv_entry (args.map (q_cv ad)) (n := Y.2.2.1) (by rw [q_sl_len]; exact hn)
  rw [lg_entry_eq]
  rw [q_args_map] at hl
  exact h ad s.heap [] 0 0 _ (by simp) (by simp) hP hD va_S.rf q_grow_rf hl
theorem q_call_mono {Y : q_Mth} {d mc ms : Nat} {args : List Value} {Sh : q_Sh} {I : q_Mem} {K K' : Option Value → q_Sh → q_Mem → Prop} (h : q_Call Y d mc ms args Sh I K) (hk : ∀ v Sh' I', K v Sh' I' → K' v Sh' I') : q_Call Y d mc ms args Sh I K' := by
  intro l D cA ad sz p e ha hc hk2 s m as below hf happ hp ht
  obtain ⟨k, o, h1, h2, h3, h4⟩ := h l D cA ad sz p e ha hc hk2 s m as below hf happ hp ht
  refine ⟨k, o, h1, h2, h3, ?_⟩
  obtain ⟨⟨⟨v, Sh', I', ad', g1, g2, g3⟩, g4⟩, g5⟩ := h4
  exact ⟨⟨⟨v, Sh', I', ad', g1, hk _ _ _ g2, g3⟩, g4⟩, g5⟩

section QROWS
variable {K0 : Option Value → q_Sh → q_Mem → Prop} {Γ : q_Cx} {Y : q_Mth} {d rc rs : Nat} {Sh : q_Sh} {I : q_Mem} {pc : Nat} {lv : List (Nat × Value)} {st : List Value}
/-! locals: looked up and set by computing -/
def q_lk : List (Nat × Value) → Nat → Option Value
  | [], _ => none
  | (j, v) :: t, i => bif Nat.beq j i then some v else q_lk t i
def q_rm1 : List (Nat × Value) → Nat → List (Nat × Value)
  | [], _ => []
  | (j, v) :: t, i => bif Nat.beq j i then q_rm1 t i else (j, v) :: q_rm1 t i
def q_set (lv : List (Nat × Value)) (i : Nat) (v : Value) : List (Nat × Value) := (i, v) :: q_rm1 lv i
theorem q_lk_mem {lv : List (Nat × Value)} {i : Nat} {v : Value} (h : q_lk lv i = some v) : (i, v) ∈ lv := by
  induction lv with
  | nil => cases h
  | cons a t ih =>
    obtain ⟨j, w⟩ := a
    unfold q_lk at h
    cases hb : Nat.beq j i with
    | true =>
      rw [hb] at h
      have e : j = i := Nat.eq_of_beq_eq_true hb
      subst e
      cases h
      exact List.mem_cons_self
    | false =>
      rw [hb] at h
      exact List.mem_cons_of_mem _ (ih h)
theorem q_lk_at {ad : Nat → Nat} {ls : Array Slot} {nL : Nat} {lv : List (Nat × Value)} {i : Nat} {v : Value} (hl : lv_has ls nL (q_lvm ad lv)) (h : q_lk lv i = some v) : ls[i]? = some (.val (q_cv ad v)) :=
  hl.2.2 (i, q_cv ad v) (List.mem_map.mpr ⟨(i, v), q_lk_mem h, rfl⟩)
theorem q_rm1_mem {lv : List (Nat × Value)} {i : Nat} {q : Nat × Value} (h : q ∈ q_rm1 lv i) : q ∈ lv ∧ q.1 ≠ i := by
  induction lv with
  | nil => cases h
  | cons a t ih =>
    obtain ⟨j, w⟩ := a
    unfold q_rm1 at h
    cases hb : Nat.beq j i with
    | true =>
      rw [hb] at h
      exact ⟨List.mem_cons_of_mem _ (ih h).1, (ih h).2⟩
    | false =>
      rw [hb] at h
      rcases List.mem_cons.mp h with e | h
      · subst e
        exact ⟨List.mem_cons_self, fun e => by simp at e; subst e; simp at hb⟩
      · exact ⟨List.mem_cons_of_mem _ (ih h).1, (ih h).2⟩
/-- no long stands at the place in front -/
def q_fr (lv : List (Nat × Value)) (i : Nat) : Bool := lv.all (fun q => !(Nat.beq (q.1 + 1) i && Nat.beq q.2.category 2))
theorem q_has_set {ad : Nat → Nat} {ls : Array Slot} {nL : Nat} {lv : List (Nat × Value)} {i : Nat} {v : Value} (h : lv_has ls nL ((i, q_cv ad v) :: (q_lvm ad lv).filter (fun q => !(q.1 == i) && !(q.1 + 1 == i && q.2.category == 2)))) (hf : q_fr lv i = true) : lv_has ls nL (q_lvm ad (q_set lv i v)) := by
  refine ⟨h.1, h.2.1, fun q hq => h.2.2 q ?_⟩
  obtain ⟨r, hr, rfl⟩ := List.mem_map.mp hq
  rcases List.mem_cons.mp hr with rfl | hr
  · exact List.mem_cons_self
  · obtain ⟨h1, h2⟩ := q_rm1_mem hr
    refine List.mem_cons_of_mem _ (List.mem_filter.mpr ⟨List.mem_map.mpr ⟨r, h1, rfl⟩, ?_⟩)
    have h3 := List.all_eq_true.mp hf r h1
    simp only [q_cat]
    simp only [Bool.not_eq_true', Bool.and_eq_false_iff] at h3
    have e1 : (r.1 == i) = false := by simpa using h2
    rw [e1]
    rcases h3 with h3 | h3
    · have : (r.1 + 1 == i) = false := by
        cases hx : (r.1 + 1 == i) with
        | false => rfl
        | true =>
          have e := eq_of_beq hx
          rw [e] at h3
          simp at h3
      rw [this]; rfl
    · have : (r.2.category == 2) = false := by
        cases hx : (r.2.category == 2) with
        | false => rfl
        | true =>
          have e := eq_of_beq hx
          rw [e] at h3
          simp at h3
      rw [this]; simp
theorem q_lv_exact {ad : Nat → Nat} {ls : Array Slot} {nL : Nat} {lv : List (Nat × Value)} (h : lv_has ls nL (q_lvm ad lv)) : ls.size = nL := h.1
/-! the same place: other locals by computing, other memory by an equality -/
theorem q_lvto {lv' : List (Nat × Value)} (h : lv'.all (fun q => (q_lk lv q.1).isSome) = true) (he : ∀ q ∈ lv', q_lk lv q.1 = some q.2) (k : q_W Γ Y rc rs Sh I pc lv' st) : q_W Γ Y rc rs Sh I pc lv st := by
  intro ad H locs cells slots ls h1 h2 hP hD hS hn hl
  refine k ad H locs cells slots ls h1 h2 hP hD hS hn ⟨hl.1, hl.2.1, fun q hq => ?_⟩
  obtain ⟨r, hr, rfl⟩ := List.mem_map.mp hq
  exact q_lk_at hl (he r hr)

theorem q_iconst (B : q_Ok Γ Y d) {n : Int} {v : Int32} (hd : decode Y.2.1 pc = .ok (.iconst n, 1)) (hv : Int32.ofInt n = v) (k : q_W Γ Y rc rs Sh I (pc + 1) lv (.int v :: st)) : q_W Γ Y rc rs Sh I pc lv (st) := by
  intro ad H locs cells slots ls h1 h2 hP hD hS hn hl
  exact lv_iconst B.1 B.2.1 hd hv (k ad H locs cells slots ls h1 h2 hP hD hS hn hl)
theorem q_bipush (B : q_Ok Γ Y d) {n : Int} {v : Int32} (hd : decode Y.2.1 pc = .ok (.bipush n, 2)) (hv : (Int8.ofInt n).toInt32 = v) (k : q_W Γ Y rc rs Sh I (pc + 2) lv (.int v :: st)) : q_W Γ Y rc rs Sh I pc lv (st) := by
  intro ad H locs cells slots ls h1 h2 hP hD hS hn hl
  exact lv_bipush B.1 B.2.1 hd hv (k ad H locs cells slots ls h1 h2 hP hD hS hn hl)
theorem q_sipush (B : q_Ok Γ Y d) {n : Int} {v : Int32} (hd : decode Y.2.1 pc = .ok (.sipush n, 3)) (hv : (Int16.ofInt n).toInt32 = v) (k : q_W Γ Y rc rs Sh I (pc + 3) lv (.int v :: st)) : q_W Γ Y rc rs Sh I pc lv (st) := by
  intro ad H locs cells slots ls h1 h2 hP hD hS hn hl
  exact lv_sipush B.1 B.2.1 hd hv (k ad H locs cells slots ls h1 h2 hP hD hS hn hl)
theorem q_lconst (B : q_Ok Γ Y d) {n : Fin 2} {v : Int64} (hd : decode Y.2.1 pc = .ok (.lconst n, 1)) (hv : Int64.ofNat (n : Nat) = v) (k : q_W Γ Y rc rs Sh I (pc + 1) lv (.long v :: st)) : q_W Γ Y rc rs Sh I pc lv (st) := by
  intro ad H locs cells slots ls h1 h2 hP hD hS hn hl
  exact lv_lconst B.1 B.2.1 hd hv (k ad H locs cells slots ls h1 h2 hP hD hS hn hl)
theorem q_null (B : q_Ok Γ Y d) (hd : decode Y.2.1 pc = .ok (.aconst_null, 1)) (k : q_W Γ Y rc rs Sh I (pc + 1) lv (.null :: st)) : q_W Γ Y rc rs Sh I pc lv (st) := by
  intro ad H locs cells slots ls h1 h2 hP hD hS hn hl
  exact lv_null B.1 B.2.1 hd (k ad H locs cells slots ls h1 h2 hP hD hS hn hl)
theorem q_iload_n (B : q_Ok Γ Y d) {j : Fin 4} {i : Nat} {x : Int32} (hd : decode Y.2.1 pc = .ok (.iload_n j, 1)) (hi : (j : Nat) = i) (hx : q_lk lv i = some (.int x)) (k : q_W Γ Y rc rs Sh I (pc + 1) lv (.int x :: st)) : q_W Γ Y rc rs Sh I pc lv (st) := by
  intro ad H locs cells slots ls h1 h2 hP hD hS hn hl
  exact lv_iload_n B.1 B.2.1 hd hi (q_lk_at hl hx) (k ad H locs cells slots ls h1 h2 hP hD hS hn hl)
theorem q_iload (B : q_Ok Γ Y d) {i : Nat} {x : Int32} (hd : decode Y.2.1 pc = .ok (.iload i, 2)) (hx : q_lk lv i = some (.int x)) (k : q_W Γ Y rc rs Sh I (pc + 2) lv (.int x :: st)) : q_W Γ Y rc rs Sh I pc lv (st) := by
  intro ad H locs cells slots ls h1 h2 hP hD hS hn hl
  exact lv_iload B.1 B.2.1 hd (q_lk_at hl hx) (k ad H locs cells slots ls h1 h2 hP hD hS hn hl)
theorem q_lload_n (B : q_Ok Γ Y d) {j : Fin 4} {i : Nat} {x : Int64} (hd : decode Y.2.1 pc = .ok (.lload_n j, 1)) (hi : (j : Nat) = i) (hx : q_lk lv i = some (.long x)) (k : q_W Γ Y rc rs Sh I (pc + 1) lv (.long x :: st)) : q_W Γ Y rc rs Sh I pc lv (st) := by
  intro ad H locs cells slots ls h1 h2 hP hD hS hn hl
  exact lv_lload_n B.1 B.2.1 hd hi (q_lk_at hl hx) (k ad H locs cells slots ls h1 h2 hP hD hS hn hl)
theorem q_lload (B : q_Ok Γ Y d) {i : Nat} {x : Int64} (hd : decode Y.2.1 pc = .ok (.lload i, 2)) (hx : q_lk lv i = some (.long x)) (k : q_W Γ Y rc rs Sh I (pc + 2) lv (.long x :: st)) : q_W Γ Y rc rs Sh I pc lv (st) := by
  intro ad H locs cells slots ls h1 h2 hP hD hS hn hl
  exact lv_lload B.1 B.2.1 hd (q_lk_at hl hx) (k ad H locs cells slots ls h1 h2 hP hD hS hn hl)
theorem q_aload_n (B : q_Ok Γ Y d) {j : Fin 4} {i : Nat} {x : Nat} (hd : decode Y.2.1 pc = .ok (.aload_n j, 1)) (hi : (j : Nat) = i) (hx : q_lk lv i = some (.ref x)) (k : q_W Γ Y rc rs Sh I (pc + 1) lv (.ref x :: st)) : q_W Γ Y rc rs Sh I pc lv (st) := by
  intro ad H locs cells slots ls h1 h2 hP hD hS hn hl
  exact lv_aload_n B.1 B.2.1 hd hi (q_lk_at hl hx) (k ad H locs cells slots ls h1 h2 hP hD hS hn hl)
theorem q_aload (B : q_Ok Γ Y d) {i : Nat} {x : Nat} (hd : decode Y.2.1 pc = .ok (.aload i, 2)) (hx : q_lk lv i = some (.ref x)) (k : q_W Γ Y rc rs Sh I (pc + 2) lv (.ref x :: st)) : q_W Γ Y rc rs Sh I pc lv (st) := by
  intro ad H locs cells slots ls h1 h2 hP hD hS hn hl
  exact lv_aload B.1 B.2.1 hd (q_lk_at hl hx) (k ad H locs cells slots ls h1 h2 hP hD hS hn hl)
theorem q_aloadN_n (B : q_Ok Γ Y d) {j : Fin 4} {i : Nat} (hd : decode Y.2.1 pc = .ok (.aload_n j, 1)) (hi : (j : Nat) = i) (hx : q_lk lv i = some .null) (k : q_W Γ Y rc rs Sh I (pc + 1) lv (.null :: st)) : q_W Γ Y rc rs Sh I pc lv st := by
  subst hi
  intro ad H locs cells slots ls h1 h2 hP hD hS hn hl
  have hg := q_lk_at hl hx
  have k2 := (k ad H locs cells slots ls h1 h2 hP hD hS hn hl)
  intro T hT X
  obtain ⟨t, a, b⟩ := k2 T hT X
  refine ⟨t, ?_, b⟩
  have hb := B.2.1
  have hexec := B.1
  simp only [q_cv] at hg
  jvm_step X.here [X.here.top, hexec, hb, hd, hg]
  exact ⟨rfl, a⟩
theorem q_aloadN (B : q_Ok Γ Y d) {i : Nat} (hd : decode Y.2.1 pc = .ok (.aload i, 2)) (hx : q_lk lv i = some .null) (k : q_W Γ Y rc rs Sh I (pc + 2) lv (.null :: st)) : q_W Γ Y rc rs Sh I pc lv st := by
  intro ad H locs cells slots ls h1 h2 hP hD hS hn hl
  have hg := q_lk_at hl hx
  have k2 := (k ad H locs cells slots ls h1 h2 hP hD hS hn hl)
  intro T hT X
  obtain ⟨t, a, b⟩ := k2 T hT X
  refine ⟨t, ?_, b⟩
  have hb := B.2.1
  have hexec := B.1
  simp only [q_cv] at hg
  jvm_step X.here [X.here.top, hexec, hb, hd, hg]
  exact ⟨rfl, a⟩
theorem q_iadd (B : q_Ok Γ Y d) {x y : Int32} (hd : decode Y.2.1 pc = .ok (.iadd, 1)) (k : q_W Γ Y rc rs Sh I (pc + 1) lv (.int (x + y) :: st)) : q_W Γ Y rc rs Sh I pc lv (.int y :: .int x :: st) := by
  intro ad H locs cells slots ls h1 h2 hP hD hS hn hl
  exact lv_iadd B.1 B.2.1 hd (k ad H locs cells slots ls h1 h2 hP hD hS hn hl)
theorem q_isub (B : q_Ok Γ Y d) {x y : Int32} (hd : decode Y.2.1 pc = .ok (.isub, 1)) (k : q_W Γ Y rc rs Sh I (pc + 1) lv (.int (x - y) :: st)) : q_W Γ Y rc rs Sh I pc lv (.int y :: .int x :: st) := by
  intro ad H locs cells slots ls h1 h2 hP hD hS hn hl
  exact lv_isub B.1 B.2.1 hd (k ad H locs cells slots ls h1 h2 hP hD hS hn hl)
theorem q_imul (B : q_Ok Γ Y d) {x y : Int32} (hd : decode Y.2.1 pc = .ok (.imul, 1)) (k : q_W Γ Y rc rs Sh I (pc + 1) lv (.int (x * y) :: st)) : q_W Γ Y rc rs Sh I pc lv (.int y :: .int x :: st) := by
  intro ad H locs cells slots ls h1 h2 hP hD hS hn hl
  exact lv_imul B.1 B.2.1 hd (k ad H locs cells slots ls h1 h2 hP hD hS hn hl)
theorem q_iand (B : q_Ok Γ Y d) {x y : Int32} (hd : decode Y.2.1 pc = .ok (.iand, 1)) (k : q_W Γ Y rc rs Sh I (pc + 1) lv (.int (x &&& y) :: st)) : q_W Γ Y rc rs Sh I pc lv (.int y :: .int x :: st) := by
  intro ad H locs cells slots ls h1 h2 hP hD hS hn hl
  exact lv_iand B.1 B.2.1 hd (k ad H locs cells slots ls h1 h2 hP hD hS hn hl)
theorem q_ior (B : q_Ok Γ Y d) {x y : Int32} (hd : decode Y.2.1 pc = .ok (.ior, 1)) (k : q_W Γ Y rc rs Sh I (pc + 1) lv (.int (x ||| y) :: st)) : q_W Γ Y rc rs Sh I pc lv (.int y :: .int x :: st) := by
  intro ad H locs cells slots ls h1 h2 hP hD hS hn hl
  exact lv_ior B.1 B.2.1 hd (k ad H locs cells slots ls h1 h2 hP hD hS hn hl)
theorem q_ixor (B : q_Ok Γ Y d) {x y : Int32} (hd : decode Y.2.1 pc = .ok (.ixor, 1)) (k : q_W Γ Y rc rs Sh I (pc + 1) lv (.int (x ^^^ y) :: st)) : q_W Γ Y rc rs Sh I pc lv (.int y :: .int x :: st) := by
  intro ad H locs cells slots ls h1 h2 hP hD hS hn hl
  exact lv_ixor B.1 B.2.1 hd (k ad H locs cells slots ls h1 h2 hP hD hS hn hl)
theorem q_land (B : q_Ok Γ Y d) {x y : Int64} (hd : decode Y.2.1 pc = .ok (.land, 1)) (k : q_W Γ Y rc rs Sh I (pc + 1) lv (.long (x &&& y) :: st)) : q_W Γ Y rc rs Sh I pc lv (.long y :: .long x :: st) := by
  intro ad H locs cells slots ls h1 h2 hP hD hS hn hl
  exact lv_land B.1 B.2.1 hd (k ad H locs cells slots ls h1 h2 hP hD hS hn hl)
theorem q_lor (B : q_Ok Γ Y d) {x y : Int64} (hd : decode Y.2.1 pc = .ok (.lor, 1)) (k : q_W Γ Y rc rs Sh I (pc + 1) lv (.long (x ||| y) :: st)) : q_W Γ Y rc rs Sh I pc lv (.long y :: .long x :: st) := by
  intro ad H locs cells slots ls h1 h2 hP hD hS hn hl
  exact lv_lor B.1 B.2.1 hd (k ad H locs cells slots ls h1 h2 hP hD hS hn hl)
theorem q_irem (B : q_Ok Γ Y d) {x y : Int32} (hd : decode Y.2.1 pc = .ok (.irem, 1)) (hne : ¬ y = 0) (k : q_W Γ Y rc rs Sh I (pc + 1) lv (.int (x - x / y * y) :: st)) : q_W Γ Y rc rs Sh I pc lv (.int y :: .int x :: st) := by
  intro ad H locs cells slots ls h1 h2 hP hD hS hn hl
  exact lv_irem B.1 B.2.1 hd hne (k ad H locs cells slots ls h1 h2 hP hD hS hn hl)
theorem q_ishl (B : q_Ok Γ Y d) {x y : Int32} (hd : decode Y.2.1 pc = .ok (.ishl, 1)) (k : q_W Γ Y rc rs Sh I (pc + 1) lv (.int (x <<< (y &&& 31)) :: st)) : q_W Γ Y rc rs Sh I pc lv (.int y :: .int x :: st) := by
  intro ad H locs cells slots ls h1 h2 hP hD hS hn hl
  exact lv_ishl B.1 B.2.1 hd (k ad H locs cells slots ls h1 h2 hP hD hS hn hl)
theorem q_ishr (B : q_Ok Γ Y d) {x y : Int32} (hd : decode Y.2.1 pc = .ok (.ishr, 1)) (k : q_W Γ Y rc rs Sh I (pc + 1) lv (.int (x >>> (y &&& 31)) :: st)) : q_W Γ Y rc rs Sh I pc lv (.int y :: .int x :: st) := by
  intro ad H locs cells slots ls h1 h2 hP hD hS hn hl
  exact lv_ishr B.1 B.2.1 hd (k ad H locs cells slots ls h1 h2 hP hD hS hn hl)
theorem q_lshl (B : q_Ok Γ Y d) {x : Int64} {y : Int32} (hd : decode Y.2.1 pc = .ok (.lshl, 1)) (k : q_W Γ Y rc rs Sh I (pc + 1) lv (.long (x <<< (y.toInt64 &&& 63)) :: st)) : q_W Γ Y rc rs Sh I pc lv (.int y :: .long x :: st) := by
  intro ad H locs cells slots ls h1 h2 hP hD hS hn hl
  exact lv_lshl B.1 B.2.1 hd rfl (k ad H locs cells slots ls h1 h2 hP hD hS hn hl)
theorem q_lushr (B : q_Ok Γ Y d) {x : Int64} {y : Int32} (hd : decode Y.2.1 pc = .ok (.lushr, 1)) (k : q_W Γ Y rc rs Sh I (pc + 1) lv (.long ((x.toUInt64 >>> (y.toInt64.toUInt64 &&& Int64.toUInt64 63)).toInt64) :: st)) : q_W Γ Y rc rs Sh I pc lv (.int y :: .long x :: st) := by
  intro ad H locs cells slots ls h1 h2 hP hD hS hn hl
  exact lv_lushr B.1 B.2.1 hd rfl (k ad H locs cells slots ls h1 h2 hP hD hS hn hl)
theorem q_i2l (B : q_Ok Γ Y d) {x : Int32} (hd : decode Y.2.1 pc = .ok (.i2l, 1)) (k : q_W Γ Y rc rs Sh I (pc + 1) lv (.long x.toInt64 :: st)) : q_W Γ Y rc rs Sh I pc lv (.int x :: st) := by
  intro ad H locs cells slots ls h1 h2 hP hD hS hn hl
  exact lv_i2l B.1 B.2.1 hd rfl (k ad H locs cells slots ls h1 h2 hP hD hS hn hl)
theorem q_l2i (B : q_Ok Γ Y d) {x : Int64} (hd : decode Y.2.1 pc = .ok (.l2i, 1)) (k : q_W Γ Y rc rs Sh I (pc + 1) lv (.int x.toInt32 :: st)) : q_W Γ Y rc rs Sh I pc lv (.long x :: st) := by
  intro ad H locs cells slots ls h1 h2 hP hD hS hn hl
  exact lv_l2i B.1 B.2.1 hd rfl (k ad H locs cells slots ls h1 h2 hP hD hS hn hl)
theorem q_i2c (B : q_Ok Γ Y d) {x : Int32} (hd : decode Y.2.1 pc = .ok (.i2c, 1)) (k : q_W Γ Y rc rs Sh I (pc + 1) lv (.int ((x.toUInt32 % 65536).toInt32) :: st)) : q_W Γ Y rc rs Sh I pc lv (.int x :: st) := by
  intro ad H locs cells slots ls h1 h2 hP hD hS hn hl
  exact lv_i2c B.1 B.2.1 hd rfl (k ad H locs cells slots ls h1 h2 hP hD hS hn hl)
theorem q_lcmp (B : q_Ok Γ Y d) {x y : Int64} (hd : decode Y.2.1 pc = .ok (.lcmp, 1)) (k : q_W Γ Y rc rs Sh I (pc + 1) lv (.int (lg_cmp x y) :: st)) : q_W Γ Y rc rs Sh I pc lv (.long y :: .long x :: st) := by
  intro ad H locs cells slots ls h1 h2 hP hD hS hn hl
  exact W.lcmp B.1 B.2.1 hd (k ad H locs cells slots ls h1 h2 hP hD hS hn hl)
theorem q_dup (B : q_Ok Γ Y d) {va : Value} (hd : decode Y.2.1 pc = .ok (.dup, 1)) (hv : va.category = 1) (k : q_W Γ Y rc rs Sh I (pc + 1) lv (va :: va :: st)) : q_W Γ Y rc rs Sh I pc lv (va :: st) := by
  intro ad H locs cells slots ls h1 h2 hP hD hS hn hl
  exact lv_dup B.1 B.2.1 hd ((q_cat ad va).trans hv) (k ad H locs cells slots ls h1 h2 hP hD hS hn hl)
theorem q_dup2 (B : q_Ok Γ Y d) {va vb : Value} (hd : decode Y.2.1 pc = .ok (.dup2, 1)) (hv : va.category = 1) (hw : vb.category = 1) (k : q_W Γ Y rc rs Sh I (pc + 1) lv (va :: vb :: va :: vb :: st)) : q_W Γ Y rc rs Sh I pc lv (va :: vb :: st) := by
  intro ad H locs cells slots ls h1 h2 hP hD hS hn hl
  exact lv_dup2_11 B.1 B.2.1 hd ((q_cat ad va).trans hv) ((q_cat ad vb).trans hw) (k ad H locs cells slots ls h1 h2 hP hD hS hn hl)
theorem q_pop (B : q_Ok Γ Y d) {va : Value} (hd : decode Y.2.1 pc = .ok (.pop, 1)) (hv : va.category = 1) (k : q_W Γ Y rc rs Sh I (pc + 1) lv (st)) : q_W Γ Y rc rs Sh I pc lv (va :: st) := by
  intro ad H locs cells slots ls h1 h2 hP hD hS hn hl
  exact lv_pop B.1 B.2.1 hd ((q_cat ad va).trans hv) (k ad H locs cells slots ls h1 h2 hP hD hS hn hl)
theorem q_goto (B : q_Ok Γ Y d) {off : Int} {tgt : Nat} (hd : decode Y.2.1 pc = .ok (.goto off, 3)) (ht : (pc : Int) + off = (tgt : Int)) (k : q_W Γ Y rc rs Sh I (tgt) lv (st)) : q_W Γ Y rc rs Sh I pc lv (st) := by
  intro ad H locs cells slots ls h1 h2 hP hD hS hn hl
  exact lv_goto B.1 B.2.1 hd ht (k ad H locs cells slots ls h1 h2 hP hD hS hn hl)
theorem q_lk_ne {lv : List (Nat × Value)} {i : Nat} {v : Value} (h : (i, v) ∈ lv) : ¬ q_lk lv i = none := by
  induction lv with
  | nil => cases h
  | cons a t ih =>
    obtain ⟨j, w⟩ := a
    intro q
    unfold q_lk at q
    cases hb : Nat.beq j i with
    | true => rw [hb] at q; cases q
    | false =>
      rw [hb] at q
      rcases List.mem_cons.mp h with e | h
      · cases e; simp at hb
      · exact ih h q
theorem q_istore_n (B : q_Ok Γ Y d) {j : Fin 4} {i : Nat} {x : Int32} (hd : decode Y.2.1 pc = .ok (.istore_n j, 1)) (hi : (j : Nat) = i) (hn : i < Y.2.2.1) (hf : q_fr lv i = true) (k : q_W Γ Y rc rs Sh I (pc + 1) (q_set lv i (.int x)) st) : q_W Γ Y rc rs Sh I pc lv (.int x :: st) := by
  intro ad H locs cells slots ls h1 h2 hP hD hS hn0 hl
  exact lv_istore_n B.1 B.2.1 hd hi hl hn rfl (fun ls2 hl2 => k ad H locs cells slots ls2 h1 h2 hP hD hS hn0 (q_has_set hl2 hf))
theorem q_istore (B : q_Ok Γ Y d) {i : Nat} {x : Int32} (hd : decode Y.2.1 pc = .ok (.istore i, 2)) (hn : i < Y.2.2.1) (hf : q_fr lv i = true) (k : q_W Γ Y rc rs Sh I (pc + 2) (q_set lv i (.int x)) st) : q_W Γ Y rc rs Sh I pc lv (.int x :: st) := by
  intro ad H locs cells slots ls h1 h2 hP hD hS hn0 hl
  exact lv_istore B.1 B.2.1 hd  hl hn rfl (fun ls2 hl2 => k ad H locs cells slots ls2 h1 h2 hP hD hS hn0 (q_has_set hl2 hf))
theorem q_astore_n (B : q_Ok Γ Y d) {j : Fin 4} {i : Nat} {x : Nat} (hd : decode Y.2.1 pc = .ok (.astore_n j, 1)) (hi : (j : Nat) = i) (hn : i < Y.2.2.1) (hf : q_fr lv i = true) (k : q_W Γ Y rc rs Sh I (pc + 1) (q_set lv i (.ref x)) st) : q_W Γ Y rc rs Sh I pc lv (.ref x :: st) := by
  intro ad H locs cells slots ls h1 h2 hP hD hS hn0 hl
  exact lv_astore_n B.1 B.2.1 hd hi hl hn rfl (fun ls2 hl2 => k ad H locs cells slots ls2 h1 h2 hP hD hS hn0 (q_has_set hl2 hf))
theorem q_astore (B : q_Ok Γ Y d) {i : Nat} {x : Nat} (hd : decode Y.2.1 pc = .ok (.astore i, 2)) (hn : i < Y.2.2.1) (hf : q_fr lv i = true) (k : q_W Γ Y rc rs Sh I (pc + 2) (q_set lv i (.ref x)) st) : q_W Γ Y rc rs Sh I pc lv (.ref x :: st) := by
  intro ad H locs cells slots ls h1 h2 hP hD hS hn0 hl
  exact lv_astore B.1 B.2.1 hd  hl hn rfl (fun ls2 hl2 => k ad H locs cells slots ls2 h1 h2 hP hD hS hn0 (q_has_set hl2 hf))
theorem q_astoreN_n (B : q_Ok Γ Y d) {j : Fin 4} {i : Nat} (hd : decode Y.2.1 pc = .ok (.astore_n j, 1)) (hi : (j : Nat) = i) (hn : i < Y.2.2.1) (hf : q_fr lv i = true) (k : q_W Γ Y rc rs Sh I (pc + 1) (q_set lv i .null) st) : q_W Γ Y rc rs Sh I pc lv (.null :: st) := by
  subst hi
  intro ad H locs cells slots ls h1 h2 hP hD hS hn0 hl
  have hb := B.2.1
  have hexec := B.1
  obtain ⟨ls2, e', h'⟩ := lv_store1 (v := .null) hl hn rfl
  have k2 := k ad H locs cells slots ls2 h1 h2 hP hD hS hn0 (q_has_set h' hf)
  intro T hT X
  obtain ⟨t, a, b⟩ := k2 T hT X
  refine ⟨t, ?_, b⟩
  jvm_step X.here [X.here.top, ↓top_set X.here.top, hexec, hb, hd, e', q_cv]
  exact ⟨rfl, a⟩
theorem q_astoreN (B : q_Ok Γ Y d) {i : Nat} (hd : decode Y.2.1 pc = .ok (.astore i, 2)) (hn : i < Y.2.2.1) (hf : q_fr lv i = true) (k : q_W Γ Y rc rs Sh I (pc + 2) (q_set lv i .null) st) : q_W Γ Y rc rs Sh I pc lv (.null :: st) := by
  intro ad H locs cells slots ls h1 h2 hP hD hS hn0 hl
  have hb := B.2.1
  have hexec := B.1
  obtain ⟨ls2, e', h'⟩ := lv_store1 (v := .null) hl hn rfl
  have k2 := k ad H locs cells slots ls2 h1 h2 hP hD hS hn0 (q_has_set h' hf)
  intro T hT X
  obtain ⟨t, a, b⟩ := k2 T hT X
  refine ⟨t, ?_, b⟩
  jvm_step X.here [X.here.top, ↓top_set X.here.top, hexec, hb, hd, e', q_cv]
  exact ⟨rfl, a⟩
theorem q_lstore_n (B : q_Ok Γ Y d) {j : Fin 4} {i : Nat} {x : Int64} (hd : decode Y.2.1 pc = .ok (.lstore_n j, 1)) (hi : (j : Nat) = i) (hn : i + 1 < Y.2.2.1) (hf : q_fr lv i = true) (hf2 : q_lk lv (i + 1) = none) (k : q_W Γ Y rc rs Sh I (pc + 1) (q_set lv i (.long x)) st) : q_W Γ Y rc rs Sh I pc lv (.long x :: st) := by
  intro ad H locs cells slots ls h1 h2 hP hD hS hn0 hl
  exact lv_lstore_n B.1 B.2.1 hd hi hl hn rfl (fun ls2 hl2 => k ad H locs cells slots ls2 h1 h2 hP hD hS hn0 (q_has_set ⟨hl2.1, hl2.2.1, fun q hq => hl2.2.2 q (by
    rcases List.mem_cons.mp hq with rfl | hq
    · exact List.mem_cons_self
    · obtain ⟨m1, m2⟩ := List.mem_filter.mp hq
      refine List.mem_cons_of_mem _ (List.mem_filter.mpr ⟨m1, ?_⟩)
      obtain ⟨r, hr, rfl⟩ := List.mem_map.mp m1
      have e : (r.1 == i + 1) = false := by
        cases hx : (r.1 == i + 1) with
        | false => rfl
        | true => exact absurd hf2 (q_lk_ne (v := r.2) (by have e := eq_of_beq hx; rw [← e]; exact hr))
      simp only [Bool.and_eq_true] at m2
      simp [e, m2.1, m2.2])⟩ hf))
theorem q_lstore (B : q_Ok Γ Y d) {i : Nat} {x : Int64} (hd : decode Y.2.1 pc = .ok (.lstore i, 2)) (hn : i + 1 < Y.2.2.1) (hf : q_fr lv i = true) (hf2 : q_lk lv (i + 1) = none) (k : q_W Γ Y rc rs Sh I (pc + 2) (q_set lv i (.long x)) st) : q_W Γ Y rc rs Sh I pc lv (.long x :: st) := by
  intro ad H locs cells slots ls h1 h2 hP hD hS hn0 hl
  exact lv_lstore B.1 B.2.1 hd  hl hn rfl (fun ls2 hl2 => k ad H locs cells slots ls2 h1 h2 hP hD hS hn0 (q_has_set ⟨hl2.1, hl2.2.1, fun q hq => hl2.2.2 q (by
    rcases List.mem_cons.mp hq with rfl | hq
    · exact List.mem_cons_self
    · obtain ⟨m1, m2⟩ := List.mem_filter.mp hq
      refine List.mem_cons_of_mem _ (List.mem_filter.mpr ⟨m1, ?_⟩)
      obtain ⟨r, hr, rfl⟩ := List.mem_map.mp m1
      have e : (r.1 == i + 1) = false := by
        cases hx : (r.1 == i + 1) with
        | false => rfl
        | true => exact absurd hf2 (q_lk_ne (v := r.2) (by have e := eq_of_beq hx; rw [← e]; exact hr))
      simp only [Bool.and_eq_true] at m2
      simp [e, m2.1, m2.2])⟩ hf))
theorem q_iinc (B : q_Ok Γ Y d) {i : Nat} {n : Int} {x : Int32} (hd : decode Y.2.1 pc = .ok (.iinc i n, 3)) (hx : q_lk lv i = some (.int x)) (hn : i < Y.2.2.1) (hf : q_fr lv i = true) (k : q_W Γ Y rc rs Sh I (pc + 3) (q_set lv i (.int (x + Int32.ofInt n))) st) : q_W Γ Y rc rs Sh I pc lv st := by
  intro ad H locs cells slots ls h1 h2 hP hD hS hn0 hl
  obtain ⟨m, hm⟩ := List.getElem?_of_mem (List.mem_map.mpr ⟨_, q_lk_mem hx, rfl⟩ : (i, q_cv ad (.int x)) ∈ q_lvm ad lv)
  exact lv_iinc B.1 B.2.1 hd hl hm rfl hn rfl (fun ls2 hl2 => k ad H locs cells slots ls2 h1 h2 hP hD hS hn0 (q_has_set hl2 hf))
theorem q_icmp_eq (B : q_Ok Γ Y d) {x y : Int32} {off : Int} {tgt : Nat} (hd : decode Y.2.1 pc = .ok (.if_icmp .eq off, 3)) (ht : (pc : Int) + off = (tgt : Int)) (kt : x = y → q_W Γ Y rc rs Sh I tgt lv st) (kf : ¬ x = y → q_W Γ Y rc rs Sh I (pc + 3) lv st) : q_W Γ Y rc rs Sh I pc lv (.int y :: .int x :: st) := by
  intro ad H locs cells slots ls h1 h2 hP hD hS hn hl
  exact lv_icmp_eq B.1 B.2.1 hd ht (fun q => kt q ad H locs cells slots ls h1 h2 hP hD hS hn hl) (fun q => kf q ad H locs cells slots ls h1 h2 hP hD hS hn hl)
theorem q_icmp_ne (B : q_Ok Γ Y d) {x y : Int32} {off : Int} {tgt : Nat} (hd : decode Y.2.1 pc = .ok (.if_icmp .ne off, 3)) (ht : (pc : Int) + off = (tgt : Int)) (kt : ¬ x = y → q_W Γ Y rc rs Sh I tgt lv st) (kf : x = y → q_W Γ Y rc rs Sh I (pc + 3) lv st) : q_W Γ Y rc rs Sh I pc lv (.int y :: .int x :: st) := by
  intro ad H locs cells slots ls h1 h2 hP hD hS hn hl
  exact lv_icmp_ne B.1 B.2.1 hd ht (fun q => kt q ad H locs cells slots ls h1 h2 hP hD hS hn hl) (fun q => kf q ad H locs cells slots ls h1 h2 hP hD hS hn hl)
theorem q_icmp_lt (B : q_Ok Γ Y d) {x y : Int32} {off : Int} {tgt : Nat} (hd : decode Y.2.1 pc = .ok (.if_icmp .lt off, 3)) (ht : (pc : Int) + off = (tgt : Int)) (kt : x < y → q_W Γ Y rc rs Sh I tgt lv st) (kf : ¬ x < y → q_W Γ Y rc rs Sh I (pc + 3) lv st) : q_W Γ Y rc rs Sh I pc lv (.int y :: .int x :: st) := by
  intro ad H locs cells slots ls h1 h2 hP hD hS hn hl
  exact lv_icmp_lt B.1 B.2.1 hd ht (fun q => kt q ad H locs cells slots ls h1 h2 hP hD hS hn hl) (fun q => kf q ad H locs cells slots ls h1 h2 hP hD hS hn hl)
theorem q_icmp_ge (B : q_Ok Γ Y d) {x y : Int32} {off : Int} {tgt : Nat} (hd : decode Y.2.1 pc = .ok (.if_icmp .ge off, 3)) (ht : (pc : Int) + off = (tgt : Int)) (kt : y ≤ x → q_W Γ Y rc rs Sh I tgt lv st) (kf : ¬ y ≤ x → q_W Γ Y rc rs Sh I (pc + 3) lv st) : q_W Γ Y rc rs Sh I pc lv (.int y :: .int x :: st) := by
  intro ad H locs cells slots ls h1 h2 hP hD hS hn hl
  exact lv_icmp_ge B.1 B.2.1 hd ht (fun q => kt q ad H locs cells slots ls h1 h2 hP hD hS hn hl) (fun q => kf q ad H locs cells slots ls h1 h2 hP hD hS hn hl)
theorem q_icmp_gt (B : q_Ok Γ Y d) {x y : Int32} {off : Int} {tgt : Nat} (hd : decode Y.2.1 pc = .ok (.if_icmp .gt off, 3)) (ht : (pc : Int) + off = (tgt : Int)) (kt : y < x → q_W Γ Y rc rs Sh I tgt lv st) (kf : ¬ y < x → q_W Γ Y rc rs Sh I (pc + 3) lv st) : q_W Γ Y rc rs Sh I pc lv (.int y :: .int x :: st) := by
  intro ad H locs cells slots ls h1 h2 hP hD hS hn hl
  exact lv_icmp_gt B.1 B.2.1 hd ht (fun q => kt q ad H locs cells slots ls h1 h2 hP hD hS hn hl) (fun q => kf q ad H locs cells slots ls h1 h2 hP hD hS hn hl)
theorem q_icmp_le (B : q_Ok Γ Y d) {x y : Int32} {off : Int} {tgt : Nat} (hd : decode Y.2.1 pc = .ok (.if_icmp .le off, 3)) (ht : (pc : Int) + off = (tgt : Int)) (kt : x ≤ y → q_W Γ Y rc rs Sh I tgt lv st) (kf : ¬ x ≤ y → q_W Γ Y rc rs Sh I (pc + 3) lv st) : q_W Γ Y rc rs Sh I pc lv (.int y :: .int x :: st) := by
  intro ad H locs cells slots ls h1 h2 hP hD hS hn hl
  exact lv_icmp_le B.1 B.2.1 hd ht (fun q => kt q ad H locs cells slots ls h1 h2 hP hD hS hn hl) (fun q => kf q ad H locs cells slots ls h1 h2 hP hD hS hn hl)
theorem q_if_eq (B : q_Ok Γ Y d) {x : Int32} {off : Int} {tgt : Nat} (hd : decode Y.2.1 pc = .ok (.ifCond .eq off, 3)) (ht : (pc : Int) + off = (tgt : Int)) (kt : x = 0 → q_W Γ Y rc rs Sh I tgt lv st) (kf : ¬ x = 0 → q_W Γ Y rc rs Sh I (pc + 3) lv st) : q_W Γ Y rc rs Sh I pc lv (.int x :: st) := by
  intro ad H locs cells slots ls h1 h2 hP hD hS hn hl
  exact lv_if_eq B.1 B.2.1 hd ht (fun q => kt q ad H locs cells slots ls h1 h2 hP hD hS hn hl) (fun q => kf q ad H locs cells slots ls h1 h2 hP hD hS hn hl)
theorem q_if_ne (B : q_Ok Γ Y d) {x : Int32} {off : Int} {tgt : Nat} (hd : decode Y.2.1 pc = .ok (.ifCond .ne off, 3)) (ht : (pc : Int) + off = (tgt : Int)) (kt : ¬ x = 0 → q_W Γ Y rc rs Sh I tgt lv st) (kf : x = 0 → q_W Γ Y rc rs Sh I (pc + 3) lv st) : q_W Γ Y rc rs Sh I pc lv (.int x :: st) := by
  intro ad H locs cells slots ls h1 h2 hP hD hS hn hl
  exact lv_if_ne B.1 B.2.1 hd ht (fun q => kt q ad H locs cells slots ls h1 h2 hP hD hS hn hl) (fun q => kf q ad H locs cells slots ls h1 h2 hP hD hS hn hl)
theorem q_if_lt (B : q_Ok Γ Y d) {x : Int32} {off : Int} {tgt : Nat} (hd : decode Y.2.1 pc = .ok (.ifCond .lt off, 3)) (ht : (pc : Int) + off = (tgt : Int)) (kt : x < 0 → q_W Γ Y rc rs Sh I tgt lv st) (kf : ¬ x < 0 → q_W Γ Y rc rs Sh I (pc + 3) lv st) : q_W Γ Y rc rs Sh I pc lv (.int x :: st) := by
  intro ad H locs cells slots ls h1 h2 hP hD hS hn hl
  exact lv_if_lt B.1 B.2.1 hd ht (fun q => kt q ad H locs cells slots ls h1 h2 hP hD hS hn hl) (fun q => kf q ad H locs cells slots ls h1 h2 hP hD hS hn hl)
theorem q_if_ge (B : q_Ok Γ Y d) {x : Int32} {off : Int} {tgt : Nat} (hd : decode Y.2.1 pc = .ok (.ifCond .ge off, 3)) (ht : (pc : Int) + off = (tgt : Int)) (kt : 0 ≤ x → q_W Γ Y rc rs Sh I tgt lv st) (kf : ¬ 0 ≤ x → q_W Γ Y rc rs Sh I (pc + 3) lv st) : q_W Γ Y rc rs Sh I pc lv (.int x :: st) := by
  intro ad H locs cells slots ls h1 h2 hP hD hS hn hl
  exact lv_if_ge B.1 B.2.1 hd ht (fun q => kt q ad H locs cells slots ls h1 h2 hP hD hS hn hl) (fun q => kf q ad H locs cells slots ls h1 h2 hP hD hS hn hl)
theorem q_if_gt (B : q_Ok Γ Y d) {x : Int32} {off : Int} {tgt : Nat} (hd : decode Y.2.1 pc = .ok (.ifCond .gt off, 3)) (ht : (pc : Int) + off = (tgt : Int)) (kt : 0 < x → q_W Γ Y rc rs Sh I tgt lv st) (kf : ¬ 0 < x → q_W Γ Y rc rs Sh I (pc + 3) lv st) : q_W Γ Y rc rs Sh I pc lv (.int x :: st) := by
  intro ad H locs cells slots ls h1 h2 hP hD hS hn hl
  exact lv_if_gt B.1 B.2.1 hd ht (fun q => kt q ad H locs cells slots ls h1 h2 hP hD hS hn hl) (fun q => kf q ad H locs cells slots ls h1 h2 hP hD hS hn hl)
theorem q_if_le (B : q_Ok Γ Y d) {x : Int32} {off : Int} {tgt : Nat} (hd : decode Y.2.1 pc = .ok (.ifCond .le off, 3)) (ht : (pc : Int) + off = (tgt : Int)) (kt : x ≤ 0 → q_W Γ Y rc rs Sh I tgt lv st) (kf : ¬ x ≤ 0 → q_W Γ Y rc rs Sh I (pc + 3) lv st) : q_W Γ Y rc rs Sh I pc lv (.int x :: st) := by
  intro ad H locs cells slots ls h1 h2 hP hD hS hn hl
  exact lv_if_le B.1 B.2.1 hd ht (fun q => kt q ad H locs cells slots ls h1 h2 hP hD hS hn hl) (fun q => kf q ad H locs cells slots ls h1 h2 hP hD hS hn hl)
theorem q_ifnull (B : q_Ok Γ Y d) {x : Nat} {off : Int} (hd : decode Y.2.1 pc = .ok (.ifnull off, 3)) (k : q_W Γ Y rc rs Sh I (pc + 3) lv st) : q_W Γ Y rc rs Sh I pc lv (.ref x :: st) := by
  intro ad H locs cells slots ls h1 h2 hP hD hS hn hl
  exact lv_ifnull B.1 B.2.1 hd (k ad H locs cells slots ls h1 h2 hP hD hS hn hl)
theorem q_ifnullN (B : q_Ok Γ Y d) {off : Int} {tgt : Nat} (hd : decode Y.2.1 pc = .ok (.ifnull off, 3)) (ht : (pc : Int) + off = (tgt : Int)) (k : q_W Γ Y rc rs Sh I tgt lv st) : q_W Γ Y rc rs Sh I pc lv (.null :: st) := by
  intro ad H locs cells slots ls h1 h2 hP hD hS hn hl
  exact lv_ifnullN B.1 B.2.1 hd ht (k ad H locs cells slots ls h1 h2 hP hD hS hn hl)
theorem q_ifnonnull (B : q_Ok Γ Y d) {x : Nat} {off : Int} {tgt : Nat} (hd : decode Y.2.1 pc = .ok (.ifnonnull off, 3)) (ht : (pc : Int) + off = (tgt : Int)) (k : q_W Γ Y rc rs Sh I tgt lv st) : q_W Γ Y rc rs Sh I pc lv (.ref x :: st) := by
  intro ad H locs cells slots ls h1 h2 hP hD hS hn hl
  exact lv_ifnonnull B.1 B.2.1 hd ht (k ad H locs cells slots ls h1 h2 hP hD hS hn hl)
theorem q_ifnonnullN (B : q_Ok Γ Y d) {off : Int} (hd : decode Y.2.1 pc = .ok (.ifnonnull off, 3)) (k : q_W Γ Y rc rs Sh I (pc + 3) lv st) : q_W Γ Y rc rs Sh I pc lv (.null :: st) := by
  intro ad H locs cells slots ls h1 h2 hP hD hS hn hl
  exact lv_ifnonnullN B.1 B.2.1 hd (k ad H locs cells slots ls h1 h2 hP hD hS hn hl)
theorem q_tableIn (B : q_Ok Γ Y d) {dflt lo hi : Int} {offs : Array Int} {len : Nat} {x : Int32} {off : Int} {tgt : Nat} (hd : decode Y.2.1 pc = .ok (.tableswitch dflt lo hi offs, len)) (g1 : ¬ x.toInt < lo) (g2 : ¬ hi < x.toInt) (ho : offs[(x.toInt - lo).toNat]? = some off) (ht : (pc : Int) + off = (tgt : Int)) (k : q_W Γ Y rc rs Sh I tgt lv st) : q_W Γ Y rc rs Sh I pc lv (.int x :: st) := by
  intro ad H locs cells slots ls h1 h2 hP hD hS hn hl
  exact lv_tableIn B.1 B.2.1 hd g1 g2 ho ht (k ad H locs cells slots ls h1 h2 hP hD hS hn hl)
theorem q_tableOut (B : q_Ok Γ Y d) {dflt lo hi : Int} {offs : Array Int} {len : Nat} {x : Int32} {tgt : Nat} (hd : decode Y.2.1 pc = .ok (.tableswitch dflt lo hi offs, len)) (g : x.toInt < lo ∨ hi < x.toInt) (ht : (pc : Int) + dflt = (tgt : Int)) (k : q_W Γ Y rc rs Sh I tgt lv st) : q_W Γ Y rc rs Sh I pc lv (.int x :: st) := by
  intro ad H locs cells slots ls h1 h2 hP hD hS hn hl
  exact lv_tableOut B.1 B.2.1 hd g ht (k ad H locs cells slots ls h1 h2 hP hD hS hn hl)
theorem q_lookup (B : q_Ok Γ Y d) {dflt : Int} {ps : Array (Int × Int)} {len : Nat} {x : Int32} {off : Int} {tgt : Nat} (hd : decode Y.2.1 pc = .ok (.lookupswitch dflt ps, len)) (hp : (ps.toList.zip (ps.toList.drop 1)).all (fun (a, next) => a.1 < next.1) = true) (ho : Op.lookupswitch.offset ps.toList dflt x.toInt = off) (ht : (pc : Int) + off = (tgt : Int)) (k : q_W Γ Y rc rs Sh I tgt lv st) : q_W Γ Y rc rs Sh I pc lv (.int x :: st) := by
  intro ad H locs cells slots ls h1 h2 hP hD hS hn hl
  exact lv_lookup B.1 B.2.1 hd hp ho ht (k ad H locs cells slots ls h1 h2 hP hD hS hn hl)
def q_Cl (ci : Nat) (C : String) (T : u_T) (N : Nat) : Prop := vwCl[ci]? = some (C, T, N) ∧ (∀ w ∈ u_ws C T N, w ∈ q_WS) ∧ (∀ k, k < N → parseFieldDescriptor (T k).2.2.1 = some (q_ty ci k)) ∧ (∀ a, a < N → ∀ b, b < N → a ≠ b → (T a).2.1 ≠ (T b).2.1) ∧ q_N ci = N
theorem q_getI (B : q_Ok Γ Y d) {C : String} {T : u_T} {N ci i k l : Nat} (hC : q_Cl ci C T N) (hk : k < N) (hr : q_isR (q_ty ci k) = false) (hw : Cond.fieldLink Y.1.cls i (T k).1 (T k).2.1 (T k).2.2.1 ∈ q_WS) (hl : q_is Sh l ci) (hd : decode Y.2.1 pc = .ok (.getfield i, 3))
    (kk : q_W Γ Y rc rs Sh I (pc + 3) lv (.int (I l k) :: st)) : q_W Γ Y rc rs Sh I pc lv (.ref l :: st) := by
  intro ad H locs cells slots ls h1 h2 hP hD hS hn hls
  have he := q_ws_at (cA := q_cA Γ) (ad := ad) (I := I) hl.1
  rw [q_E_obj hl.2] at he
  refine va_get (v := .int (I l k)) B.1 B.2.1 B.2.2.2.2.1 hC.2.1 B.2.2.2.1 B.2.2.2.2.2.2.1 hP l he hC.1 k hk (B.2.2.2.2.1 _ hw) (fun _ h => h) ?_ hd (kk ad H locs cells slots ls h1 h2 hP hD hS hn hls)
  rw [q_fs_at (by rw [hC.2.2.2.2]; exact hk)]
  simp [q_fv, hr]
theorem q_getR (B : q_Ok Γ Y d) {C : String} {T : u_T} {N ci i k l b : Nat} (hC : q_Cl ci C T N) (hk : k < N) (hr : q_isR (q_ty ci k) = true) (hw : Cond.fieldLink Y.1.cls i (T k).1 (T k).2.1 (T k).2.2.1 ∈ q_WS) (hl : q_is Sh l ci) (hb : Sh.2.2 l k = some b) (hd : decode Y.2.1 pc = .ok (.getfield i, 3))
    (kk : q_W Γ Y rc rs Sh I (pc + 3) lv (.ref b :: st)) : q_W Γ Y rc rs Sh I pc lv (.ref l :: st) := by
  intro ad H locs cells slots ls h1 h2 hP hD hS hn hls
  have he := q_ws_at (cA := q_cA Γ) (ad := ad) (I := I) hl.1
  rw [q_E_obj hl.2] at he
  refine va_get (v := .ref (ad b)) B.1 B.2.1 B.2.2.2.2.1 hC.2.1 B.2.2.2.1 B.2.2.2.2.2.2.1 hP l he hC.1 k hk (B.2.2.2.2.1 _ hw) (fun _ h => h) ?_ hd (kk ad H locs cells slots ls h1 h2 hP hD hS hn hls)
  rw [q_fs_at (by rw [hC.2.2.2.2]; exact hk)]
  simp [q_fv, hr, hb, va_rf]
theorem q_putI (B : q_Ok Γ Y d) {C : String} {T : u_T} {N ci i k l : Nat} {v : Int32} (hC : q_Cl ci C T N) (hk : k < N) (hr : q_isR (q_ty ci k) = false) (hw : Cond.fieldLink Y.1.cls i (T k).1 (T k).2.1 (T k).2.2.1 ∈ q_WS) (hfin : (T k).2.2.2 = false) (hnar : narrow (q_ty ci k) (.int v) = .int v) (hfit : fits (q_ty ci k) (.int v) = true) (hl : q_is Sh l ci) (hd : decode Y.2.1 pc = .ok (.putfield i, 3))
    (kk : q_W Γ Y rc rs Sh (q_upI I l k v) (pc + 3) lv st) : q_W Γ Y rc rs Sh I pc lv (.int v :: .ref l :: st) := by
  intro ad H locs cells slots ls h1 h2 hP hD hS hn hls
  have he := q_ws_at (cA := q_cA Γ) (ad := ad) (I := I) hl.1
  rw [q_E_obj hl.2] at he
  refine va_put (v := .int v) B.1 B.2.1 B.2.2.2.2.1 hC.2.1 (q_ty ci) hC.2.2.1 hC.2.2.2.1 B.2.2.2.1 B.2.2.2.2.2.2.1 hP hD hS l he hC.1 k hk (B.2.2.2.2.1 _ hw) (fun _ h => h) hfin (hC.2.2.1 k hk) hnar hfit (by simp [hC.2.2.2.2]; exact hk) hd (fun H1 locs1 hP1 hD1 hS1 => ?_)
  rw [q_ws_put hl.2 hr] at hP1 hD1
  exact kk ad H1 locs1 cells slots ls h1 h2 hP1 hD1 hS1 hn hls
theorem q_putFR (B : q_Ok Γ Y d) {C : String} {T : u_T} {N ci i k l b : Nat} (hC : q_Cl ci C T N) (hk : k < N) (hr : q_isR (q_ty ci k) = true) (hw : Cond.fieldLink Y.1.cls i (T k).1 (T k).2.1 (T k).2.2.1 ∈ q_WS) (hfin : (T k).2.2.2 = true) (hin : Y.1.name = "<init>") (hown : (T k).1 = Y.1.cls) (hl : q_is Sh l ci) (hd : decode Y.2.1 pc = .ok (.putfield i, 3))
    (kk : q_W Γ Y rc rs (Sh.1, Sh.2.1, q_upR Sh.2.2 l k (some b)) I (pc + 3) lv st) : q_W Γ Y rc rs Sh I pc lv (.ref b :: .ref l :: st) := by
  intro ad H locs cells slots ls h1 h2 hP hD hS hn hls
  have he := q_ws_at (cA := q_cA Γ) (ad := ad) (I := I) hl.1
  rw [q_E_obj hl.2] at he
  have hnar : narrow (q_ty ci k) (.ref (ad b)) = .ref (ad b) ∧ fits (q_ty ci k) (.ref (ad b)) = true := by
    cases hq : q_ty ci k <;> rw [hq] at hr <;> first | exact ⟨rfl, rfl⟩ | cases hr
  refine va_putF (v := .ref (ad b)) B.1 B.2.1 B.2.2.2.2.1 hC.2.1 (q_ty ci) hC.2.2.1 hC.2.2.2.1 B.2.2.2.1 B.2.2.2.2.2.2.1 hP hD hS l he hC.1 k hk (B.2.2.2.2.1 _ hw) (fun _ h => h) hfin (B.2.2.2.2.2.2.2.2.2.2.1.trans hin) hown (hC.2.2.1 k hk) hnar.1 hnar.2 (by simp [hC.2.2.2.2]; exact hk) hd (fun H1 locs1 hP1 hD1 hS1 => ?_)
  have e := q_ws_putR (cA := q_cA Γ) (ad := ad) (I := I) (v := some b) hl.2 hr
  simp only [Option.map_some, va_rf] at e
  rw [e] at hP1 hD1
  exact kk ad H1 locs1 cells slots ls h1 h2 hP1 hD1 hS1 hn hls
/-! arrays -/
theorem q_tys_at {cA : Nat → ClassId} : (q_tys cA)[0]? = some (cA 0, .int) ∧ (q_tys cA)[1]? = some (cA 1, .boolean) ∧ (q_tys cA)[2]? = some (cA 2, .char) := ⟨rfl, rfl, rfl⟩
theorem q_ialoadI (B : q_Ok Γ Y d) {l n : Nat} {i : Int32} (hl : q_ar Sh l 0 n) (hi : vp_in i n) (hd : decode Y.2.1 pc = .ok (.iaload, 1)) (kk : q_W Γ Y rc rs Sh I (pc + 1) lv (.int (I l i.toNatClampNeg) :: st)) : q_W Γ Y rc rs Sh I pc lv (.int i :: .ref l :: st) := by
  intro ad H locs cells slots ls h1 h2 hP hD hS hn hls
  have he := q_ws_at (cA := q_cA Γ) (ad := ad) (I := I) hl.1
  rw [q_E_arr hl.2] at he
  exact va_iald B.1 B.2.1 B.2.2.2.2.2.2.1 hP l 0 he rfl hi hd (kk ad H locs cells slots ls h1 h2 hP hD hS hn hls)
theorem q_zaload (B : q_Ok Γ Y d) {l n : Nat} {i : Int32} (hl : q_ar Sh l 1 n) (hi : vp_in i n) (hd : decode Y.2.1 pc = .ok (.baload, 1)) (kk : q_W Γ Y rc rs Sh I (pc + 1) lv (.int (I l i.toNatClampNeg) :: st)) : q_W Γ Y rc rs Sh I pc lv (.int i :: .ref l :: st) := by
  intro ad H locs cells slots ls h1 h2 hP hD hS hn hls
  have he := q_ws_at (cA := q_cA Γ) (ad := ad) (I := I) hl.1
  rw [q_E_arr hl.2] at he
  exact va_zald B.1 B.2.1 B.2.2.2.2.2.2.1 hP l 1 he rfl hi hd (kk ad H locs cells slots ls h1 h2 hP hD hS hn hls)
theorem q_caload (B : q_Ok Γ Y d) {l n : Nat} {i : Int32} (hl : q_ar Sh l 2 n) (hi : vp_in i n) (hd : decode Y.2.1 pc = .ok (.caload, 1)) (kk : q_W Γ Y rc rs Sh I (pc + 1) lv (.int (I l i.toNatClampNeg) :: st)) : q_W Γ Y rc rs Sh I pc lv (.int i :: .ref l :: st) := by
  intro ad H locs cells slots ls h1 h2 hP hD hS hn hls
  have he := q_ws_at (cA := q_cA Γ) (ad := ad) (I := I) hl.1
  rw [q_E_arr hl.2] at he
  exact va_cald B.1 B.2.1 B.2.2.2.2.2.2.1 hP l 2 he rfl hi hd (kk ad H locs cells slots ls h1 h2 hP hD hS hn hls)
theorem q_iastore (B : q_Ok Γ Y d) {l n : Nat} {i v : Int32} (hl : q_ar Sh l 0 n) (hi : vp_in i n) (hd : decode Y.2.1 pc = .ok (.iastore, 1)) (kk : q_W Γ Y rc rs Sh (q_upI I l i.toNatClampNeg v) (pc + 1) lv st) : q_W Γ Y rc rs Sh I pc lv (.int v :: .int i :: .ref l :: st) := by
  intro ad H locs cells slots ls h1 h2 hP hD hS hn hls
  have he := q_ws_at (cA := q_cA Γ) (ad := ad) (I := I) hl.1
  rw [q_E_arr hl.2] at he
  refine va_iast B.1 B.2.1 B.2.2.2.2.2.2.1 hP hD hS l 0 he rfl hi hd (fun H1 locs1 hP1 hD1 hS1 => ?_)
  rw [q_ws_ast hl.2 (by decide)] at hP1 hD1
  exact kk ad H1 locs1 cells slots ls h1 h2 hP1 hD1 hS1 hn hls
theorem q_zastore (B : q_Ok Γ Y d) {l n : Nat} {i v : Int32} (hl : q_ar Sh l 1 n) (hi : vp_in i n) (hd : decode Y.2.1 pc = .ok (.bastore, 1)) (kk : q_W Γ Y rc rs Sh (q_upI I l i.toNatClampNeg (vp_nar .boolean v)) (pc + 1) lv st) : q_W Γ Y rc rs Sh I pc lv (.int v :: .int i :: .ref l :: st) := by
  intro ad H locs cells slots ls h1 h2 hP hD hS hn hls
  have he := q_ws_at (cA := q_cA Γ) (ad := ad) (I := I) hl.1
  rw [q_E_arr hl.2] at he
  refine va_zast B.1 B.2.1 B.2.2.2.2.2.2.1 hP hD hS l 1 he rfl hi hd (fun H1 locs1 hP1 hD1 hS1 => ?_)
  rw [q_ws_ast hl.2 (by decide)] at hP1 hD1
  exact kk ad H1 locs1 cells slots ls h1 h2 hP1 hD1 hS1 hn hls
theorem q_castore (B : q_Ok Γ Y d) {l n : Nat} {i v : Int32} (hl : q_ar Sh l 2 n) (hi : vp_in i n) (hd : decode Y.2.1 pc = .ok (.castore, 1)) (kk : q_W Γ Y rc rs Sh (q_upI I l i.toNatClampNeg (vp_nar .char v)) (pc + 1) lv st) : q_W Γ Y rc rs Sh I pc lv (.int v :: .int i :: .ref l :: st) := by
  intro ad H locs cells slots ls h1 h2 hP hD hS hn hls
  have he := q_ws_at (cA := q_cA Γ) (ad := ad) (I := I) hl.1
  rw [q_E_arr hl.2] at he
  refine va_cast B.1 B.2.1 B.2.2.2.2.2.2.1 hP hD hS l 2 he rfl hi hd (fun H1 locs1 hP1 hD1 hS1 => ?_)
  rw [q_ws_ast hl.2 (by decide)] at hP1 hD1
  exact kk ad H1 locs1 cells slots ls h1 h2 hP1 hD1 hS1 hn hls
theorem q_tyq {cA : Nat → ClassId} {t : Nat} {C : String} (ht : (q_tys cA)[t]? = some (cA t, .object C)) : ¬ t < 3 := by
  intro h
  rcases (by omega : t = 0 ∨ t = 1 ∨ t = 2) with rfl | rfl | rfl <;> cases ht
theorem q_aaload (B : q_Ok Γ Y d) {l t n b : Nat} {i : Int32} {C : String} (hl : q_ar Sh l t n) (ht : (q_tys (q_cA Γ))[t]? = some (q_cA Γ t, .object C)) (hi : vp_in i n) (hb : Sh.2.2 l i.toNatClampNeg = some b) (hd : decode Y.2.1 pc = .ok (.aaload, 1)) (kk : q_W Γ Y rc rs Sh I (pc + 1) lv (.ref b :: st)) : q_W Γ Y rc rs Sh I pc lv (.int i :: .ref l :: st) := by
  intro ad H locs cells slots ls h1 h2 hP hD hS hn hls
  have he := q_ws_at (cA := q_cA Γ) (ad := ad) (I := I) hl.1
  rw [q_E_arr hl.2, if_neg (q_tyq ht)] at he
  refine va_aldq B.1 B.2.1 B.2.2.2.2.2.2.1 hP l t he ht hi hd ?_
  rw [hb]
  exact kk ad H locs cells slots ls h1 h2 hP hD hS hn hls
theorem q_aaloadN (B : q_Ok Γ Y d) {l t n : Nat} {i : Int32} {C : String} (hl : q_ar Sh l t n) (ht : (q_tys (q_cA Γ))[t]? = some (q_cA Γ t, .object C)) (hi : vp_in i n) (hb : Sh.2.2 l i.toNatClampNeg = none) (hd : decode Y.2.1 pc = .ok (.aaload, 1)) (kk : q_W Γ Y rc rs Sh I (pc + 1) lv (.null :: st)) : q_W Γ Y rc rs Sh I pc lv (.int i :: .ref l :: st) := by
  intro ad H locs cells slots ls h1 h2 hP hD hS hn hls
  have he := q_ws_at (cA := q_cA Γ) (ad := ad) (I := I) hl.1
  rw [q_E_arr hl.2, if_neg (q_tyq ht)] at he
  refine va_aldq B.1 B.2.1 B.2.2.2.2.2.2.1 hP l t he ht hi hd ?_
  rw [hb]
  exact kk ad H locs cells slots ls h1 h2 hP hD hS hn hls
theorem q_aastore (B : q_Ok Γ Y d) {l t n b ci : Nat} {i : Int32} {r : vw_C} (hl : q_ar Sh l t n) (ht : (q_tys (q_cA Γ))[t]? = some (q_cA Γ t, .object r.1)) (hc : vwCl[ci]? = some r) (hbo : q_is Sh b ci) (hi : vp_in i n) (hd : decode Y.2.1 pc = .ok (.aastore, 1)) (kk : q_W Γ Y rc rs (Sh.1, Sh.2.1, q_upR Sh.2.2 l i.toNatClampNeg (some b)) I (pc + 1) lv st) : q_W Γ Y rc rs Sh I pc lv (.ref b :: .int i :: .ref l :: st) := by
  intro ad H locs cells slots ls h1 h2 hP hD hS hn hls
  have he := q_ws_at (cA := q_cA Γ) (ad := ad) (I := I) hl.1
  rw [q_E_arr hl.2, if_neg (q_tyq ht)] at he
  have heb := q_ws_at (cA := q_cA Γ) (ad := ad) (I := I) hbo.1
  rw [q_E_obj hbo.2] at heb
  refine va_astq B.1 B.2.1 B.2.2.2.2.2.2.1 hP hD hS l t b ci he ht heb hc hi hd (fun H1 locs1 hP1 hD1 hS1 => ?_)
  rw [q_ws_astq hl.2 (q_tyq ht)] at hP1 hD1
  exact kk ad H1 locs1 cells slots ls h1 h2 hP1 hD1 hS1 hn hls
theorem q_alen (B : q_Ok Γ Y d) {l t n : Nat} {ty : FieldType} (hl : q_ar Sh l t n) (ht : (q_tys (q_cA Γ))[t]? = some (q_cA Γ t, ty)) (hd : decode Y.2.1 pc = .ok (.arraylength, 1)) (kk : q_W Γ Y rc rs Sh I (pc + 1) lv (.int (Int32.ofNat n) :: st)) : q_W Γ Y rc rs Sh I pc lv (.ref l :: st) := by
  intro ad H locs cells slots ls h1 h2 hP hD hS hn hls
  have he := q_ws_at (cA := q_cA Γ) (ad := ad) (I := I) hl.1
  rw [q_E_arr hl.2] at he
  exact va_alen B.1 B.2.1 B.2.2.2.2.2.2.1 hP l t he ht rfl hd (kk ad H locs cells slots ls h1 h2 hP hD hS hn hls)
/-! ends -/
theorem q_end (B : q_OkM Γ Y d K0) {v : Option Value} (kv : K0 v Sh I) {ad : Nat → Nat} {H : Heap} {locs : List Loc} (hP : va_P (q_D Γ) vwCl (q_ws (q_cA Γ) ad Sh I) H) (hD : va_D (q_A Γ) (q_ws (q_cA Γ) ad Sh I)) (hS : va_S (q_A Γ) (q_s Γ).heap H locs) (hn : q_grow (q_n0 Γ) (q_ad0 Γ) Sh.1 ad) :
    ∀ t : State, t.heap = H → (q_s Γ).WarmedH t.vm → q_Qc (q_D Γ) (q_cA Γ) (q_n0 Γ) (q_ad0 Γ) K0 (q_A Γ) (q_args Γ) (q_s Γ) (.returned (v.map (q_cv ad))) t :=
  fun t ht _ => ⟨⟨v, Sh, I, ad, rfl, kv, hn, by rw [ht]; exact hP, hD⟩, hS.F ht⟩
theorem q_iret (B : q_OkM Γ Y d K0) {v : Int32} (hr : Y.2.2.2 = some .int) (hd : decode Y.2.1 pc = .ok (.ireturn, 1)) (kv : K0 (some (.int v)) Sh I) : q_W Γ Y rc rs Sh I pc lv [.int v] := by
  intro ad H locs cells slots ls h1 h2 hP hD hS hn hls
  rw [B.2.2]
  refine W.widen (k := (q_bud Γ).1) (n := (q_bud Γ).2) (by omega) (by omega) ?_
  exact W.iret B.1.1 B.1.2.1 (B.2.1.trans hr) (q_end B kv hP hD hS hn) hS.2.2 hd B.1.2.2.2.2.2.1
theorem q_zret (B : q_OkM Γ Y d K0) {v : Int32} (hr : Y.2.2.2 = some .boolean) (hv : v = 0 ∨ v = 1) (hd : decode Y.2.1 pc = .ok (.ireturn, 1)) (kv : K0 (some (.int v)) Sh I) : q_W Γ Y rc rs Sh I pc lv [.int v] := by
  intro ad H locs cells slots ls h1 h2 hP hD hS hn hls
  rw [B.2.2]
  refine W.widen (k := (q_bud Γ).1) (n := (q_bud Γ).2) (by omega) (by omega) ?_
  exact W.zret B.1.1 B.1.2.1 (B.2.1.trans hr) (by rcases hv with rfl | rfl <;> rfl) (q_end B kv hP hD hS hn) hS.2.2 hd B.1.2.2.2.2.2.1
theorem q_vret (B : q_OkM Γ Y d K0) (hr : Y.2.2.2 = none) (hd : decode Y.2.1 pc = .ok (.return_, 1)) (kv : K0 none Sh I) : q_W Γ Y rc rs Sh I pc lv [] := by
  intro ad H locs cells slots ls h1 h2 hP hD hS hn hls
  rw [B.2.2]
  refine W.widen (k := (q_bud Γ).1) (n := (q_bud Γ).2) (by omega) (by omega) ?_
  exact W.vret B.1.1 B.1.2.1 (B.2.1.trans hr) (q_end B kv hP hD hS hn) hS.2.2 hd B.1.2.2.2.2.2.1
theorem q_aret (B : q_OkM Γ Y d K0) {b : Nat} {C : String} (hr : Y.2.2.2 = some (.object C)) (hd : decode Y.2.1 pc = .ok (.areturn, 1)) (kv : K0 (some (.ref b)) Sh I) : q_W Γ Y rc rs Sh I pc lv [.ref b] := by
  intro ad H locs cells slots ls h1 h2 hP hD hS hn hls
  rw [B.2.2]
  refine W.widen (k := (q_bud Γ).1) (n := (q_bud Γ).2) (by omega) (by omega) ?_
  exact W.aret B.1.1 B.1.2.1 (B.2.1.trans hr) (Or.inl ⟨C, rfl⟩) (Or.inr ⟨ad b, rfl⟩) (q_end B kv hP hD hS hn) hS.2.2 hd B.1.2.2.2.2.2.1
theorem q_aretN (B : q_OkM Γ Y d K0) {C : String} (hr : Y.2.2.2 = some (.object C)) (hd : decode Y.2.1 pc = .ok (.areturn, 1)) (kv : K0 (some .null) Sh I) : q_W Γ Y rc rs Sh I pc lv [.null] := by
  intro ad H locs cells slots ls h1 h2 hP hD hS hn hls
  rw [B.2.2]
  refine W.widen (k := (q_bud Γ).1) (n := (q_bud Γ).2) (by omega) (by omega) ?_
  exact W.aret B.1.1 B.1.2.1 (B.2.1.trans hr) (Or.inl ⟨C, rfl⟩) (Or.inl rfl) (q_end B kv hP hD hS hn) hS.2.2 hd B.1.2.2.2.2.2.1
/-! calls -/
/-- what the tables say of a method -/
def q_Vm (Y : q_Mth) (n : Nat) : Prop := Cond.code Y.1 Y.2.1 Y.2.2.1 Y.2.2.2 ∈ q_WS ∧ Cond.initialized Y.1.cls ∈ q_WS ∧ (Y.1.cls ≠ "java/lang/invoke/MethodHandle" ∧ Y.1.cls ≠ "java/lang/invoke/VarHandle" ∧ (parseMethodDescriptor Y.1.desc).map (fun d => d.parameters.length) = some n) ∧ Y.2.2.1 ≤ 11
theorem q_goodY {Y' : q_Mth} (h : Cond.code Y'.1 Y'.2.1 Y'.2.2.1 Y'.2.2.2 ∈ q_WS) : GoodIn q_WS (q_ws1 Y') := by
  intro w hw
  rcases List.mem_cons.mp hw with rfl | hw
  · exact ⟨h, good_of_word (List.mem_filter.mp h).2⟩
  · exact ⟨hw, good_of_word (List.mem_filter.mp hw).2⟩
theorem q_blind {D : va_G} {cA : Nat → ClassId} {ad : Nat → Nat} {sz : Nat} {args : List Value} {Sh : q_Sh} {I : q_Mem} : FrameBlind (q_Pc D cA ad sz args Sh I) := by
  intro a U g mk q
  obtain ⟨q0, q1, qP, qK, qD, qE⟩ := q
  exact ⟨q0, q1, qP, va_K.moved (u := U) (U := U.calling g mk a) (Vm.Alike.refl U.vm) qK, qD, q_ext_calling g mk a qE⟩
theorem q_pre (B : q_Ok Γ Y d) {ad : Nat → Nat} {H : Heap} {args : List Value} (hP : va_P (q_D Γ) vwCl (q_ws (q_cA Γ) ad Sh I) H) (hD : va_D (q_A Γ) (q_ws (q_cA Γ) ad Sh I)) : ∀ U : State, U.heap = H → (q_s Γ).WarmedH U.vm → q_Pc (q_D Γ) (q_cA Γ) ad H.size args Sh I (args.map (q_cv ad)).toArray U :=
  fun U hU hW => ⟨rfl, by rw [hU], by rw [hU]; exact hP, va_K.moved hW.alike B.2.2.2.2.2.2.1, hD.weaken (fun _ _ _ _ => trivial), q_ext_moved hW B.2.2.2.2.2.2.2.2.1⟩
/-- nothing on the list is the new place -/
def q_old (n : Nat) (v : Value) : Prop := ∀ x, v = .ref x → x < n
theorem q_cv_old {n : Nat} {ad ad' : Nat → Nat} (h : ∀ l, l < n → ad' l = ad l) {v : Value} (hv : q_old n v) : q_cv ad' v = q_cv ad v := by
  cases v with
  | ref x => exact congrArg Value.ref (h x (hv x rfl))
  | _ => rfl
def q_noA (Sh Sh' : q_Sh) (lv : List (Nat × Value)) (st : List Value) : Prop := Sh'.1 = Sh.1 ∨ ((∀ q ∈ lv, q_old Sh.1 q.2) ∧ ∀ v ∈ st, q_old Sh.1 v)
theorem q_after (B : q_Ok Γ Y d) {Sh' : q_Sh} {I' : q_Mem} {ad ad' : Nat → Nat} {v : Option Value} (ho : q_noA Sh Sh' lv st) (hg : q_grow Sh.1 ad Sh'.1 ad') : q_lvm ad lv = q_lvm ad' lv ∧ st.map (q_cv ad) = st.map (q_cv ad') := by
  rcases ho with e | ⟨o1, o2⟩
  · rw [hg.2.2 e]; exact ⟨rfl, rfl⟩
  · refine ⟨List.map_congr_left fun q hq => ?_, List.map_congr_left fun q hq => ?_⟩
    · rw [q_cv_old hg.2.1 (o1 q hq)]
    · rw [q_cv_old hg.2.1 (o2 q hq)]
theorem q_run (B : q_Ok Γ Y d) {ad : Nat → Nat} {H : Heap} {locs : List Loc} {cells slots mc ms : Nat} {ls : Array Slot} {st0 : List Value} {K : Option Value → q_Sh → q_Mem → Prop} {a : Array Value}
    (hr : va_Run (q_p Γ) (q_l Γ) (q_e Γ) (q_R Γ) (q_s Γ) (q_m Γ) (q_args Γ) (q_below Γ) (q_meth Γ) (q_c Γ) H locs cells slots mc ms (F0 (q_m Γ) pc ls st0) (st.map (q_cv ad)) (q_Qc (q_D Γ) (q_cA Γ) Sh.1 ad K (va_A (q_ws (q_cA Γ) ad Sh I) H.size) a) (va_A (q_ws (q_cA Γ) ad Sh I) H.size))
    (h1 : cells + (rc + mc) ≤ (q_bud Γ).1) (h2 : slots + (rs + ms) ≤ (q_bud Γ).2) (hP : va_P (q_D Γ) vwCl (q_ws (q_cA Γ) ad Sh I) H) (hD : va_D (q_A Γ) (q_ws (q_cA Γ) ad Sh I)) (hS : va_S (q_A Γ) (q_s Γ).heap H locs) (hn : q_grow (q_n0 Γ) (q_ad0 Γ) Sh.1 ad) (hls : lv_has ls Y.2.2.1 (q_lvm ad lv))
    (kk : ∀ v Sh' I', K v Sh' I' → q_noA Sh Sh' lv st ∧ q_W Γ Y rc rs Sh' I' (pc + 3) lv (v.toList ++ st)) : W (q_p Γ) (q_l Γ) (q_e Γ) (q_R Γ) (q_s Γ) (q_m Γ) (q_args Γ) (q_below Γ) (q_meth Γ) (q_c Γ) H locs cells slots (q_Q Γ) (F0 (q_m Γ) pc ls st0) := by
  have hF : ∀ q, va_A (q_ws (q_cA Γ) ad Sh I) H.size q → q_A Γ q := by
    intro q hq
    rcases hq with ⟨k, e, h⟩ | h
    · exact hD.2 k _ h
    · exact B.2.2.2.2.2.2.2.1 q (Nat.le_trans hS.1 h)
  intro T hT X
  obtain ⟨v, st₀, t, T', L, h0, X', hL, e1, e2, ⟨⟨v', Sh', I', ad', g1, g2, g3, g4, g5⟩, hz, hk⟩, stp⟩ := hr T hT X
  have ev : v = v'.map (q_cv ad') := by cases g1; rfl
  subst ev
  rw [h0] at hz hk
  obtain ⟨ho, kw⟩ := kk _ _ _ g2
  obtain ⟨m1, m2⟩ := q_after (I' := I') (v := v') B ho g3
  rw [m1] at hls
  have hS1 : va_S (q_A Γ) (q_s Γ).heap T'.heap (locs ++ L) := by
    refine ⟨Nat.le_trans hS.1 (by rw [e1]; exact hz), fun q a1 a2 => ?_, fun q hq => ?_⟩
    · rw [e1, hk q (Nat.lt_of_lt_of_le a1 hS.1) (fun z => a2 (hF q z))]
      exact hS.2.1 q a1 a2
    · rcases List.mem_append.mp hq with h | h
      · exact hS.2.2 q h
      · exact hF _ (hL q h)
  have w := kw ad' T'.heap (locs ++ L) (cells + mc) (slots + ms) ls (by omega) (by omega) (by rw [e1]; exact g4) (g5.weaken (fun k q _ h => hF q.1 h)) hS1 (q_grow_tr hn g3) hls
  obtain ⟨t2, a1, b1⟩ := w T' rfl X'
  refine ⟨t2, stp t2 ?_, b1⟩
  have e3 : (v'.map (q_cv ad')).toList ++ st.map (q_cv ad) = (v'.toList ++ st).map (q_cv ad') := by
    rw [m2, List.map_append]
    cases v' <;> rfl
  show Steps _ _ _ (T'.setTop (F0 (q_m Γ) (pc + 3) ls ((v'.map (q_cv ad')).toList ++ st.map (q_cv ad)))) t2
  rw [e3]
  exact a1
theorem q_wsum (ad : Nat → Nat) (st : List Value) : ((st.map (q_cv ad)).map fun v => v.category).sum = (st.map fun v => v.category).sum := by
  rw [List.map_map]
  congr 1
  exact List.map_congr_left fun v _ => q_cat ad v
theorem q_fit {d d' mc ms : Nat} {Γ : q_Cx} {Y Y' : q_Mth} (B : q_Ok Γ Y d) (hdd : d' + 1 ≤ d) (hm : Y'.2.2.1 ≤ 11) : (q_rm d' mc ms).frames + 1 ≤ (q_R Γ).frames ∧ 8 + (Y'.2.2.1 + 11) + (q_rm d' mc ms).locals ≤ (q_R Γ).locals := by
  obtain ⟨-, -, -, -, -, -, -, -, -, -, -, h1, h2⟩ := B
  refine ⟨Nat.le_trans hdd h1, ?_⟩
  show 8 + (Y'.2.2.1 + 11) + 30 * d' ≤ _
  omega
theorem q_callV (B : q_Ok Γ Y d) {Y' : q_Mth} {d' mc ms n i ci b : Nat} {As : List Value} {q : vw_C} {K : Option Value → q_Sh → q_Mem → Prop} (hM : q_Call Y' d' mc ms (.ref b :: As) Sh I K) (hV : q_Vm Y' n) (hin : Cond.instanceMethod Y'.1 ∈ q_WS) (hse : Cond.selects Y'.1.cls Y'.1 Y'.1 ∈ q_WS) (hl : Cond.methodLink Y.1.cls i Y'.1 ∈ q_WS) (hn : As.length = n) (hc : vwCl[ci]? = some q) (hq : q.1 = Y'.1.cls) (hb : q_is Sh b ci) (hdd : d' + 1 ≤ d)
    (hsum : (st.map fun v => v.category).sum ≤ 8) (hd : decode Y.2.1 pc = .ok (.invokevirtual i, 3)) (kk : ∀ v Sh' I', K v Sh' I' → q_noA Sh Sh' lv st ∧ q_W Γ Y rc rs Sh' I' (pc + 3) lv (v.toList ++ st)) : q_W Γ Y (rc + mc) (rs + ms) Sh I pc lv (As.reverse ++ .ref b :: st) := by
  intro ad H locs cells slots ls h1 h2 hP hD hS hg hls
  have hts := B.2.2.2.2.1
  have he := q_ws_at (cA := q_cA Γ) (ad := ad) (I := I) hb.1
  rw [q_E_obj hb.2] at he
  have hrv := va_recv B.2.2.2.2.2.2.1 hP hc he
  rw [hq] at hrv
  have e : (As.reverse ++ Value.ref b :: st).map (q_cv ad) = (As.map (q_cv ad)).reverse ++ .ref (ad b) :: st.map (q_cv ad) := by
    rw [List.map_append, List.map_reverse]; rfl
  rw [e]
  have hgd := q_goodY hV.1
  refine q_run B (va_runV (As := As.map (q_cv ad)) ⟨B.1, B.2.1, B.2.2.1, B.2.2.2.1, hts⟩ (hM (q_l Γ) (q_D Γ) (q_cA Γ) ad H.size) ⟨callB_of n hts hgd rfl rfl rfl (hts _ hV.2.1) (hts _ hl) hV.2.2.1 (q_fit B hdd hV.2.2.2), hts _ hin, hts _ hse⟩ ⟨q_blind, hrv, q_pre B hP hD⟩ rfl (by rw [List.length_map]; exact hn) hls.1 rfl (lv_room (by rw [q_wsum]; exact hsum)) hd ⟨?_, ?_⟩) h1 h2 hP hD hS hg hls kk
  · have := B.2.2.2.2.2.2.2.2.2.1.1
    omega
  · have := B.2.2.2.2.2.2.2.2.2.1.2
    omega
theorem q_callI (B : q_Ok Γ Y d) {Y' : q_Mth} {d' mc ms n i b : Nat} {As : List Value} {K : Option Value → q_Sh → q_Mem → Prop} (hM : q_Call Y' d' mc ms (.ref b :: As) Sh I K) (hV : q_Vm Y' n) (hin : Cond.instanceMethod Y'.1 ∈ q_WS) (hnm : Y'.1.name = "<init>") (hrt : Y'.2.2.2 = none) (hl : Cond.methodLink Y.1.cls i Y'.1 ∈ q_WS) (hn : As.length = n) (hdd : d' + 1 ≤ d)
    (hsum : (st.map fun v => v.category).sum ≤ 8) (hd : decode Y.2.1 pc = .ok (.invokespecial i, 3)) (kk : ∀ v Sh' I', K v Sh' I' → q_noA Sh Sh' lv st ∧ q_W Γ Y rc rs Sh' I' (pc + 3) lv (v.toList ++ st)) : q_W Γ Y (rc + mc) (rs + ms) Sh I pc lv (As.reverse ++ .ref b :: st) := by
  intro ad H locs cells slots ls h1 h2 hP hD hS hg hls
  have hts := B.2.2.2.2.1
  have e : (As.reverse ++ Value.ref b :: st).map (q_cv ad) = (As.map (q_cv ad)).reverse ++ .ref (ad b) :: st.map (q_cv ad) := by
    rw [List.map_append, List.map_reverse]; rfl
  rw [e]
  have hgd := q_goodY hV.1
  have hcb := callB_of (R := q_R Γ) (s := q_s Γ) (args := q_args Γ) (rm := q_rm d' mc ms) n hts hgd rfl rfl rfl (hts _ hV.2.1) (hts _ hl) hV.2.2.1 (q_fit B hdd hV.2.2.2)
  rw [hrt] at hcb
  refine q_run B (va_runI (As := As.map (q_cv ad)) ⟨B.1, B.2.1, B.2.2.1, B.2.2.2.1, hts⟩ (hM (q_l Γ) (q_D Γ) (q_cA Γ) ad H.size) ⟨hcb, hnm, hts _ hin⟩ ⟨q_blind, q_pre B hP hD⟩ rfl (by rw [List.length_map]; exact hn) hls.1 rfl (lv_room (by rw [q_wsum]; exact hsum)) hd ⟨?_, ?_⟩) h1 h2 hP hD hS hg hls kk
  · have := B.2.2.2.2.2.2.2.2.2.1.1
    omega
  · have := B.2.2.2.2.2.2.2.2.2.1.2
    omega
theorem q_callIN (B : q_Ok Γ Y d) {Y' : q_Mth} {d' mc ms n i b : Nat} {As : List Value} {K : Option Value → q_Sh → q_Mem → Prop} (hM : q_Call Y' d' mc ms (.ref b :: As) Sh I K) (hV : q_Vm Y' n) (hin : Cond.instanceMethod Y'.1 ∈ q_WS) (hnm : Y'.1.name = "<init>") (hrt : Y'.2.2.2 = none) (hl : Cond.methodLinkNest Y.1.cls i Y'.1 RX6 ∈ q_nl) (hn : As.length = n) (hdd : d' + 1 ≤ d)
    (hsum : (st.map fun v => v.category).sum ≤ 8) (hd : decode Y.2.1 pc = .ok (.invokespecial i, 3)) (kk : ∀ v Sh' I', K v Sh' I' → q_noA Sh Sh' lv st ∧ q_W Γ Y rc rs Sh' I' (pc + 3) lv (v.toList ++ st)) : q_W Γ Y (rc + mc) (rs + ms) Sh I pc lv (As.reverse ++ .ref b :: st) := by
  intro ad H locs cells slots ls h1 h2 hP hD hS hg hls
  have hts := B.2.2.2.2.1
  have e : (As.reverse ++ Value.ref b :: st).map (q_cv ad) = (As.map (q_cv ad)).reverse ++ .ref (ad b) :: st.map (q_cv ad) := by
    rw [List.map_append, List.map_reverse]; rfl
  rw [e]
  have hgd := q_goodY hV.1
  have hcb := va_cnB (R := q_R Γ) (s := q_s Γ) (args := q_args Γ) (rm := q_rm d' mc ms) n hts hgd rfl rfl rfl (B.2.2.2.2.2.2.2.2.1.1 _ hl) (hts _ hV.2.1) hV.2.2.1 (q_fit B hdd hV.2.2.2)
  rw [hrt] at hcb
  refine q_run B (va_runIN (As := As.map (q_cv ad)) ⟨B.1, B.2.1, B.2.2.1, B.2.2.2.1, hts⟩ (hM (q_l Γ) (q_D Γ) (q_cA Γ) ad H.size) ⟨hcb, hnm, hts _ hin⟩ ⟨q_blind, q_pre B hP hD⟩ rfl (by rw [List.length_map]; exact hn) hls.1 rfl (lv_room (by rw [q_wsum]; exact hsum)) hd ⟨?_, ?_⟩) h1 h2 hP hD hS hg hls kk
  · have := B.2.2.2.2.2.2.2.2.2.1.1
    omega
  · have := B.2.2.2.2.2.2.2.2.2.1.2
    omega
theorem q_callS (B : q_Ok Γ Y d) {Y' : q_Mth} {d' mc ms n i : Nat} {As : List Value} {K : Option Value → q_Sh → q_Mem → Prop} (hM : q_Call Y' d' mc ms As Sh I K) (hV : q_Vm Y' n) (hin : Cond.static Y'.1 ∈ q_WS) (hl : Cond.methodLink Y.1.cls i Y'.1 ∈ q_WS) (hn : As.length = n) (hdd : d' + 1 ≤ d)
    (hsum : (st.map fun v => v.category).sum ≤ 8) (hd : decode Y.2.1 pc = .ok (.invokestatic i, 3)) (kk : ∀ v Sh' I', K v Sh' I' → q_noA Sh Sh' lv st ∧ q_W Γ Y rc rs Sh' I' (pc + 3) lv (v.toList ++ st)) : q_W Γ Y (rc + mc) (rs + ms) Sh I pc lv (As.reverse ++ st) := by
  intro ad H locs cells slots ls h1 h2 hP hD hS hg hls
  have hts := B.2.2.2.2.1
  have e : (As.reverse ++ st).map (q_cv ad) = (As.map (q_cv ad)).reverse ++ st.map (q_cv ad) := by
    rw [List.map_append, List.map_reverse]
  rw [e]
  have hgd := q_goodY hV.1
  refine q_run B (va_runS (As := As.map (q_cv ad)) ⟨B.1, B.2.1, B.2.2.1, B.2.2.2.1, hts⟩ (hM (q_l Γ) (q_D Γ) (q_cA Γ) ad H.size) ⟨callB_of n hts hgd rfl rfl rfl (hts _ hV.2.1) (hts _ hl) hV.2.2.1 (q_fit B hdd hV.2.2.2), hts _ hin⟩ ⟨q_blind, q_pre B hP hD⟩ rfl (by rw [List.length_map]; exact hn) hls.1 rfl (lv_room (by rw [q_wsum]; exact hsum)) hd ⟨?_, ?_⟩) h1 h2 hP hD hS hg hls kk
  · have := B.2.2.2.2.2.2.2.2.2.1.1
    omega
  · have := B.2.2.2.2.2.2.2.2.2.1.2
    omega
theorem q_callSN (B : q_Ok Γ Y d) {Y' : q_Mth} {d' mc ms n i : Nat} {As : List Value} {K : Option Value → q_Sh → q_Mem → Prop} (hM : q_Call Y' d' mc ms As Sh I K) (hV : q_Vm Y' n) (hin : Cond.static Y'.1 ∈ q_WS) (hl : Cond.methodLinkNest Y.1.cls i Y'.1 RX6 ∈ q_nl) (hn : As.length = n) (hdd : d' + 1 ≤ d)
    (hsum : (st.map fun v => v.category).sum ≤ 8) (hd : decode Y.2.1 pc = .ok (.invokestatic i, 3)) (kk : ∀ v Sh' I', K v Sh' I' → q_noA Sh Sh' lv st ∧ q_W Γ Y rc rs Sh' I' (pc + 3) lv (v.toList ++ st)) : q_W Γ Y (rc + mc) (rs + ms) Sh I pc lv (As.reverse ++ st) := by
  intro ad H locs cells slots ls h1 h2 hP hD hS hg hls
  have hts := B.2.2.2.2.1
  have e : (As.reverse ++ st).map (q_cv ad) = (As.map (q_cv ad)).reverse ++ st.map (q_cv ad) := by
    rw [List.map_append, List.map_reverse]
  rw [e]
  have hgd := q_goodY hV.1
  refine q_run B (va_runSN (As := As.map (q_cv ad)) ⟨B.1, B.2.1, B.2.2.1, B.2.2.2.1, hts⟩ (hM (q_l Γ) (q_D Γ) (q_cA Γ) ad H.size) ⟨va_cnB (R := q_R Γ) (s := q_s Γ) (args := q_args Γ) (rm := q_rm d' mc ms) n hts hgd rfl rfl rfl (B.2.2.2.2.2.2.2.2.1.1 _ hl) (hts _ hV.2.1) hV.2.2.1 (q_fit B hdd hV.2.2.2), hts _ hin, trivial⟩ ⟨q_blind, q_pre B hP hD⟩ rfl (by rw [List.length_map]; exact hn) hls.1 rfl (lv_room (by rw [q_wsum]; exact hsum)) hd ⟨?_, ?_⟩) h1 h2 hP hD hS hg hls kk
  · have := B.2.2.2.2.2.2.2.2.2.1.1
    omega
  · have := B.2.2.2.2.2.2.2.2.2.1.2
    omega

end QROWS
end
section
theorem ks_yX4_nextPlace : Cond.selects yX4_nextPlace.cls yX4_nextPlace yX4_nextPlace ∈ q_WS := q_mem 0 (by decide +kernel) (by decide +kernel)
theorem ks_yX6_kept : Cond.selects yX6_kept.cls yX6_kept yX6_kept ∈ q_WS := q_mem 1 (by decide +kernel) (by decide +kernel)
theorem ks_yX0_strip : Cond.selects yX0_strip.cls yX0_strip yX0_strip ∈ q_WS := q_mem 2 (by decide +kernel) (by decide +kernel)
theorem ks_yX0_hasThingHere : Cond.selects yX0_hasThingHere.cls yX0_hasThingHere yX0_hasThingHere ∈ q_WS := q_mem 3 (by decide +kernel) (by decide +kernel)
theorem ks_yX0_takeThing : Cond.selects yX0_takeThing.cls yX0_takeThing yX0_takeThing ∈ q_WS := q_mem 4 (by decide +kernel) (by decide +kernel)
theorem ks_yX0_workOf : Cond.selects yX0_workOf.cls yX0_workOf yX0_workOf ∈ q_WS := q_mem 5 (by decide +kernel) (by decide +kernel)
theorem ks_yX0_exchangeLowest : Cond.selects yX0_exchangeLowest.cls yX0_exchangeLowest yX0_exchangeLowest ∈ q_WS := q_mem 6 (by decide +kernel) (by decide +kernel)
theorem ks_yX0_losePatience : Cond.selects yX0_losePatience.cls yX0_losePatience yX0_losePatience ∈ q_WS := q_mem 7 (by decide +kernel) (by decide +kernel)
theorem ks_yX6_repairedWith : Cond.selects yX6_repairedWith.cls yX6_repairedWith yX6_repairedWith ∈ q_WS := q_mem 8 (by decide +kernel) (by decide +kernel)
theorem ks_yX2_sign : Cond.selects yX2_sign.cls yX2_sign yX2_sign ∈ q_WS := q_mem 9 (by decide +kernel) (by decide +kernel)
theorem ks_yX2_readThing : Cond.selects yX2_readThing.cls yX2_readThing yX2_readThing ∈ q_WS := q_mem 10 (by decide +kernel) (by decide +kernel)
theorem ks_yX2_readDigit : Cond.selects yX2_readDigit.cls yX2_readDigit yX2_readDigit ∈ q_WS := q_mem 11 (by decide +kernel) (by decide +kernel)
theorem ks_yX2_digitAtMost : Cond.selects yX2_digitAtMost.cls yX2_digitAtMost yX2_digitAtMost ∈ q_WS := q_mem 12 (by decide +kernel) (by decide +kernel)
theorem ks_yX2_readSet : Cond.selects yX2_readSet.cls yX2_readSet yX2_readSet ∈ q_WS := q_mem 13 (by decide +kernel) (by decide +kernel)
theorem ks_yX2_readNumber : Cond.selects yX2_readNumber.cls yX2_readNumber yX2_readNumber ∈ q_WS := q_mem 14 (by decide +kernel) (by decide +kernel)
theorem ks_yX2_readLast : Cond.selects yX2_readLast.cls yX2_readLast yX2_readLast ∈ q_WS := q_mem 15 (by decide +kernel) (by decide +kernel)
theorem ks_yX6_carryOrder : Cond.selects yX6_carryOrder.cls yX6_carryOrder yX6_carryOrder ∈ q_WS := q_mem 16 (by decide +kernel) (by decide +kernel)
theorem ks_yX7_refusesThing : Cond.selects yX7_refusesThing.cls yX7_refusesThing yX7_refusesThing ∈ q_WS := q_mem 17 (by decide +kernel) (by decide +kernel)
theorem ks_yX7_records : Cond.selects yX7_records.cls yX7_records yX7_records ∈ q_WS := q_mem 18 (by decide +kernel) (by decide +kernel)
theorem ks_yX7_comes : Cond.selects yX7_comes.cls yX7_comes yX7_comes ∈ q_WS := q_mem 19 (by decide +kernel) (by decide +kernel)
theorem ks_yX7_lay : Cond.selects yX7_lay.cls yX7_lay yX7_lay ∈ q_WS := q_mem 20 (by decide +kernel) (by decide +kernel)
theorem ks_yX7_refusesFixer : Cond.selects yX7_refusesFixer.cls yX7_refusesFixer yX7_refusesFixer ∈ q_WS := q_mem 21 (by decide +kernel) (by decide +kernel)
theorem ks_yX7_comesFixer : Cond.selects yX7_comesFixer.cls yX7_comesFixer yX7_comesFixer ∈ q_WS := q_mem 22 (by decide +kernel) (by decide +kernel)
theorem ks_yX7_isThing : Cond.selects yX7_isThing.cls yX7_isThing yX7_isThing ∈ q_WS := q_mem 23 (by decide +kernel) (by decide +kernel)
theorem ks_yX7_of : Cond.selects yX7_of.cls yX7_of yX7_of ∈ q_WS := q_mem 24 (by decide +kernel) (by decide +kernel)
theorem ks_yX7_strips : Cond.selects yX7_strips.cls yX7_strips yX7_strips ∈ q_WS := q_mem 25 (by decide +kernel) (by decide +kernel)
theorem ks_yX7_refusesPass : Cond.selects yX7_refusesPass.cls yX7_refusesPass yX7_refusesPass ∈ q_WS := q_mem 26 (by decide +kernel) (by decide +kernel)
theorem ks_yX7_minutes : Cond.selects yX7_minutes.cls yX7_minutes yX7_minutes ∈ q_WS := q_mem 27 (by decide +kernel) (by decide +kernel)
theorem ks_yX7_withHow : Cond.selects yX7_withHow.cls yX7_withHow yX7_withHow ∈ q_WS := q_mem 28 (by decide +kernel) (by decide +kernel)
theorem ks_yX7_minute : Cond.selects yX7_minute.cls yX7_minute yX7_minute ∈ q_WS := q_mem 29 (by decide +kernel) (by decide +kernel)
theorem ks_yX7_fixer0 : Cond.selects yX7_fixer0.cls yX7_fixer0 yX7_fixer0 ∈ q_WS := q_mem 30 (by decide +kernel) (by decide +kernel)
theorem ks_yX7_takes : Cond.selects yX7_takes.cls yX7_takes yX7_takes ∈ q_WS := q_mem 31 (by decide +kernel) (by decide +kernel)
theorem ks_yX7_nextFor : Cond.selects yX7_nextFor.cls yX7_nextFor yX7_nextFor ∈ q_WS := q_mem 32 (by decide +kernel) (by decide +kernel)
theorem ks_yX7_works : Cond.selects yX7_works.cls yX7_works yX7_works ∈ q_WS := q_mem 33 (by decide +kernel) (by decide +kernel)
theorem ks_yX7_more : Cond.selects yX7_more.cls yX7_more yX7_more ∈ q_WS := q_mem 34 (by decide +kernel) (by decide +kernel)
theorem ks_yX7_exchanges : Cond.selects yX7_exchanges.cls yX7_exchanges yX7_exchanges ∈ q_WS := q_mem 35 (by decide +kernel) (by decide +kernel)
theorem ks_yX7_tests : Cond.selects yX7_tests.cls yX7_tests yX7_tests ∈ q_WS := q_mem 36 (by decide +kernel) (by decide +kernel)
theorem ks_yX7_givesUp : Cond.selects yX7_givesUp.cls yX7_givesUp yX7_givesUp ∈ q_WS := q_mem 37 (by decide +kernel) (by decide +kernel)
theorem ks_yX7_frees : Cond.selects yX7_frees.cls yX7_frees yX7_frees ∈ q_WS := q_mem 38 (by decide +kernel) (by decide +kernel)
theorem ks_yX7_fixerOf : Cond.selects yX7_fixerOf.cls yX7_fixerOf yX7_fixerOf ∈ q_WS := q_mem 39 (by decide +kernel) (by decide +kernel)
theorem ks_yX7_placeOf : Cond.selects yX7_placeOf.cls yX7_placeOf yX7_placeOf ∈ q_WS := q_mem 40 (by decide +kernel) (by decide +kernel)
theorem ks_yX7_brokenOnes : Cond.selects yX7_brokenOnes.cls yX7_brokenOnes yX7_brokenOnes ∈ q_WS := q_mem 41 (by decide +kernel) (by decide +kernel)
theorem ks_yX7_putAside : Cond.selects yX7_putAside.cls yX7_putAside yX7_putAside ∈ q_WS := q_mem 42 (by decide +kernel) (by decide +kernel)
theorem ks_yX7_takeBack : Cond.selects yX7_takeBack.cls yX7_takeBack yX7_takeBack ∈ q_WS := q_mem 43 (by decide +kernel) (by decide +kernel)
theorem ks_yX7_repairedWith : Cond.selects yX7_repairedWith.cls yX7_repairedWith yX7_repairedWith ∈ q_WS := q_mem 44 (by decide +kernel) (by decide +kernel)
theorem ks_yX7_reads : Cond.selects yX7_reads.cls yX7_reads yX7_reads ∈ q_WS := q_mem 45 (by decide +kernel) (by decide +kernel)
theorem ks_yX7_readsOrder : Cond.selects yX7_readsOrder.cls yX7_readsOrder yX7_readsOrder ∈ q_WS := q_mem 46 (by decide +kernel) (by decide +kernel)
theorem ks_yX7_sign : Cond.selects yX7_sign.cls yX7_sign yX7_sign ∈ q_WS := q_mem 47 (by decide +kernel) (by decide +kernel)
theorem ks_yX7_digit : Cond.selects yX7_digit.cls yX7_digit yX7_digit ∈ q_WS := q_mem 48 (by decide +kernel) (by decide +kernel)
theorem ks_yX7_takesSign : Cond.selects yX7_takesSign.cls yX7_takesSign yX7_takesSign ∈ q_WS := q_mem 49 (by decide +kernel) (by decide +kernel)
theorem ks_yX7_digits : Cond.selects yX7_digits.cls yX7_digits yX7_digits ∈ q_WS := q_mem 50 (by decide +kernel) (by decide +kernel)
theorem ks_yX7_number : Cond.selects yX7_number.cls yX7_number yX7_number ∈ q_WS := q_mem 51 (by decide +kernel) (by decide +kernel)
theorem ks_yX7_refuses : Cond.selects yX7_refuses.cls yX7_refuses yX7_refuses ∈ q_WS := q_mem 52 (by decide +kernel) (by decide +kernel)
theorem ks_yX7_does : Cond.selects yX7_does.cls yX7_does yX7_does ∈ q_WS := q_mem 53 (by decide +kernel) (by decide +kernel)
theorem k0_L : Cond.initialized RL ∈ q_WS := q_mem 54 (by decide +kernel) (by decide +kernel)
theorem k0_X6 : Cond.initialized RX6 ∈ q_WS := q_mem 55 (by decide +kernel) (by decide +kernel)
theorem k0_X0 : Cond.initialized RX0 ∈ q_WS := q_mem 56 (by decide +kernel) (by decide +kernel)
theorem k0_X5 : Cond.initialized RX5 ∈ q_WS := q_mem 57 (by decide +kernel) (by decide +kernel)
theorem k0_X1 : Cond.initialized RX1 ∈ q_WS := q_mem 58 (by decide +kernel) (by decide +kernel)
theorem k0_X3 : Cond.initialized RX3 ∈ q_WS := q_mem 59 (by decide +kernel) (by decide +kernel)
theorem k0_X4 : Cond.initialized RX4 ∈ q_WS := q_mem 60 (by decide +kernel) (by decide +kernel)
theorem k0_X2 : Cond.initialized RX2 ∈ q_WS := q_mem 61 (by decide +kernel) (by decide +kernel)
theorem k0_X7 : Cond.initialized RX7 ∈ q_WS := q_mem 62 (by decide +kernel) (by decide +kernel)
theorem k0_J9 : Cond.initialized "java/lang/Math" ∈ q_WS := q_mem 63 (by decide +kernel) (by decide +kernel)
theorem kl_L_7 : Cond.classLink RL 7 RX6 ∈ q_WS := q_mem 64 (by decide +kernel) (by decide +kernel)
theorem k1_X6 : Cond.instantiable RX6 5 ∈ q_WS := q_mem 65 (by decide +kernel) (by decide +kernel)
theorem km_L_9 : Cond.methodLink RL 9 yX6_init ∈ q_WS := q_mem 66 (by decide +kernel) (by decide +kernel)
theorem ki_yX6_init : Cond.instanceMethod yX6_init ∈ q_WS := q_mem 67 (by decide +kernel) (by decide +kernel)
theorem km_X6_1 : Cond.methodLink RX6 1 objectInit ∈ q_WS := q_mem 69 (by decide +kernel) (by decide +kernel)
theorem ki_objectInit : Cond.instanceMethod objectInit ∈ q_WS := q_mem 70 (by decide +kernel) (by decide +kernel)
theorem kl_X6_7 : Cond.classLink RX6 7 RX0 ∈ q_WS := q_mem 72 (by decide +kernel) (by decide +kernel)
theorem k1_X0 : Cond.instantiable RX0 6 ∈ q_WS := q_mem 73 (by decide +kernel) (by decide +kernel)
theorem km_X6_9 : Cond.methodLink RX6 9 yX0_init ∈ q_WS := q_mem 74 (by decide +kernel) (by decide +kernel)
theorem ki_yX0_init : Cond.instanceMethod yX0_init ∈ q_WS := q_mem 75 (by decide +kernel) (by decide +kernel)
theorem km_X0_3 : Cond.methodLink RX0 3 objectInit ∈ q_WS := q_mem 77 (by decide +kernel) (by decide +kernel)
theorem kl_X0_21 : Cond.classLink RX0 21 RX5 ∈ q_WS := q_mem 78 (by decide +kernel) (by decide +kernel)
theorem kl_X0_27 : Cond.classLink RX0 27 RX1 ∈ q_WS := q_mem 80 (by decide +kernel) (by decide +kernel)
theorem kl_X0_33 : Cond.classLink RX0 33 RX3 ∈ q_WS := q_mem 82 (by decide +kernel) (by decide +kernel)
theorem k1_X5 : Cond.instantiable RX5 8 ∈ q_WS := q_mem 84 (by decide +kernel) (by decide +kernel)
theorem kn_X0_39 : Cond.methodLinkNest RX0 39 yX5_init RX6 ∈ q_nl := List.mem_of_getElem? (i := 0) rfl
theorem ki_yX5_init : Cond.instanceMethod yX5_init ∈ q_WS := q_mem 86 (by decide +kernel) (by decide +kernel)
theorem km_X5_3 : Cond.methodLink RX5 3 objectInit ∈ q_WS := q_mem 88 (by decide +kernel) (by decide +kernel)
theorem kf_X5_9 : Cond.fieldLink RX5 9 "DonorParts$Thing" "kind" "I" ∈ q_WS := q_mem 89 (by decide +kernel) (by decide +kernel)
theorem kf_X6_66 : Cond.fieldLink RX6 66 "DonorParts$Thing" "kind" "I" ∈ q_WS := q_mem 90 (by decide +kernel) (by decide +kernel)
theorem kf_X0_159 : Cond.fieldLink RX0 159 "DonorParts$Thing" "kind" "I" ∈ q_WS := q_mem 91 (by decide +kernel) (by decide +kernel)
theorem kf_X5_15 : Cond.fieldLink RX5 15 "DonorParts$Thing" "broken" "I" ∈ q_WS := q_mem 92 (by decide +kernel) (by decide +kernel)
theorem kf_X6_72 : Cond.fieldLink RX6 72 "DonorParts$Thing" "broken" "I" ∈ q_WS := q_mem 93 (by decide +kernel) (by decide +kernel)
theorem kf_X0_125 : Cond.fieldLink RX0 125 "DonorParts$Thing" "broken" "I" ∈ q_WS := q_mem 94 (by decide +kernel) (by decide +kernel)
theorem kf_X5_18 : Cond.fieldLink RX5 18 "DonorParts$Thing" "patience" "I" ∈ q_WS := q_mem 95 (by decide +kernel) (by decide +kernel)
theorem kf_X6_75 : Cond.fieldLink RX6 75 "DonorParts$Thing" "patience" "I" ∈ q_WS := q_mem 96 (by decide +kernel) (by decide +kernel)
theorem kf_X0_165 : Cond.fieldLink RX0 165 "DonorParts$Thing" "patience" "I" ∈ q_WS := q_mem 97 (by decide +kernel) (by decide +kernel)
theorem kf_X5_21 : Cond.fieldLink RX5 21 "DonorParts$Thing" "tests" "I" ∈ q_WS := q_mem 98 (by decide +kernel) (by decide +kernel)
theorem kf_X6_78 : Cond.fieldLink RX6 78 "DonorParts$Thing" "tests" "I" ∈ q_WS := q_mem 99 (by decide +kernel) (by decide +kernel)
theorem kf_X0_141 : Cond.fieldLink RX0 141 "DonorParts$Thing" "tests" "I" ∈ q_WS := q_mem 100 (by decide +kernel) (by decide +kernel)
theorem kf_X5_24 : Cond.fieldLink RX5 24 "DonorParts$Thing" "how" "I" ∈ q_WS := q_mem 101 (by decide +kernel) (by decide +kernel)
theorem kf_X6_81 : Cond.fieldLink RX6 81 "DonorParts$Thing" "how" "I" ∈ q_WS := q_mem 102 (by decide +kernel) (by decide +kernel)
theorem kf_X0_82 : Cond.fieldLink RX0 82 "DonorParts$Thing" "how" "I" ∈ q_WS := q_mem 103 (by decide +kernel) (by decide +kernel)
theorem kf_X5_27 : Cond.fieldLink RX5 27 "DonorParts$Thing" "worker" "I" ∈ q_WS := q_mem 104 (by decide +kernel) (by decide +kernel)
theorem kf_X6_84 : Cond.fieldLink RX6 84 "DonorParts$Thing" "worker" "I" ∈ q_WS := q_mem 105 (by decide +kernel) (by decide +kernel)
theorem kf_X0_119 : Cond.fieldLink RX0 119 "DonorParts$Thing" "worker" "I" ∈ q_WS := q_mem 106 (by decide +kernel) (by decide +kernel)
theorem kf_X5_30 : Cond.fieldLink RX5 30 "DonorParts$Thing" "failures" "I" ∈ q_WS := q_mem 107 (by decide +kernel) (by decide +kernel)
theorem kf_X6_87 : Cond.fieldLink RX6 87 "DonorParts$Thing" "failures" "I" ∈ q_WS := q_mem 108 (by decide +kernel) (by decide +kernel)
theorem kf_X5_33 : Cond.fieldLink RX5 33 "DonorParts$Thing" "exchanged" "I" ∈ q_WS := q_mem 109 (by decide +kernel) (by decide +kernel)
theorem kf_X6_90 : Cond.fieldLink RX6 90 "DonorParts$Thing" "exchanged" "I" ∈ q_WS := q_mem 110 (by decide +kernel) (by decide +kernel)
theorem kf_X0_156 : Cond.fieldLink RX0 156 "DonorParts$Thing" "exchanged" "I" ∈ q_WS := q_mem 111 (by decide +kernel) (by decide +kernel)
theorem k1_X1 : Cond.instantiable RX1 6 ∈ q_WS := q_mem 129 (by decide +kernel) (by decide +kernel)
theorem kn_X0_40 : Cond.methodLinkNest RX0 40 yX1_init RX6 ∈ q_nl := List.mem_of_getElem? (i := 1) rfl
theorem ki_yX1_init : Cond.instanceMethod yX1_init ∈ q_WS := q_mem 131 (by decide +kernel) (by decide +kernel)
theorem km_X1_3 : Cond.methodLink RX1 3 objectInit ∈ q_WS := q_mem 133 (by decide +kernel) (by decide +kernel)
theorem kf_X1_9 : Cond.fieldLink RX1 9 "DonorParts$Fixer" "kinds" "I" ∈ q_WS := q_mem 134 (by decide +kernel) (by decide +kernel)
theorem kf_X6_100 : Cond.fieldLink RX6 100 "DonorParts$Fixer" "kinds" "I" ∈ q_WS := q_mem 135 (by decide +kernel) (by decide +kernel)
theorem kf_X0_113 : Cond.fieldLink RX0 113 "DonorParts$Fixer" "kinds" "I" ∈ q_WS := q_mem 136 (by decide +kernel) (by decide +kernel)
theorem kf_X1_15 : Cond.fieldLink RX1 15 "DonorParts$Fixer" "care" "I" ∈ q_WS := q_mem 137 (by decide +kernel) (by decide +kernel)
theorem kf_X6_105 : Cond.fieldLink RX6 105 "DonorParts$Fixer" "care" "I" ∈ q_WS := q_mem 138 (by decide +kernel) (by decide +kernel)
theorem kf_X0_132 : Cond.fieldLink RX0 132 "DonorParts$Fixer" "care" "I" ∈ q_WS := q_mem 139 (by decide +kernel) (by decide +kernel)
theorem kf_X1_18 : Cond.fieldLink RX1 18 "DonorParts$Fixer" "task" "I" ∈ q_WS := q_mem 140 (by decide +kernel) (by decide +kernel)
theorem kf_X6_108 : Cond.fieldLink RX6 108 "DonorParts$Fixer" "task" "I" ∈ q_WS := q_mem 141 (by decide +kernel) (by decide +kernel)
theorem kf_X0_110 : Cond.fieldLink RX0 110 "DonorParts$Fixer" "task" "I" ∈ q_WS := q_mem 142 (by decide +kernel) (by decide +kernel)
theorem kf_X1_21 : Cond.fieldLink RX1 21 "DonorParts$Fixer" "repaired" "I" ∈ q_WS := q_mem 143 (by decide +kernel) (by decide +kernel)
theorem kf_X6_111 : Cond.fieldLink RX6 111 "DonorParts$Fixer" "repaired" "I" ∈ q_WS := q_mem 144 (by decide +kernel) (by decide +kernel)
theorem kf_X0_147 : Cond.fieldLink RX0 147 "DonorParts$Fixer" "repaired" "I" ∈ q_WS := q_mem 145 (by decide +kernel) (by decide +kernel)
theorem kf_X1_24 : Cond.fieldLink RX1 24 "DonorParts$Fixer" "givenUp" "I" ∈ q_WS := q_mem 146 (by decide +kernel) (by decide +kernel)
theorem kf_X6_114 : Cond.fieldLink RX6 114 "DonorParts$Fixer" "givenUp" "I" ∈ q_WS := q_mem 147 (by decide +kernel) (by decide +kernel)
theorem kf_X0_138 : Cond.fieldLink RX0 138 "DonorParts$Fixer" "givenUp" "I" ∈ q_WS := q_mem 148 (by decide +kernel) (by decide +kernel)
theorem kf_X1_27 : Cond.fieldLink RX1 27 "DonorParts$Fixer" "worked" "I" ∈ q_WS := q_mem 149 (by decide +kernel) (by decide +kernel)
theorem kf_X6_117 : Cond.fieldLink RX6 117 "DonorParts$Fixer" "worked" "I" ∈ q_WS := q_mem 150 (by decide +kernel) (by decide +kernel)
theorem kf_X0_122 : Cond.fieldLink RX0 122 "DonorParts$Fixer" "worked" "I" ∈ q_WS := q_mem 151 (by decide +kernel) (by decide +kernel)
theorem k1_X3 : Cond.instantiable RX3 3 ∈ q_WS := q_mem 165 (by decide +kernel) (by decide +kernel)
theorem kn_X0_41 : Cond.methodLinkNest RX0 41 yX3_init RX6 ∈ q_nl := List.mem_of_getElem? (i := 2) rfl
theorem ki_yX3_init : Cond.instanceMethod yX3_init ∈ q_WS := q_mem 167 (by decide +kernel) (by decide +kernel)
theorem km_X3_3 : Cond.methodLink RX3 3 objectInit ∈ q_WS := q_mem 169 (by decide +kernel) (by decide +kernel)
theorem kf_X3_9 : Cond.fieldLink RX3 9 "DonorParts$Part" "stock" "I" ∈ q_WS := q_mem 170 (by decide +kernel) (by decide +kernel)
theorem kf_X0_79 : Cond.fieldLink RX0 79 "DonorParts$Part" "stock" "I" ∈ q_WS := q_mem 171 (by decide +kernel) (by decide +kernel)
theorem kf_X6_127 : Cond.fieldLink RX6 127 "DonorParts$Part" "stock" "I" ∈ q_WS := q_mem 172 (by decide +kernel) (by decide +kernel)
theorem kf_X3_15 : Cond.fieldLink RX3 15 "DonorParts$Part" "exchanged" "I" ∈ q_WS := q_mem 173 (by decide +kernel) (by decide +kernel)
theorem kf_X6_135 : Cond.fieldLink RX6 135 "DonorParts$Part" "exchanged" "I" ∈ q_WS := q_mem 174 (by decide +kernel) (by decide +kernel)
theorem kf_X3_18 : Cond.fieldLink RX3 18 "DonorParts$Part" "stripped" "I" ∈ q_WS := q_mem 175 (by decide +kernel) (by decide +kernel)
theorem kf_X6_136 : Cond.fieldLink RX6 136 "DonorParts$Part" "stripped" "I" ∈ q_WS := q_mem 176 (by decide +kernel) (by decide +kernel)
theorem kf_X0_9 : Cond.fieldLink RX0 9 "DonorParts$Cafe" "minutes" "I" ∈ q_WS := q_mem 184 (by decide +kernel) (by decide +kernel)
theorem kf_X6_139 : Cond.fieldLink RX6 139 "DonorParts$Cafe" "minutes" "I" ∈ q_WS := q_mem 185 (by decide +kernel) (by decide +kernel)
theorem kf_X0_15 : Cond.fieldLink RX0 15 "DonorParts$Cafe" "things" "I" ∈ q_WS := q_mem 186 (by decide +kernel) (by decide +kernel)
theorem kf_X6_142 : Cond.fieldLink RX6 142 "DonorParts$Cafe" "things" "I" ∈ q_WS := q_mem 187 (by decide +kernel) (by decide +kernel)
theorem kf_X0_18 : Cond.fieldLink RX0 18 "DonorParts$Cafe" "fixers" "I" ∈ q_WS := q_mem 188 (by decide +kernel) (by decide +kernel)
theorem kf_X6_145 : Cond.fieldLink RX6 145 "DonorParts$Cafe" "fixers" "I" ∈ q_WS := q_mem 189 (by decide +kernel) (by decide +kernel)
theorem kf_X0_23 : Cond.fieldLink RX0 23 "DonorParts$Cafe" "thingRow" "[LDonorParts$Thing;" ∈ q_WS := q_mem 190 (by decide +kernel) (by decide +kernel)
theorem kf_X0_29 : Cond.fieldLink RX0 29 "DonorParts$Cafe" "fixerRow" "[LDonorParts$Fixer;" ∈ q_WS := q_mem 191 (by decide +kernel) (by decide +kernel)
theorem kf_X0_35 : Cond.fieldLink RX0 35 "DonorParts$Cafe" "partRow" "[LDonorParts$Part;" ∈ q_WS := q_mem 192 (by decide +kernel) (by decide +kernel)
theorem kl_X6_19 : Cond.classLink RX6 19 RX4 ∈ q_WS := q_mem 206 (by decide +kernel) (by decide +kernel)
theorem k1_X4 : Cond.instantiable RX4 3 ∈ q_WS := q_mem 207 (by decide +kernel) (by decide +kernel)
theorem km_X6_21 : Cond.methodLink RX6 21 yX4_init ∈ q_WS := q_mem 208 (by decide +kernel) (by decide +kernel)
theorem ki_yX4_init : Cond.instanceMethod yX4_init ∈ q_WS := q_mem 209 (by decide +kernel) (by decide +kernel)
theorem km_X4_3 : Cond.methodLink RX4 3 objectInit ∈ q_WS := q_mem 211 (by decide +kernel) (by decide +kernel)
theorem kl_X4_18 : Cond.classLink RX4 18 RX0 ∈ q_WS := q_mem 212 (by decide +kernel) (by decide +kernel)
theorem km_X4_24 : Cond.methodLink RX4 24 yX0_init ∈ q_WS := q_mem 214 (by decide +kernel) (by decide +kernel)
theorem kf_X4_9 : Cond.fieldLink RX4 9 "DonorParts$Past" "many" "I" ∈ q_WS := q_mem 215 (by decide +kernel) (by decide +kernel)
theorem kf_X6_154 : Cond.fieldLink RX6 154 "DonorParts$Past" "many" "I" ∈ q_WS := q_mem 216 (by decide +kernel) (by decide +kernel)
theorem kf_X4_15 : Cond.fieldLink RX4 15 "DonorParts$Past" "next" "I" ∈ q_WS := q_mem 217 (by decide +kernel) (by decide +kernel)
theorem kf_X4_20 : Cond.fieldLink RX4 20 "DonorParts$Past" "ring" "[LDonorParts$Cafe;" ∈ q_WS := q_mem 218 (by decide +kernel) (by decide +kernel)
theorem kl_X6_30 : Cond.classLink RX6 30 RX2 ∈ q_WS := q_mem 226 (by decide +kernel) (by decide +kernel)
theorem k1_X2 : Cond.instantiable RX2 8 ∈ q_WS := q_mem 227 (by decide +kernel) (by decide +kernel)
theorem kn_X6_32 : Cond.methodLinkNest RX6 32 yX2_init RX6 ∈ q_nl := List.mem_of_getElem? (i := 3) rfl
theorem ki_yX2_init : Cond.instanceMethod yX2_init ∈ q_WS := q_mem 229 (by decide +kernel) (by decide +kernel)
theorem km_X2_3 : Cond.methodLink RX2 3 objectInit ∈ q_WS := q_mem 231 (by decide +kernel) (by decide +kernel)
theorem kf_X2_9 : Cond.fieldLink RX2 9 "DonorParts$Pad" "length" "I" ∈ q_WS := q_mem 232 (by decide +kernel) (by decide +kernel)
theorem kf_X6_151 : Cond.fieldLink RX6 151 "DonorParts$Pad" "length" "I" ∈ q_WS := q_mem 233 (by decide +kernel) (by decide +kernel)
theorem kf_X2_15 : Cond.fieldLink RX2 15 "DonorParts$Pad" "at" "I" ∈ q_WS := q_mem 234 (by decide +kernel) (by decide +kernel)
theorem kf_X6_199 : Cond.fieldLink RX6 199 "DonorParts$Pad" "at" "I" ∈ q_WS := q_mem 235 (by decide +kernel) (by decide +kernel)
theorem kf_X2_18 : Cond.fieldLink RX2 18 "DonorParts$Pad" "letter" "I" ∈ q_WS := q_mem 236 (by decide +kernel) (by decide +kernel)
theorem kf_X6_223 : Cond.fieldLink RX6 223 "DonorParts$Pad" "letter" "I" ∈ q_WS := q_mem 237 (by decide +kernel) (by decide +kernel)
theorem kf_X2_21 : Cond.fieldLink RX2 21 "DonorParts$Pad" "digit" "I" ∈ q_WS := q_mem 238 (by decide +kernel) (by decide +kernel)
theorem kf_X6_226 : Cond.fieldLink RX6 226 "DonorParts$Pad" "digit" "I" ∈ q_WS := q_mem 239 (by decide +kernel) (by decide +kernel)
theorem kf_X2_24 : Cond.fieldLink RX2 24 "DonorParts$Pad" "set" "I" ∈ q_WS := q_mem 240 (by decide +kernel) (by decide +kernel)
theorem kf_X6_229 : Cond.fieldLink RX6 229 "DonorParts$Pad" "set" "I" ∈ q_WS := q_mem 241 (by decide +kernel) (by decide +kernel)
theorem kf_X2_27 : Cond.fieldLink RX2 27 "DonorParts$Pad" "number" "I" ∈ q_WS := q_mem 242 (by decide +kernel) (by decide +kernel)
theorem kf_X6_232 : Cond.fieldLink RX6 232 "DonorParts$Pad" "number" "I" ∈ q_WS := q_mem 243 (by decide +kernel) (by decide +kernel)
theorem kf_X2_30 : Cond.fieldLink RX2 30 "DonorParts$Pad" "last" "I" ∈ q_WS := q_mem 244 (by decide +kernel) (by decide +kernel)
theorem kf_X6_235 : Cond.fieldLink RX6 235 "DonorParts$Pad" "last" "I" ∈ q_WS := q_mem 245 (by decide +kernel) (by decide +kernel)
theorem kf_X2_33 : Cond.fieldLink RX2 33 "DonorParts$Pad" "signs" "[C" ∈ q_WS := q_mem 246 (by decide +kernel) (by decide +kernel)
theorem ka_char : Cond.arrayClass .char ∈ q_WS := q_mem 264 (by decide +kernel) (by decide +kernel)
theorem kf_X6_10 : Cond.fieldLink RX6 10 "DonorParts" "now" "LDonorParts$Cafe;" ∈ q_WS := q_mem 265 (by decide +kernel) (by decide +kernel)
theorem kf_X6_16 : Cond.fieldLink RX6 16 "DonorParts" "ahead" "LDonorParts$Cafe;" ∈ q_WS := q_mem 266 (by decide +kernel) (by decide +kernel)
theorem kf_X6_22 : Cond.fieldLink RX6 22 "DonorParts" "past" "LDonorParts$Past;" ∈ q_WS := q_mem 267 (by decide +kernel) (by decide +kernel)
theorem kf_X6_26 : Cond.fieldLink RX6 26 "DonorParts" "slots" "[LDonorParts$Cafe;" ∈ q_WS := q_mem 268 (by decide +kernel) (by decide +kernel)
theorem kf_X6_33 : Cond.fieldLink RX6 33 "DonorParts" "pad" "LDonorParts$Pad;" ∈ q_WS := q_mem 269 (by decide +kernel) (by decide +kernel)
theorem km_L_13 : Cond.methodLink RL 13 yX6_thing ∈ q_WS := q_mem 281 (by decide +kernel) (by decide +kernel)
theorem ki_yX6_thing : Cond.instanceMethod yX6_thing ∈ q_WS := q_mem 282 (by decide +kernel) (by decide +kernel)
theorem ks_yX6_thing : Cond.selects yX6_thing.cls yX6_thing yX6_thing ∈ q_WS := q_mem 283 (by decide +kernel) (by decide +kernel)
theorem km_X6_37 : Cond.methodLink RX6 37 yX4_note ∈ q_WS := q_mem 285 (by decide +kernel) (by decide +kernel)
theorem ki_yX4_note : Cond.instanceMethod yX4_note ∈ q_WS := q_mem 286 (by decide +kernel) (by decide +kernel)
theorem ks_yX4_note : Cond.selects yX4_note.cls yX4_note yX4_note ∈ q_WS := q_mem 287 (by decide +kernel) (by decide +kernel)
theorem km_X4_25 : Cond.methodLink RX4 25 yX4_nextPlace ∈ q_WS := q_mem 289 (by decide +kernel) (by decide +kernel)
theorem ki_yX4_nextPlace : Cond.instanceMethod yX4_nextPlace ∈ q_WS := q_mem 291 (by decide +kernel) (by decide +kernel)
theorem km_X4_29 : Cond.methodLink RX4 29 yX0_copyFrom ∈ q_WS := q_mem 293 (by decide +kernel) (by decide +kernel)
theorem ki_yX0_copyFrom : Cond.instanceMethod yX0_copyFrom ∈ q_WS := q_mem 294 (by decide +kernel) (by decide +kernel)
theorem ks_yX0_copyFrom : Cond.selects yX0_copyFrom.cls yX0_copyFrom yX0_copyFrom ∈ q_WS := q_mem 295 (by decide +kernel) (by decide +kernel)
theorem km_X0_42 : Cond.methodLink RX0 42 yX0_thingAt ∈ q_WS := q_mem 297 (by decide +kernel) (by decide +kernel)
theorem ki_yX0_thingAt : Cond.instanceMethod yX0_thingAt ∈ q_WS := q_mem 298 (by decide +kernel) (by decide +kernel)
theorem ks_yX0_thingAt : Cond.selects yX0_thingAt.cls yX0_thingAt yX0_thingAt ∈ q_WS := q_mem 299 (by decide +kernel) (by decide +kernel)
theorem km_X0_46 : Cond.methodLink RX0 46 yX5_copyFrom ∈ q_WS := q_mem 301 (by decide +kernel) (by decide +kernel)
theorem ki_yX5_copyFrom : Cond.instanceMethod yX5_copyFrom ∈ q_WS := q_mem 302 (by decide +kernel) (by decide +kernel)
theorem ks_yX5_copyFrom : Cond.selects yX5_copyFrom.cls yX5_copyFrom yX5_copyFrom ∈ q_WS := q_mem 303 (by decide +kernel) (by decide +kernel)
theorem km_X0_50 : Cond.methodLink RX0 50 yX0_fixerAt ∈ q_WS := q_mem 305 (by decide +kernel) (by decide +kernel)
theorem ki_yX0_fixerAt : Cond.instanceMethod yX0_fixerAt ∈ q_WS := q_mem 306 (by decide +kernel) (by decide +kernel)
theorem ks_yX0_fixerAt : Cond.selects yX0_fixerAt.cls yX0_fixerAt yX0_fixerAt ∈ q_WS := q_mem 307 (by decide +kernel) (by decide +kernel)
theorem km_X0_54 : Cond.methodLink RX0 54 yX1_copyFrom ∈ q_WS := q_mem 309 (by decide +kernel) (by decide +kernel)
theorem ki_yX1_copyFrom : Cond.instanceMethod yX1_copyFrom ∈ q_WS := q_mem 310 (by decide +kernel) (by decide +kernel)
theorem ks_yX1_copyFrom : Cond.selects yX1_copyFrom.cls yX1_copyFrom yX1_copyFrom ∈ q_WS := q_mem 311 (by decide +kernel) (by decide +kernel)
theorem km_X0_57 : Cond.methodLink RX0 57 yX0_partAt ∈ q_WS := q_mem 313 (by decide +kernel) (by decide +kernel)
theorem ki_yX0_partAt : Cond.instanceMethod yX0_partAt ∈ q_WS := q_mem 314 (by decide +kernel) (by decide +kernel)
theorem ks_yX0_partAt : Cond.selects yX0_partAt.cls yX0_partAt yX0_partAt ∈ q_WS := q_mem 315 (by decide +kernel) (by decide +kernel)
theorem km_X0_61 : Cond.methodLink RX0 61 yX3_copyFrom ∈ q_WS := q_mem 317 (by decide +kernel) (by decide +kernel)
theorem ki_yX3_copyFrom : Cond.instanceMethod yX3_copyFrom ∈ q_WS := q_mem 318 (by decide +kernel) (by decide +kernel)
theorem ks_yX3_copyFrom : Cond.selects yX3_copyFrom.cls yX3_copyFrom yX3_copyFrom ∈ q_WS := q_mem 319 (by decide +kernel) (by decide +kernel)
theorem km_X6_41 : Cond.methodLink RX6 41 yX0_addThing ∈ q_WS := q_mem 321 (by decide +kernel) (by decide +kernel)
theorem ki_yX0_addThing : Cond.instanceMethod yX0_addThing ∈ q_WS := q_mem 322 (by decide +kernel) (by decide +kernel)
theorem ks_yX0_addThing : Cond.selects yX0_addThing.cls yX0_addThing yX0_addThing ∈ q_WS := q_mem 323 (by decide +kernel) (by decide +kernel)
theorem kn_X0_64 : Cond.methodLinkNest RX0 64 yX6_partsOf RX6 ∈ q_nl := List.mem_of_getElem? (i := 4) rfl
theorem kt_yX6_partsOf : Cond.static yX6_partsOf ∈ q_WS := q_mem 326 (by decide +kernel) (by decide +kernel)
theorem km_X0_68 : Cond.methodLink RX0 68 yX5_come ∈ q_WS := q_mem 328 (by decide +kernel) (by decide +kernel)
theorem ki_yX5_come : Cond.instanceMethod yX5_come ∈ q_WS := q_mem 329 (by decide +kernel) (by decide +kernel)
theorem ks_yX5_come : Cond.selects yX5_come.cls yX5_come yX5_come ∈ q_WS := q_mem 330 (by decide +kernel) (by decide +kernel)
theorem km_X6_45 : Cond.methodLink RX6 45 yX6_kept ∈ q_WS := q_mem 332 (by decide +kernel) (by decide +kernel)
theorem ki_yX6_kept : Cond.instanceMethod yX6_kept ∈ q_WS := q_mem 334 (by decide +kernel) (by decide +kernel)
theorem km_X6_211 : Cond.methodLink RX6 211 yX4_keep ∈ q_WS := q_mem 336 (by decide +kernel) (by decide +kernel)
theorem ki_yX4_keep : Cond.instanceMethod yX4_keep ∈ q_WS := q_mem 337 (by decide +kernel) (by decide +kernel)
theorem ks_yX4_keep : Cond.selects yX4_keep.cls yX4_keep yX4_keep ∈ q_WS := q_mem 338 (by decide +kernel) (by decide +kernel)
theorem km_X4_33 : Cond.methodLink RX4 33 Lib.Math.min.name ∈ q_WS := q_mem 340 (by decide +kernel) (by decide +kernel)
theorem kt_mmin : Cond.static Lib.Math.min.name ∈ q_WS := q_mem 341 (by decide +kernel) (by decide +kernel)
theorem km_L_18 : Cond.methodLink RL 18 yX6_fixer ∈ q_WS := q_mem 343 (by decide +kernel) (by decide +kernel)
theorem ki_yX6_fixer : Cond.instanceMethod yX6_fixer ∈ q_WS := q_mem 344 (by decide +kernel) (by decide +kernel)
theorem ks_yX6_fixer : Cond.selects yX6_fixer.cls yX6_fixer yX6_fixer ∈ q_WS := q_mem 345 (by decide +kernel) (by decide +kernel)
theorem km_X6_49 : Cond.methodLink RX6 49 yX0_addFixer ∈ q_WS := q_mem 347 (by decide +kernel) (by decide +kernel)
theorem ki_yX0_addFixer : Cond.instanceMethod yX0_addFixer ∈ q_WS := q_mem 348 (by decide +kernel) (by decide +kernel)
theorem ks_yX0_addFixer : Cond.selects yX0_addFixer.cls yX0_addFixer yX0_addFixer ∈ q_WS := q_mem 349 (by decide +kernel) (by decide +kernel)
theorem kn_X0_72 : Cond.methodLinkNest RX0 72 yX6_isFixer RX6 ∈ q_nl := List.mem_of_getElem? (i := 5) rfl
theorem kt_yX6_isFixer : Cond.static yX6_isFixer ∈ q_WS := q_mem 352 (by decide +kernel) (by decide +kernel)
theorem km_X0_76 : Cond.methodLink RX0 76 yX1_come ∈ q_WS := q_mem 354 (by decide +kernel) (by decide +kernel)
theorem ki_yX1_come : Cond.instanceMethod yX1_come ∈ q_WS := q_mem 355 (by decide +kernel) (by decide +kernel)
theorem ks_yX1_come : Cond.selects yX1_come.cls yX1_come yX1_come ∈ q_WS := q_mem 356 (by decide +kernel) (by decide +kernel)
theorem km_L_23 : Cond.methodLink RL 23 yX6_drawer ∈ q_WS := q_mem 358 (by decide +kernel) (by decide +kernel)
theorem ki_yX6_drawer : Cond.instanceMethod yX6_drawer ∈ q_WS := q_mem 359 (by decide +kernel) (by decide +kernel)
theorem ks_yX6_drawer : Cond.selects yX6_drawer.cls yX6_drawer yX6_drawer ∈ q_WS := q_mem 360 (by decide +kernel) (by decide +kernel)
theorem km_X6_53 : Cond.methodLink RX6 53 yX0_fillDrawer ∈ q_WS := q_mem 362 (by decide +kernel) (by decide +kernel)
theorem ki_yX0_fillDrawer : Cond.instanceMethod yX0_fillDrawer ∈ q_WS := q_mem 363 (by decide +kernel) (by decide +kernel)
theorem ks_yX0_fillDrawer : Cond.selects yX0_fillDrawer.cls yX0_fillDrawer yX0_fillDrawer ∈ q_WS := q_mem 364 (by decide +kernel) (by decide +kernel)
theorem km_L_27 : Cond.methodLink RL 27 yX6_giveUp ∈ q_WS := q_mem 366 (by decide +kernel) (by decide +kernel)
theorem ki_yX6_giveUp : Cond.instanceMethod yX6_giveUp ∈ q_WS := q_mem 367 (by decide +kernel) (by decide +kernel)
theorem ks_yX6_giveUp : Cond.selects yX6_giveUp.cls yX6_giveUp yX6_giveUp ∈ q_WS := q_mem 368 (by decide +kernel) (by decide +kernel)
theorem km_X6_56 : Cond.methodLink RX6 56 yX0_giveWaitingUp ∈ q_WS := q_mem 370 (by decide +kernel) (by decide +kernel)
theorem ki_yX0_giveWaitingUp : Cond.instanceMethod yX0_giveWaitingUp ∈ q_WS := q_mem 371 (by decide +kernel) (by decide +kernel)
theorem ks_yX0_giveWaitingUp : Cond.selects yX0_giveWaitingUp.cls yX0_giveWaitingUp yX0_giveWaitingUp ∈ q_WS := q_mem 372 (by decide +kernel) (by decide +kernel)
theorem km_X0_85 : Cond.methodLink RX0 85 yX0_strip ∈ q_WS := q_mem 374 (by decide +kernel) (by decide +kernel)
theorem ki_yX0_strip : Cond.instanceMethod yX0_strip ∈ q_WS := q_mem 376 (by decide +kernel) (by decide +kernel)
theorem kn_X0_150 : Cond.methodLinkNest RX0 150 yX6_isIn RX6 ∈ q_nl := List.mem_of_getElem? (i := 6) rfl
theorem kt_yX6_isIn : Cond.static yX6_isIn ∈ q_WS := q_mem 379 (by decide +kernel) (by decide +kernel)
theorem km_X0_162 : Cond.methodLink RX0 162 yX3_takeIn ∈ q_WS := q_mem 381 (by decide +kernel) (by decide +kernel)
theorem ki_yX3_takeIn : Cond.instanceMethod yX3_takeIn ∈ q_WS := q_mem 382 (by decide +kernel) (by decide +kernel)
theorem ks_yX3_takeIn : Cond.selects yX3_takeIn.cls yX3_takeIn yX3_takeIn ∈ q_WS := q_mem 383 (by decide +kernel) (by decide +kernel)
theorem km_X0_144 : Cond.methodLink RX0 144 yX5_end ∈ q_WS := q_mem 385 (by decide +kernel) (by decide +kernel)
theorem ki_yX5_end : Cond.instanceMethod yX5_end ∈ q_WS := q_mem 386 (by decide +kernel) (by decide +kernel)
theorem ks_yX5_end : Cond.selects yX5_end.cls yX5_end yX5_end ∈ q_WS := q_mem 387 (by decide +kernel) (by decide +kernel)
theorem km_L_32 : Cond.methodLink RL 32 yX6_pass ∈ q_WS := q_mem 389 (by decide +kernel) (by decide +kernel)
theorem ki_yX6_pass : Cond.instanceMethod yX6_pass ∈ q_WS := q_mem 390 (by decide +kernel) (by decide +kernel)
theorem ks_yX6_pass : Cond.selects yX6_pass.cls yX6_pass yX6_pass ∈ q_WS := q_mem 391 (by decide +kernel) (by decide +kernel)
theorem km_X6_59 : Cond.methodLink RX6 59 yX0_letPass ∈ q_WS := q_mem 393 (by decide +kernel) (by decide +kernel)
theorem ki_yX0_letPass : Cond.instanceMethod yX0_letPass ∈ q_WS := q_mem 394 (by decide +kernel) (by decide +kernel)
theorem ks_yX0_letPass : Cond.selects yX0_letPass.cls yX0_letPass yX0_letPass ∈ q_WS := q_mem 395 (by decide +kernel) (by decide +kernel)
theorem km_X0_89 : Cond.methodLink RX0 89 yX0_passMinutes ∈ q_WS := q_mem 397 (by decide +kernel) (by decide +kernel)
theorem ki_yX0_passMinutes : Cond.instanceMethod yX0_passMinutes ∈ q_WS := q_mem 398 (by decide +kernel) (by decide +kernel)
theorem ks_yX0_passMinutes : Cond.selects yX0_passMinutes.cls yX0_passMinutes yX0_passMinutes ∈ q_WS := q_mem 399 (by decide +kernel) (by decide +kernel)
theorem km_X0_92 : Cond.methodLink RX0 92 yX0_hasThingHere ∈ q_WS := q_mem 401 (by decide +kernel) (by decide +kernel)
theorem ki_yX0_hasThingHere : Cond.instanceMethod yX0_hasThingHere ∈ q_WS := q_mem 403 (by decide +kernel) (by decide +kernel)
theorem km_X0_168 : Cond.methodLink RX0 168 yX5_isHere ∈ q_WS := q_mem 405 (by decide +kernel) (by decide +kernel)
theorem ki_yX5_isHere : Cond.instanceMethod yX5_isHere ∈ q_WS := q_mem 406 (by decide +kernel) (by decide +kernel)
theorem ks_yX5_isHere : Cond.selects yX5_isHere.cls yX5_isHere yX5_isHere ∈ q_WS := q_mem 407 (by decide +kernel) (by decide +kernel)
theorem km_X0_96 : Cond.methodLink RX0 96 yX0_passMinute ∈ q_WS := q_mem 409 (by decide +kernel) (by decide +kernel)
theorem ki_yX0_passMinute : Cond.instanceMethod yX0_passMinute ∈ q_WS := q_mem 410 (by decide +kernel) (by decide +kernel)
theorem ks_yX0_passMinute : Cond.selects yX0_passMinute.cls yX0_passMinute yX0_passMinute ∈ q_WS := q_mem 411 (by decide +kernel) (by decide +kernel)
theorem km_X0_100 : Cond.methodLink RX0 100 yX0_takeThing ∈ q_WS := q_mem 413 (by decide +kernel) (by decide +kernel)
theorem ki_yX0_takeThing : Cond.instanceMethod yX0_takeThing ∈ q_WS := q_mem 415 (by decide +kernel) (by decide +kernel)
theorem km_X0_116 : Cond.methodLink RX0 116 yX0_nextOf ∈ q_WS := q_mem 417 (by decide +kernel) (by decide +kernel)
theorem ki_yX0_nextOf : Cond.instanceMethod yX0_nextOf ∈ q_WS := q_mem 418 (by decide +kernel) (by decide +kernel)
theorem ks_yX0_nextOf : Cond.selects yX0_nextOf.cls yX0_nextOf yX0_nextOf ∈ q_WS := q_mem 419 (by decide +kernel) (by decide +kernel)
theorem km_X0_104 : Cond.methodLink RX0 104 yX0_workOf ∈ q_WS := q_mem 421 (by decide +kernel) (by decide +kernel)
theorem ki_yX0_workOf : Cond.instanceMethod yX0_workOf ∈ q_WS := q_mem 423 (by decide +kernel) (by decide +kernel)
theorem km_X0_128 : Cond.methodLink RX0 128 yX0_exchangeLowest ∈ q_WS := q_mem 425 (by decide +kernel) (by decide +kernel)
theorem ki_yX0_exchangeLowest : Cond.instanceMethod yX0_exchangeLowest ∈ q_WS := q_mem 427 (by decide +kernel) (by decide +kernel)
theorem km_X0_153 : Cond.methodLink RX0 153 yX3_handOut ∈ q_WS := q_mem 429 (by decide +kernel) (by decide +kernel)
theorem ki_yX3_handOut : Cond.instanceMethod yX3_handOut ∈ q_WS := q_mem 430 (by decide +kernel) (by decide +kernel)
theorem ks_yX3_handOut : Cond.selects yX3_handOut.cls yX3_handOut yX3_handOut ∈ q_WS := q_mem 431 (by decide +kernel) (by decide +kernel)
theorem km_X0_135 : Cond.methodLink RX0 135 yX5_tryTest ∈ q_WS := q_mem 433 (by decide +kernel) (by decide +kernel)
theorem ki_yX5_tryTest : Cond.instanceMethod yX5_tryTest ∈ q_WS := q_mem 434 (by decide +kernel) (by decide +kernel)
theorem ks_yX5_tryTest : Cond.selects yX5_tryTest.cls yX5_tryTest yX5_tryTest ∈ q_WS := q_mem 435 (by decide +kernel) (by decide +kernel)
theorem km_X0_107 : Cond.methodLink RX0 107 yX0_losePatience ∈ q_WS := q_mem 437 (by decide +kernel) (by decide +kernel)
theorem ki_yX0_losePatience : Cond.instanceMethod yX0_losePatience ∈ q_WS := q_mem 439 (by decide +kernel) (by decide +kernel)
theorem km_L_36 : Cond.methodLink RL 36 yX6_ofThing ∈ q_WS := q_mem 441 (by decide +kernel) (by decide +kernel)
theorem ki_yX6_ofThing : Cond.instanceMethod yX6_ofThing ∈ q_WS := q_mem 442 (by decide +kernel) (by decide +kernel)
theorem ks_yX6_ofThing : Cond.selects yX6_ofThing.cls yX6_ofThing yX6_ofThing ∈ q_WS := q_mem 443 (by decide +kernel) (by decide +kernel)
theorem km_X6_62 : Cond.methodLink RX6 62 yX0_thingAt ∈ q_WS := q_mem 445 (by decide +kernel) (by decide +kernel)
theorem km_X6_93 : Cond.methodLink RX6 93 yX0_placeOf ∈ q_WS := q_mem 446 (by decide +kernel) (by decide +kernel)
theorem ki_yX0_placeOf : Cond.instanceMethod yX0_placeOf ∈ q_WS := q_mem 447 (by decide +kernel) (by decide +kernel)
theorem ks_yX0_placeOf : Cond.selects yX0_placeOf.cls yX0_placeOf yX0_placeOf ∈ q_WS := q_mem 448 (by decide +kernel) (by decide +kernel)
theorem km_L_40 : Cond.methodLink RL 40 yX6_ofFixer ∈ q_WS := q_mem 450 (by decide +kernel) (by decide +kernel)
theorem ki_yX6_ofFixer : Cond.instanceMethod yX6_ofFixer ∈ q_WS := q_mem 451 (by decide +kernel) (by decide +kernel)
theorem ks_yX6_ofFixer : Cond.selects yX6_ofFixer.cls yX6_ofFixer yX6_ofFixer ∈ q_WS := q_mem 452 (by decide +kernel) (by decide +kernel)
theorem km_X6_96 : Cond.methodLink RX6 96 yX0_fixerAt ∈ q_WS := q_mem 454 (by decide +kernel) (by decide +kernel)
theorem km_X6_120 : Cond.methodLink RX6 120 yX0_nextOf ∈ q_WS := q_mem 455 (by decide +kernel) (by decide +kernel)
theorem km_L_44 : Cond.methodLink RL 44 yX6_ofPart ∈ q_WS := q_mem 456 (by decide +kernel) (by decide +kernel)
theorem ki_yX6_ofPart : Cond.instanceMethod yX6_ofPart ∈ q_WS := q_mem 457 (by decide +kernel) (by decide +kernel)
theorem ks_yX6_ofPart : Cond.selects yX6_ofPart.cls yX6_ofPart yX6_ofPart ∈ q_WS := q_mem 458 (by decide +kernel) (by decide +kernel)
theorem km_X6_123 : Cond.methodLink RX6 123 yX0_partAt ∈ q_WS := q_mem 460 (by decide +kernel) (by decide +kernel)
theorem km_X6_132 : Cond.methodLink RX6 132 yX0_brokenOnes ∈ q_WS := q_mem 461 (by decide +kernel) (by decide +kernel)
theorem ki_yX0_brokenOnes : Cond.instanceMethod yX0_brokenOnes ∈ q_WS := q_mem 462 (by decide +kernel) (by decide +kernel)
theorem ks_yX0_brokenOnes : Cond.selects yX0_brokenOnes.cls yX0_brokenOnes yX0_brokenOnes ∈ q_WS := q_mem 463 (by decide +kernel) (by decide +kernel)
theorem km_L_48 : Cond.methodLink RL 48 yX6_count ∈ q_WS := q_mem 465 (by decide +kernel) (by decide +kernel)
theorem ki_yX6_count : Cond.instanceMethod yX6_count ∈ q_WS := q_mem 466 (by decide +kernel) (by decide +kernel)
theorem ks_yX6_count : Cond.selects yX6_count.cls yX6_count yX6_count ∈ q_WS := q_mem 467 (by decide +kernel) (by decide +kernel)
theorem km_X6_148 : Cond.methodLink RX6 148 yX0_thingsThatAre ∈ q_WS := q_mem 469 (by decide +kernel) (by decide +kernel)
theorem ki_yX0_thingsThatAre : Cond.instanceMethod yX0_thingsThatAre ∈ q_WS := q_mem 470 (by decide +kernel) (by decide +kernel)
theorem ks_yX0_thingsThatAre : Cond.selects yX0_thingsThatAre.cls yX0_thingsThatAre yX0_thingsThatAre ∈ q_WS := q_mem 471 (by decide +kernel) (by decide +kernel)
theorem km_L_52 : Cond.methodLink RL 52 yX6_scarcest ∈ q_WS := q_mem 473 (by decide +kernel) (by decide +kernel)
theorem ki_yX6_scarcest : Cond.instanceMethod yX6_scarcest ∈ q_WS := q_mem 474 (by decide +kernel) (by decide +kernel)
theorem ks_yX6_scarcest : Cond.selects yX6_scarcest.cls yX6_scarcest yX6_scarcest ∈ q_WS := q_mem 475 (by decide +kernel) (by decide +kernel)
theorem km_X6_157 : Cond.methodLink RX6 157 yX0_missingOnes ∈ q_WS := q_mem 477 (by decide +kernel) (by decide +kernel)
theorem ki_yX0_missingOnes : Cond.instanceMethod yX0_missingOnes ∈ q_WS := q_mem 478 (by decide +kernel) (by decide +kernel)
theorem ks_yX0_missingOnes : Cond.selects yX0_missingOnes.cls yX0_missingOnes yX0_missingOnes ∈ q_WS := q_mem 479 (by decide +kernel) (by decide +kernel)
theorem km_X0_171 : Cond.methodLink RX0 171 yX0_brokenOnes ∈ q_WS := q_mem 481 (by decide +kernel) (by decide +kernel)
theorem km_L_57 : Cond.methodLink RL 57 yX6_doneIn ∈ q_WS := q_mem 482 (by decide +kernel) (by decide +kernel)
theorem ki_yX6_doneIn : Cond.instanceMethod yX6_doneIn ∈ q_WS := q_mem 483 (by decide +kernel) (by decide +kernel)
theorem ks_yX6_doneIn : Cond.selects yX6_doneIn.cls yX6_doneIn yX6_doneIn ∈ q_WS := q_mem 484 (by decide +kernel) (by decide +kernel)
theorem km_X6_160 : Cond.methodLink RX6 160 yX0_copyFrom ∈ q_WS := q_mem 486 (by decide +kernel) (by decide +kernel)
theorem km_X6_163 : Cond.methodLink RX6 163 yX5_isHere ∈ q_WS := q_mem 487 (by decide +kernel) (by decide +kernel)
theorem km_X6_167 : Cond.methodLink RX6 167 yX0_passMinute ∈ q_WS := q_mem 488 (by decide +kernel) (by decide +kernel)
theorem km_L_61 : Cond.methodLink RL 61 yX6_withFixer ∈ q_WS := q_mem 489 (by decide +kernel) (by decide +kernel)
theorem ki_yX6_withFixer : Cond.instanceMethod yX6_withFixer ∈ q_WS := q_mem 490 (by decide +kernel) (by decide +kernel)
theorem ks_yX6_withFixer : Cond.selects yX6_withFixer.cls yX6_withFixer yX6_withFixer ∈ q_WS := q_mem 491 (by decide +kernel) (by decide +kernel)
theorem km_X6_171 : Cond.methodLink RX6 171 yX6_isFixer ∈ q_WS := q_mem 493 (by decide +kernel) (by decide +kernel)
theorem km_X6_175 : Cond.methodLink RX6 175 yX6_isWhatIf ∈ q_WS := q_mem 494 (by decide +kernel) (by decide +kernel)
theorem kt_yX6_isWhatIf : Cond.static yX6_isWhatIf ∈ q_WS := q_mem 495 (by decide +kernel) (by decide +kernel)
theorem km_X6_179 : Cond.methodLink RX6 179 yX6_repairedWith ∈ q_WS := q_mem 497 (by decide +kernel) (by decide +kernel)
theorem ki_yX6_repairedWith : Cond.instanceMethod yX6_repairedWith ∈ q_WS := q_mem 499 (by decide +kernel) (by decide +kernel)
theorem km_X6_220 : Cond.methodLink RX6 220 yX0_passMinutes ∈ q_WS := q_mem 501 (by decide +kernel) (by decide +kernel)
theorem km_L_66 : Cond.methodLink RL 66 yX6_bestCare ∈ q_WS := q_mem 502 (by decide +kernel) (by decide +kernel)
theorem ki_yX6_bestCare : Cond.instanceMethod yX6_bestCare ∈ q_WS := q_mem 503 (by decide +kernel) (by decide +kernel)
theorem ks_yX6_bestCare : Cond.selects yX6_bestCare.cls yX6_bestCare yX6_bestCare ∈ q_WS := q_mem 504 (by decide +kernel) (by decide +kernel)
theorem km_L_72 : Cond.methodLink RL 72 yX6_put ∈ q_WS := q_mem 506 (by decide +kernel) (by decide +kernel)
theorem ki_yX6_put : Cond.instanceMethod yX6_put ∈ q_WS := q_mem 507 (by decide +kernel) (by decide +kernel)
theorem ks_yX6_put : Cond.selects yX6_put.cls yX6_put yX6_put ∈ q_WS := q_mem 508 (by decide +kernel) (by decide +kernel)
theorem km_X6_183 : Cond.methodLink RX6 183 yX6_signsIn ∈ q_WS := q_mem 510 (by decide +kernel) (by decide +kernel)
theorem kt_yX6_signsIn : Cond.static yX6_signsIn ∈ q_WS := q_mem 511 (by decide +kernel) (by decide +kernel)
theorem kg_X6_187 : Cond.constantLong RX6 187 255 ∈ q_WS := q_mem 513 (by decide +kernel) (by decide +kernel)
theorem km_X6_189 : Cond.methodLink RX6 189 yX2_append ∈ q_WS := q_mem 514 (by decide +kernel) (by decide +kernel)
theorem ki_yX2_append : Cond.instanceMethod yX2_append ∈ q_WS := q_mem 515 (by decide +kernel) (by decide +kernel)
theorem ks_yX2_append : Cond.selects yX2_append.cls yX2_append yX2_append ∈ q_WS := q_mem 516 (by decide +kernel) (by decide +kernel)
theorem km_L_77 : Cond.methodLink RL 77 yX6_wipe ∈ q_WS := q_mem 518 (by decide +kernel) (by decide +kernel)
theorem ki_yX6_wipe : Cond.instanceMethod yX6_wipe ∈ q_WS := q_mem 519 (by decide +kernel) (by decide +kernel)
theorem ks_yX6_wipe : Cond.selects yX6_wipe.cls yX6_wipe yX6_wipe ∈ q_WS := q_mem 520 (by decide +kernel) (by decide +kernel)
theorem km_L_81 : Cond.methodLink RL 81 yX6_fault ∈ q_WS := q_mem 522 (by decide +kernel) (by decide +kernel)
theorem ki_yX6_fault : Cond.instanceMethod yX6_fault ∈ q_WS := q_mem 523 (by decide +kernel) (by decide +kernel)
theorem ks_yX6_fault : Cond.selects yX6_fault.cls yX6_fault yX6_fault ∈ q_WS := q_mem 524 (by decide +kernel) (by decide +kernel)
theorem km_X6_193 : Cond.methodLink RX6 193 yX2_begin ∈ q_WS := q_mem 526 (by decide +kernel) (by decide +kernel)
theorem ki_yX2_begin : Cond.instanceMethod yX2_begin ∈ q_WS := q_mem 527 (by decide +kernel) (by decide +kernel)
theorem ks_yX2_begin : Cond.selects yX2_begin.cls yX2_begin yX2_begin ∈ q_WS := q_mem 528 (by decide +kernel) (by decide +kernel)
theorem km_X6_196 : Cond.methodLink RX6 196 yX2_readOrder ∈ q_WS := q_mem 530 (by decide +kernel) (by decide +kernel)
theorem ki_yX2_readOrder : Cond.instanceMethod yX2_readOrder ∈ q_WS := q_mem 531 (by decide +kernel) (by decide +kernel)
theorem ks_yX2_readOrder : Cond.selects yX2_readOrder.cls yX2_readOrder yX2_readOrder ∈ q_WS := q_mem 532 (by decide +kernel) (by decide +kernel)
theorem km_X2_37 : Cond.methodLink RX2 37 yX2_sign ∈ q_WS := q_mem 534 (by decide +kernel) (by decide +kernel)
theorem ki_yX2_sign : Cond.instanceMethod yX2_sign ∈ q_WS := q_mem 536 (by decide +kernel) (by decide +kernel)
theorem km_X2_41 : Cond.methodLink RX2 41 yX2_readSign ∈ q_WS := q_mem 538 (by decide +kernel) (by decide +kernel)
theorem ki_yX2_readSign : Cond.instanceMethod yX2_readSign ∈ q_WS := q_mem 539 (by decide +kernel) (by decide +kernel)
theorem ks_yX2_readSign : Cond.selects yX2_readSign.cls yX2_readSign yX2_readSign ∈ q_WS := q_mem 540 (by decide +kernel) (by decide +kernel)
theorem km_X2_45 : Cond.methodLink RX2 45 yX2_readThing ∈ q_WS := q_mem 542 (by decide +kernel) (by decide +kernel)
theorem ki_yX2_readThing : Cond.instanceMethod yX2_readThing ∈ q_WS := q_mem 544 (by decide +kernel) (by decide +kernel)
theorem km_X2_55 : Cond.methodLink RX2 55 yX2_readDigit ∈ q_WS := q_mem 546 (by decide +kernel) (by decide +kernel)
theorem ki_yX2_readDigit : Cond.instanceMethod yX2_readDigit ∈ q_WS := q_mem 548 (by decide +kernel) (by decide +kernel)
theorem km_X2_61 : Cond.methodLink RX2 61 yX2_digitAtMost ∈ q_WS := q_mem 550 (by decide +kernel) (by decide +kernel)
theorem ki_yX2_digitAtMost : Cond.instanceMethod yX2_digitAtMost ∈ q_WS := q_mem 552 (by decide +kernel) (by decide +kernel)
theorem km_X2_49 : Cond.methodLink RX2 49 yX2_readSet ∈ q_WS := q_mem 554 (by decide +kernel) (by decide +kernel)
theorem ki_yX2_readSet : Cond.instanceMethod yX2_readSet ∈ q_WS := q_mem 556 (by decide +kernel) (by decide +kernel)
theorem km_X2_58 : Cond.methodLink RX2 58 yX2_readNumber ∈ q_WS := q_mem 558 (by decide +kernel) (by decide +kernel)
theorem ki_yX2_readNumber : Cond.instanceMethod yX2_readNumber ∈ q_WS := q_mem 560 (by decide +kernel) (by decide +kernel)
theorem km_X2_52 : Cond.methodLink RX2 52 yX2_readLast ∈ q_WS := q_mem 562 (by decide +kernel) (by decide +kernel)
theorem ki_yX2_readLast : Cond.instanceMethod yX2_readLast ∈ q_WS := q_mem 564 (by decide +kernel) (by decide +kernel)
theorem km_X6_202 : Cond.methodLink RX6 202 yX2_isAtEnd ∈ q_WS := q_mem 566 (by decide +kernel) (by decide +kernel)
theorem ki_yX2_isAtEnd : Cond.instanceMethod yX2_isAtEnd ∈ q_WS := q_mem 567 (by decide +kernel) (by decide +kernel)
theorem ks_yX2_isAtEnd : Cond.selects yX2_isAtEnd.cls yX2_isAtEnd yX2_isAtEnd ∈ q_WS := q_mem 568 (by decide +kernel) (by decide +kernel)
theorem km_X6_205 : Cond.methodLink RX6 205 yX2_readSign ∈ q_WS := q_mem 570 (by decide +kernel) (by decide +kernel)
theorem km_L_85 : Cond.methodLink RL 85 yX6_carryOut ∈ q_WS := q_mem 571 (by decide +kernel) (by decide +kernel)
theorem ki_yX6_carryOut : Cond.instanceMethod yX6_carryOut ∈ q_WS := q_mem 572 (by decide +kernel) (by decide +kernel)
theorem ks_yX6_carryOut : Cond.selects yX6_carryOut.cls yX6_carryOut yX6_carryOut ∈ q_WS := q_mem 573 (by decide +kernel) (by decide +kernel)
theorem km_X6_208 : Cond.methodLink RX6 208 yX6_fault ∈ q_WS := q_mem 575 (by decide +kernel) (by decide +kernel)
theorem km_X6_214 : Cond.methodLink RX6 214 yX6_carryOrder ∈ q_WS := q_mem 576 (by decide +kernel) (by decide +kernel)
theorem ki_yX6_carryOrder : Cond.instanceMethod yX6_carryOrder ∈ q_WS := q_mem 578 (by decide +kernel) (by decide +kernel)
theorem km_L_89 : Cond.methodLink RL 89 yX6_undo ∈ q_WS := q_mem 580 (by decide +kernel) (by decide +kernel)
theorem ki_yX6_undo : Cond.instanceMethod yX6_undo ∈ q_WS := q_mem 581 (by decide +kernel) (by decide +kernel)
theorem ks_yX6_undo : Cond.selects yX6_undo.cls yX6_undo yX6_undo ∈ q_WS := q_mem 582 (by decide +kernel) (by decide +kernel)
theorem km_X6_217 : Cond.methodLink RX6 217 yX4_takeBack ∈ q_WS := q_mem 584 (by decide +kernel) (by decide +kernel)
theorem ki_yX4_takeBack : Cond.instanceMethod yX4_takeBack ∈ q_WS := q_mem 585 (by decide +kernel) (by decide +kernel)
theorem ks_yX4_takeBack : Cond.selects yX4_takeBack.cls yX4_takeBack yX4_takeBack ∈ q_WS := q_mem 586 (by decide +kernel) (by decide +kernel)
theorem km_L_93 : Cond.methodLink RL 93 yX6_save ∈ q_WS := q_mem 588 (by decide +kernel) (by decide +kernel)
theorem ki_yX6_save : Cond.instanceMethod yX6_save ∈ q_WS := q_mem 589 (by decide +kernel) (by decide +kernel)
theorem ks_yX6_save : Cond.selects yX6_save.cls yX6_save yX6_save ∈ q_WS := q_mem 590 (by decide +kernel) (by decide +kernel)
theorem km_L_97 : Cond.methodLink RL 97 yX6_restore ∈ q_WS := q_mem 592 (by decide +kernel) (by decide +kernel)
theorem ki_yX6_restore : Cond.instanceMethod yX6_restore ∈ q_WS := q_mem 593 (by decide +kernel) (by decide +kernel)
theorem ks_yX6_restore : Cond.selects yX6_restore.cls yX6_restore yX6_restore ∈ q_WS := q_mem 594 (by decide +kernel) (by decide +kernel)
theorem kl_L_10 : Cond.classLink RL 10 RX7 ∈ q_WS := q_mem 596 (by decide +kernel) (by decide +kernel)
theorem k1_X7 : Cond.instantiable RX7 13 ∈ q_WS := q_mem 597 (by decide +kernel) (by decide +kernel)
theorem km_L_12 : Cond.methodLink RL 12 yX7_init ∈ q_WS := q_mem 598 (by decide +kernel) (by decide +kernel)
theorem ki_yX7_init : Cond.instanceMethod yX7_init ∈ q_WS := q_mem 599 (by decide +kernel) (by decide +kernel)
theorem km_X7_1 : Cond.methodLink RX7 1 objectInit ∈ q_WS := q_mem 601 (by decide +kernel) (by decide +kernel)
theorem kf_X7_32 : Cond.fieldLink RX7 32 "DonorPartsModel" "thrown" "I" ∈ q_WS := q_mem 602 (by decide +kernel) (by decide +kernel)
theorem kf_X7_7 : Cond.fieldLink RX7 7 "DonorPartsModel" "s" "[I" ∈ q_WS := q_mem 603 (by decide +kernel) (by decide +kernel)
theorem kf_X7_13 : Cond.fieldLink RX7 13 "DonorPartsModel" "aside" "[I" ∈ q_WS := q_mem 604 (by decide +kernel) (by decide +kernel)
theorem kf_X7_16 : Cond.fieldLink RX7 16 "DonorPartsModel" "undos" "[I" ∈ q_WS := q_mem 605 (by decide +kernel) (by decide +kernel)
theorem kf_X7_36 : Cond.fieldLink RX7 36 "DonorPartsModel" "undoMany" "I" ∈ q_WS := q_mem 606 (by decide +kernel) (by decide +kernel)
theorem kf_X7_19 : Cond.fieldLink RX7 19 "DonorPartsModel" "slots" "[I" ∈ q_WS := q_mem 607 (by decide +kernel) (by decide +kernel)
theorem kf_X7_22 : Cond.fieldLink RX7 22 "DonorPartsModel" "hasSlot" "[Z" ∈ q_WS := q_mem 608 (by decide +kernel) (by decide +kernel)
theorem kf_X7_26 : Cond.fieldLink RX7 26 "DonorPartsModel" "pad" "[I" ∈ q_WS := q_mem 609 (by decide +kernel) (by decide +kernel)
theorem kf_X7_135 : Cond.fieldLink RX7 135 "DonorPartsModel" "length" "I" ∈ q_WS := q_mem 610 (by decide +kernel) (by decide +kernel)
theorem kf_X7_150 : Cond.fieldLink RX7 150 "DonorPartsModel" "at" "I" ∈ q_WS := q_mem 611 (by decide +kernel) (by decide +kernel)
theorem kf_X7_153 : Cond.fieldLink RX7 153 "DonorPartsModel" "isWell" "Z" ∈ q_WS := q_mem 612 (by decide +kernel) (by decide +kernel)
theorem kf_X7_29 : Cond.fieldLink RX7 29 "DonorPartsModel" "orders" "[I" ∈ q_WS := q_mem 613 (by decide +kernel) (by decide +kernel)
theorem kf_X7_164 : Cond.fieldLink RX7 164 "DonorPartsModel" "orderMany" "I" ∈ q_WS := q_mem 614 (by decide +kernel) (by decide +kernel)
theorem ka_int : Cond.arrayClass .int ∈ q_WS := q_mem 642 (by decide +kernel) (by decide +kernel)
theorem ka_boolean : Cond.arrayClass .boolean ∈ q_WS := q_mem 643 (by decide +kernel) (by decide +kernel)
theorem km_L_17 : Cond.methodLink RL 17 yX7_thing ∈ q_WS := q_mem 644 (by decide +kernel) (by decide +kernel)
theorem ki_yX7_thing : Cond.instanceMethod yX7_thing ∈ q_WS := q_mem 645 (by decide +kernel) (by decide +kernel)
theorem ks_yX7_thing : Cond.selects yX7_thing.cls yX7_thing yX7_thing ∈ q_WS := q_mem 646 (by decide +kernel) (by decide +kernel)
theorem km_X7_98 : Cond.methodLink RX7 98 yX7_refusesThing ∈ q_WS := q_mem 648 (by decide +kernel) (by decide +kernel)
theorem ki_yX7_refusesThing : Cond.instanceMethod yX7_refusesThing ∈ q_WS := q_mem 650 (by decide +kernel) (by decide +kernel)
theorem km_X7_94 : Cond.methodLink RX7 94 yX7_in ∈ q_WS := q_mem 652 (by decide +kernel) (by decide +kernel)
theorem kt_yX7_in : Cond.static yX7_in ∈ q_WS := q_mem 653 (by decide +kernel) (by decide +kernel)
theorem km_X7_43 : Cond.methodLink RX7 43 yX7_partsOf ∈ q_WS := q_mem 655 (by decide +kernel) (by decide +kernel)
theorem kt_yX7_partsOf : Cond.static yX7_partsOf ∈ q_WS := q_mem 656 (by decide +kernel) (by decide +kernel)
theorem km_X7_102 : Cond.methodLink RX7 102 yX7_records ∈ q_WS := q_mem 658 (by decide +kernel) (by decide +kernel)
theorem ki_yX7_records : Cond.instanceMethod yX7_records ∈ q_WS := q_mem 660 (by decide +kernel) (by decide +kernel)
theorem km_X7_105 : Cond.methodLink RX7 105 yX7_comes ∈ q_WS := q_mem 662 (by decide +kernel) (by decide +kernel)
theorem ki_yX7_comes : Cond.instanceMethod yX7_comes ∈ q_WS := q_mem 664 (by decide +kernel) (by decide +kernel)
theorem km_X7_47 : Cond.methodLink RX7 47 yX7_lay ∈ q_WS := q_mem 666 (by decide +kernel) (by decide +kernel)
theorem ki_yX7_lay : Cond.instanceMethod yX7_lay ∈ q_WS := q_mem 668 (by decide +kernel) (by decide +kernel)
theorem km_L_22 : Cond.methodLink RL 22 yX7_fixer ∈ q_WS := q_mem 670 (by decide +kernel) (by decide +kernel)
theorem ki_yX7_fixer : Cond.instanceMethod yX7_fixer ∈ q_WS := q_mem 671 (by decide +kernel) (by decide +kernel)
theorem ks_yX7_fixer : Cond.selects yX7_fixer.cls yX7_fixer yX7_fixer ∈ q_WS := q_mem 672 (by decide +kernel) (by decide +kernel)
theorem km_X7_108 : Cond.methodLink RX7 108 yX7_refusesFixer ∈ q_WS := q_mem 674 (by decide +kernel) (by decide +kernel)
theorem ki_yX7_refusesFixer : Cond.instanceMethod yX7_refusesFixer ∈ q_WS := q_mem 676 (by decide +kernel) (by decide +kernel)
theorem km_X7_111 : Cond.methodLink RX7 111 yX7_comesFixer ∈ q_WS := q_mem 678 (by decide +kernel) (by decide +kernel)
theorem ki_yX7_comesFixer : Cond.instanceMethod yX7_comesFixer ∈ q_WS := q_mem 680 (by decide +kernel) (by decide +kernel)
theorem km_L_26 : Cond.methodLink RL 26 yX7_drawer ∈ q_WS := q_mem 682 (by decide +kernel) (by decide +kernel)
theorem ki_yX7_drawer : Cond.instanceMethod yX7_drawer ∈ q_WS := q_mem 683 (by decide +kernel) (by decide +kernel)
theorem ks_yX7_drawer : Cond.selects yX7_drawer.cls yX7_drawer yX7_drawer ∈ q_WS := q_mem 684 (by decide +kernel) (by decide +kernel)
theorem km_X7_114 : Cond.methodLink RX7 114 yX7_refusesDrawer ∈ q_WS := q_mem 686 (by decide +kernel) (by decide +kernel)
theorem kt_yX7_refusesDrawer : Cond.static yX7_refusesDrawer ∈ q_WS := q_mem 687 (by decide +kernel) (by decide +kernel)
theorem km_L_31 : Cond.methodLink RL 31 yX7_giveUp ∈ q_WS := q_mem 689 (by decide +kernel) (by decide +kernel)
theorem ki_yX7_giveUp : Cond.instanceMethod yX7_giveUp ∈ q_WS := q_mem 690 (by decide +kernel) (by decide +kernel)
theorem ks_yX7_giveUp : Cond.selects yX7_giveUp.cls yX7_giveUp yX7_giveUp ∈ q_WS := q_mem 691 (by decide +kernel) (by decide +kernel)
theorem km_X7_117 : Cond.methodLink RX7 117 yX7_isThing ∈ q_WS := q_mem 693 (by decide +kernel) (by decide +kernel)
theorem ki_yX7_isThing : Cond.instanceMethod yX7_isThing ∈ q_WS := q_mem 695 (by decide +kernel) (by decide +kernel)
theorem km_X7_39 : Cond.methodLink RX7 39 yX7_of ∈ q_WS := q_mem 697 (by decide +kernel) (by decide +kernel)
theorem ki_yX7_of : Cond.instanceMethod yX7_of ∈ q_WS := q_mem 699 (by decide +kernel) (by decide +kernel)
theorem km_X7_54 : Cond.methodLink RX7 54 yX7_strips ∈ q_WS := q_mem 701 (by decide +kernel) (by decide +kernel)
theorem ki_yX7_strips : Cond.instanceMethod yX7_strips ∈ q_WS := q_mem 703 (by decide +kernel) (by decide +kernel)
theorem km_L_35 : Cond.methodLink RL 35 yX7_pass ∈ q_WS := q_mem 705 (by decide +kernel) (by decide +kernel)
theorem ki_yX7_pass : Cond.instanceMethod yX7_pass ∈ q_WS := q_mem 706 (by decide +kernel) (by decide +kernel)
theorem ks_yX7_pass : Cond.selects yX7_pass.cls yX7_pass yX7_pass ∈ q_WS := q_mem 707 (by decide +kernel) (by decide +kernel)
theorem km_X7_120 : Cond.methodLink RX7 120 yX7_refusesPass ∈ q_WS := q_mem 709 (by decide +kernel) (by decide +kernel)
theorem ki_yX7_refusesPass : Cond.instanceMethod yX7_refusesPass ∈ q_WS := q_mem 711 (by decide +kernel) (by decide +kernel)
theorem km_X7_123 : Cond.methodLink RX7 123 yX7_minutes ∈ q_WS := q_mem 713 (by decide +kernel) (by decide +kernel)
theorem ki_yX7_minutes : Cond.instanceMethod yX7_minutes ∈ q_WS := q_mem 715 (by decide +kernel) (by decide +kernel)
theorem km_X7_88 : Cond.methodLink RX7 88 yX7_withHow ∈ q_WS := q_mem 717 (by decide +kernel) (by decide +kernel)
theorem ki_yX7_withHow : Cond.instanceMethod yX7_withHow ∈ q_WS := q_mem 719 (by decide +kernel) (by decide +kernel)
theorem km_X7_91 : Cond.methodLink RX7 91 yX7_minute ∈ q_WS := q_mem 721 (by decide +kernel) (by decide +kernel)
theorem ki_yX7_minute : Cond.instanceMethod yX7_minute ∈ q_WS := q_mem 723 (by decide +kernel) (by decide +kernel)
theorem km_X7_51 : Cond.methodLink RX7 51 yX7_fixer0 ∈ q_WS := q_mem 725 (by decide +kernel) (by decide +kernel)
theorem ki_yX7_fixer0 : Cond.instanceMethod yX7_fixer0 ∈ q_WS := q_mem 727 (by decide +kernel) (by decide +kernel)
theorem km_X7_82 : Cond.methodLink RX7 82 yX7_takes ∈ q_WS := q_mem 729 (by decide +kernel) (by decide +kernel)
theorem ki_yX7_takes : Cond.instanceMethod yX7_takes ∈ q_WS := q_mem 731 (by decide +kernel) (by decide +kernel)
theorem km_X7_79 : Cond.methodLink RX7 79 yX7_nextFor ∈ q_WS := q_mem 733 (by decide +kernel) (by decide +kernel)
theorem ki_yX7_nextFor : Cond.instanceMethod yX7_nextFor ∈ q_WS := q_mem 735 (by decide +kernel) (by decide +kernel)
theorem km_X7_85 : Cond.methodLink RX7 85 yX7_works ∈ q_WS := q_mem 737 (by decide +kernel) (by decide +kernel)
theorem ki_yX7_works : Cond.instanceMethod yX7_works ∈ q_WS := q_mem 739 (by decide +kernel) (by decide +kernel)
theorem km_X7_57 : Cond.methodLink RX7 57 yX7_more ∈ q_WS := q_mem 741 (by decide +kernel) (by decide +kernel)
theorem ki_yX7_more : Cond.instanceMethod yX7_more ∈ q_WS := q_mem 743 (by decide +kernel) (by decide +kernel)
theorem km_X7_68 : Cond.methodLink RX7 68 yX7_exchanges ∈ q_WS := q_mem 745 (by decide +kernel) (by decide +kernel)
theorem ki_yX7_exchanges : Cond.instanceMethod yX7_exchanges ∈ q_WS := q_mem 747 (by decide +kernel) (by decide +kernel)
theorem km_X7_65 : Cond.methodLink RX7 65 yX7_lowest ∈ q_WS := q_mem 749 (by decide +kernel) (by decide +kernel)
theorem kt_yX7_lowest : Cond.static yX7_lowest ∈ q_WS := q_mem 750 (by decide +kernel) (by decide +kernel)
theorem km_X7_72 : Cond.methodLink RX7 72 yX7_tests ∈ q_WS := q_mem 752 (by decide +kernel) (by decide +kernel)
theorem ki_yX7_tests : Cond.instanceMethod yX7_tests ∈ q_WS := q_mem 754 (by decide +kernel) (by decide +kernel)
theorem km_X7_76 : Cond.methodLink RX7 76 yX7_givesUp ∈ q_WS := q_mem 756 (by decide +kernel) (by decide +kernel)
theorem ki_yX7_givesUp : Cond.instanceMethod yX7_givesUp ∈ q_WS := q_mem 758 (by decide +kernel) (by decide +kernel)
theorem km_X7_61 : Cond.methodLink RX7 61 yX7_frees ∈ q_WS := q_mem 760 (by decide +kernel) (by decide +kernel)
theorem ki_yX7_frees : Cond.instanceMethod yX7_frees ∈ q_WS := q_mem 762 (by decide +kernel) (by decide +kernel)
theorem km_L_39 : Cond.methodLink RL 39 yX7_ofThing ∈ q_WS := q_mem 764 (by decide +kernel) (by decide +kernel)
theorem ki_yX7_ofThing : Cond.instanceMethod yX7_ofThing ∈ q_WS := q_mem 765 (by decide +kernel) (by decide +kernel)
theorem ks_yX7_ofThing : Cond.selects yX7_ofThing.cls yX7_ofThing yX7_ofThing ∈ q_WS := q_mem 766 (by decide +kernel) (by decide +kernel)
theorem km_X7_126 : Cond.methodLink RX7 126 yX7_fixerOf ∈ q_WS := q_mem 768 (by decide +kernel) (by decide +kernel)
theorem ki_yX7_fixerOf : Cond.instanceMethod yX7_fixerOf ∈ q_WS := q_mem 770 (by decide +kernel) (by decide +kernel)
theorem km_X7_129 : Cond.methodLink RX7 129 yX7_placeOf ∈ q_WS := q_mem 772 (by decide +kernel) (by decide +kernel)
theorem ki_yX7_placeOf : Cond.instanceMethod yX7_placeOf ∈ q_WS := q_mem 774 (by decide +kernel) (by decide +kernel)
theorem km_L_43 : Cond.methodLink RL 43 yX7_ofFixer ∈ q_WS := q_mem 776 (by decide +kernel) (by decide +kernel)
theorem ki_yX7_ofFixer : Cond.instanceMethod yX7_ofFixer ∈ q_WS := q_mem 777 (by decide +kernel) (by decide +kernel)
theorem ks_yX7_ofFixer : Cond.selects yX7_ofFixer.cls yX7_ofFixer yX7_ofFixer ∈ q_WS := q_mem 778 (by decide +kernel) (by decide +kernel)
theorem km_L_47 : Cond.methodLink RL 47 yX7_ofPart ∈ q_WS := q_mem 780 (by decide +kernel) (by decide +kernel)
theorem ki_yX7_ofPart : Cond.instanceMethod yX7_ofPart ∈ q_WS := q_mem 781 (by decide +kernel) (by decide +kernel)
theorem ks_yX7_ofPart : Cond.selects yX7_ofPart.cls yX7_ofPart yX7_ofPart ∈ q_WS := q_mem 782 (by decide +kernel) (by decide +kernel)
theorem km_X7_132 : Cond.methodLink RX7 132 yX7_brokenOnes ∈ q_WS := q_mem 784 (by decide +kernel) (by decide +kernel)
theorem ki_yX7_brokenOnes : Cond.instanceMethod yX7_brokenOnes ∈ q_WS := q_mem 786 (by decide +kernel) (by decide +kernel)
theorem km_L_51 : Cond.methodLink RL 51 yX7_count ∈ q_WS := q_mem 788 (by decide +kernel) (by decide +kernel)
theorem ki_yX7_count : Cond.instanceMethod yX7_count ∈ q_WS := q_mem 789 (by decide +kernel) (by decide +kernel)
theorem ks_yX7_count : Cond.selects yX7_count.cls yX7_count yX7_count ∈ q_WS := q_mem 790 (by decide +kernel) (by decide +kernel)
theorem km_L_56 : Cond.methodLink RL 56 yX7_scarcest ∈ q_WS := q_mem 792 (by decide +kernel) (by decide +kernel)
theorem ki_yX7_scarcest : Cond.instanceMethod yX7_scarcest ∈ q_WS := q_mem 793 (by decide +kernel) (by decide +kernel)
theorem ks_yX7_scarcest : Cond.selects yX7_scarcest.cls yX7_scarcest yX7_scarcest ∈ q_WS := q_mem 794 (by decide +kernel) (by decide +kernel)
theorem km_L_60 : Cond.methodLink RL 60 yX7_doneIn ∈ q_WS := q_mem 796 (by decide +kernel) (by decide +kernel)
theorem ki_yX7_doneIn : Cond.instanceMethod yX7_doneIn ∈ q_WS := q_mem 797 (by decide +kernel) (by decide +kernel)
theorem ks_yX7_doneIn : Cond.selects yX7_doneIn.cls yX7_doneIn yX7_doneIn ∈ q_WS := q_mem 798 (by decide +kernel) (by decide +kernel)
theorem km_X7_138 : Cond.methodLink RX7 138 yX7_putAside ∈ q_WS := q_mem 800 (by decide +kernel) (by decide +kernel)
theorem ki_yX7_putAside : Cond.instanceMethod yX7_putAside ∈ q_WS := q_mem 802 (by decide +kernel) (by decide +kernel)
theorem km_X7_141 : Cond.methodLink RX7 141 yX7_takeBack ∈ q_WS := q_mem 804 (by decide +kernel) (by decide +kernel)
theorem ki_yX7_takeBack : Cond.instanceMethod yX7_takeBack ∈ q_WS := q_mem 806 (by decide +kernel) (by decide +kernel)
theorem km_L_65 : Cond.methodLink RL 65 yX7_withFixer ∈ q_WS := q_mem 808 (by decide +kernel) (by decide +kernel)
theorem ki_yX7_withFixer : Cond.instanceMethod yX7_withFixer ∈ q_WS := q_mem 809 (by decide +kernel) (by decide +kernel)
theorem ks_yX7_withFixer : Cond.selects yX7_withFixer.cls yX7_withFixer yX7_withFixer ∈ q_WS := q_mem 810 (by decide +kernel) (by decide +kernel)
theorem km_X7_144 : Cond.methodLink RX7 144 yX7_repairedWith ∈ q_WS := q_mem 812 (by decide +kernel) (by decide +kernel)
theorem ki_yX7_repairedWith : Cond.instanceMethod yX7_repairedWith ∈ q_WS := q_mem 814 (by decide +kernel) (by decide +kernel)
theorem km_L_69 : Cond.methodLink RL 69 yX7_bestCare ∈ q_WS := q_mem 816 (by decide +kernel) (by decide +kernel)
theorem ki_yX7_bestCare : Cond.instanceMethod yX7_bestCare ∈ q_WS := q_mem 817 (by decide +kernel) (by decide +kernel)
theorem ks_yX7_bestCare : Cond.selects yX7_bestCare.cls yX7_bestCare yX7_bestCare ∈ q_WS := q_mem 818 (by decide +kernel) (by decide +kernel)
theorem km_L_76 : Cond.methodLink RL 76 yX7_put ∈ q_WS := q_mem 820 (by decide +kernel) (by decide +kernel)
theorem ki_yX7_put : Cond.instanceMethod yX7_put ∈ q_WS := q_mem 821 (by decide +kernel) (by decide +kernel)
theorem ks_yX7_put : Cond.selects yX7_put.cls yX7_put yX7_put ∈ q_WS := q_mem 822 (by decide +kernel) (by decide +kernel)
theorem kg_X7_148 : Cond.constantLong RX7 148 255 ∈ q_WS := q_mem 824 (by decide +kernel) (by decide +kernel)
theorem km_L_80 : Cond.methodLink RL 80 yX7_wipe ∈ q_WS := q_mem 825 (by decide +kernel) (by decide +kernel)
theorem ki_yX7_wipe : Cond.instanceMethod yX7_wipe ∈ q_WS := q_mem 826 (by decide +kernel) (by decide +kernel)
theorem ks_yX7_wipe : Cond.selects yX7_wipe.cls yX7_wipe yX7_wipe ∈ q_WS := q_mem 827 (by decide +kernel) (by decide +kernel)
theorem km_L_84 : Cond.methodLink RL 84 yX7_fault ∈ q_WS := q_mem 829 (by decide +kernel) (by decide +kernel)
theorem ki_yX7_fault : Cond.instanceMethod yX7_fault ∈ q_WS := q_mem 830 (by decide +kernel) (by decide +kernel)
theorem ks_yX7_fault : Cond.selects yX7_fault.cls yX7_fault yX7_fault ∈ q_WS := q_mem 831 (by decide +kernel) (by decide +kernel)
theorem km_X7_179 : Cond.methodLink RX7 179 yX7_reads ∈ q_WS := q_mem 833 (by decide +kernel) (by decide +kernel)
theorem ki_yX7_reads : Cond.instanceMethod yX7_reads ∈ q_WS := q_mem 835 (by decide +kernel) (by decide +kernel)
theorem km_X7_176 : Cond.methodLink RX7 176 yX7_readsOrder ∈ q_WS := q_mem 837 (by decide +kernel) (by decide +kernel)
theorem ki_yX7_readsOrder : Cond.instanceMethod yX7_readsOrder ∈ q_WS := q_mem 839 (by decide +kernel) (by decide +kernel)
theorem km_X7_157 : Cond.methodLink RX7 157 yX7_sign ∈ q_WS := q_mem 841 (by decide +kernel) (by decide +kernel)
theorem ki_yX7_sign : Cond.instanceMethod yX7_sign ∈ q_WS := q_mem 843 (by decide +kernel) (by decide +kernel)
theorem km_X7_161 : Cond.methodLink RX7 161 yX7_digit ∈ q_WS := q_mem 845 (by decide +kernel) (by decide +kernel)
theorem ki_yX7_digit : Cond.instanceMethod yX7_digit ∈ q_WS := q_mem 847 (by decide +kernel) (by decide +kernel)
theorem km_X7_167 : Cond.methodLink RX7 167 yX7_takesSign ∈ q_WS := q_mem 849 (by decide +kernel) (by decide +kernel)
theorem ki_yX7_takesSign : Cond.instanceMethod yX7_takesSign ∈ q_WS := q_mem 851 (by decide +kernel) (by decide +kernel)
theorem km_X7_170 : Cond.methodLink RX7 170 yX7_digits ∈ q_WS := q_mem 853 (by decide +kernel) (by decide +kernel)
theorem ki_yX7_digits : Cond.instanceMethod yX7_digits ∈ q_WS := q_mem 855 (by decide +kernel) (by decide +kernel)
theorem km_X7_173 : Cond.methodLink RX7 173 yX7_number ∈ q_WS := q_mem 857 (by decide +kernel) (by decide +kernel)
theorem ki_yX7_number : Cond.instanceMethod yX7_number ∈ q_WS := q_mem 859 (by decide +kernel) (by decide +kernel)
theorem km_L_88 : Cond.methodLink RL 88 yX7_carryOut ∈ q_WS := q_mem 861 (by decide +kernel) (by decide +kernel)
theorem ki_yX7_carryOut : Cond.instanceMethod yX7_carryOut ∈ q_WS := q_mem 862 (by decide +kernel) (by decide +kernel)
theorem ks_yX7_carryOut : Cond.selects yX7_carryOut.cls yX7_carryOut yX7_carryOut ∈ q_WS := q_mem 863 (by decide +kernel) (by decide +kernel)
theorem km_X7_182 : Cond.methodLink RX7 182 yX7_refuses ∈ q_WS := q_mem 865 (by decide +kernel) (by decide +kernel)
theorem ki_yX7_refuses : Cond.instanceMethod yX7_refuses ∈ q_WS := q_mem 867 (by decide +kernel) (by decide +kernel)
theorem km_X7_185 : Cond.methodLink RX7 185 yX7_does ∈ q_WS := q_mem 869 (by decide +kernel) (by decide +kernel)
theorem ki_yX7_does : Cond.instanceMethod yX7_does ∈ q_WS := q_mem 871 (by decide +kernel) (by decide +kernel)
theorem km_L_92 : Cond.methodLink RL 92 yX7_undo ∈ q_WS := q_mem 873 (by decide +kernel) (by decide +kernel)
theorem ki_yX7_undo : Cond.instanceMethod yX7_undo ∈ q_WS := q_mem 874 (by decide +kernel) (by decide +kernel)
theorem ks_yX7_undo : Cond.selects yX7_undo.cls yX7_undo yX7_undo ∈ q_WS := q_mem 875 (by decide +kernel) (by decide +kernel)
theorem km_L_96 : Cond.methodLink RL 96 yX7_save ∈ q_WS := q_mem 877 (by decide +kernel) (by decide +kernel)
theorem ki_yX7_save : Cond.instanceMethod yX7_save ∈ q_WS := q_mem 878 (by decide +kernel) (by decide +kernel)
theorem ks_yX7_save : Cond.selects yX7_save.cls yX7_save yX7_save ∈ q_WS := q_mem 879 (by decide +kernel) (by decide +kernel)
theorem km_L_100 : Cond.methodLink RL 100 yX7_restore ∈ q_WS := q_mem 881 (by decide +kernel) (by decide +kernel)
theorem ki_yX7_restore : Cond.instanceMethod yX7_restore ∈ q_WS := q_mem 882 (by decide +kernel) (by decide +kernel)
theorem ks_yX7_restore : Cond.selects yX7_restore.cls yX7_restore yX7_restore ∈ q_WS := q_mem 883 (by decide +kernel) (by decide +kernel)
theorem kg_L_70 : Cond.constantLong RL 70 4294967295 ∈ q_WS := q_mem 885 (by decide +kernel) (by decide +kernel)
def mX6_init : q_Mth := (yX6_init, cX6_init, 1, none)
theorem kc_yX6_init : Cond.code yX6_init cX6_init 1 none ∈ q_WS := q_mem 68 (by decide +kernel) (by decide +kernel)
theorem kc_objectInit : Cond.code objectInit ⟨#[0xb1]⟩ 1 none ∈ q_WS := q_mem 71 (by decide +kernel) (by decide +kernel)
def mX0_init : q_Mth := (yX0_init, cX0_init, 2, none)
theorem kc_yX0_init : Cond.code yX0_init cX0_init 2 none ∈ q_WS := q_mem 76 (by decide +kernel) (by decide +kernel)
def mX5_init : q_Mth := (yX5_init, cX5_init, 1, none)
theorem kc_yX5_init : Cond.code yX5_init cX5_init 1 none ∈ q_WS := q_mem 87 (by decide +kernel) (by decide +kernel)
def mX1_init : q_Mth := (yX1_init, cX1_init, 1, none)
theorem kc_yX1_init : Cond.code yX1_init cX1_init 1 none ∈ q_WS := q_mem 132 (by decide +kernel) (by decide +kernel)
def mX3_init : q_Mth := (yX3_init, cX3_init, 1, none)
theorem kc_yX3_init : Cond.code yX3_init cX3_init 1 none ∈ q_WS := q_mem 168 (by decide +kernel) (by decide +kernel)
def mX4_init : q_Mth := (yX4_init, cX4_init, 2, none)
theorem kc_yX4_init : Cond.code yX4_init cX4_init 2 none ∈ q_WS := q_mem 210 (by decide +kernel) (by decide +kernel)
def mX2_init : q_Mth := (yX2_init, cX2_init, 1, none)
theorem kc_yX2_init : Cond.code yX2_init cX2_init 1 none ∈ q_WS := q_mem 230 (by decide +kernel) (by decide +kernel)
def mX6_thing : q_Mth := (yX6_thing, cX6_thing, 5, (some .int))
theorem kc_yX6_thing : Cond.code yX6_thing cX6_thing 5 (some .int) ∈ q_WS := q_mem 284 (by decide +kernel) (by decide +kernel)
def mX4_note : q_Mth := (yX4_note, cX4_note, 3, none)
theorem kc_yX4_note : Cond.code yX4_note cX4_note 3 none ∈ q_WS := q_mem 288 (by decide +kernel) (by decide +kernel)
def mX4_nextPlace : q_Mth := (yX4_nextPlace, cX4_nextPlace, 1, (some (.object "DonorParts$Cafe")))
theorem kc_yX4_nextPlace : Cond.code yX4_nextPlace cX4_nextPlace 1 (some (.object "DonorParts$Cafe")) ∈ q_WS := q_mem 292 (by decide +kernel) (by decide +kernel)
def mX0_copyFrom : q_Mth := (yX0_copyFrom, cX0_copyFrom, 4, none)
theorem kc_yX0_copyFrom : Cond.code yX0_copyFrom cX0_copyFrom 4 none ∈ q_WS := q_mem 296 (by decide +kernel) (by decide +kernel)
def mX0_thingAt : q_Mth := (yX0_thingAt, cX0_thingAt, 2, (some (.object "DonorParts$Thing")))
theorem kc_yX0_thingAt : Cond.code yX0_thingAt cX0_thingAt 2 (some (.object "DonorParts$Thing")) ∈ q_WS := q_mem 300 (by decide +kernel) (by decide +kernel)
def mX5_copyFrom : q_Mth := (yX5_copyFrom, cX5_copyFrom, 2, none)
theorem kc_yX5_copyFrom : Cond.code yX5_copyFrom cX5_copyFrom 2 none ∈ q_WS := q_mem 304 (by decide +kernel) (by decide +kernel)
def mX0_fixerAt : q_Mth := (yX0_fixerAt, cX0_fixerAt, 2, (some (.object "DonorParts$Fixer")))
theorem kc_yX0_fixerAt : Cond.code yX0_fixerAt cX0_fixerAt 2 (some (.object "DonorParts$Fixer")) ∈ q_WS := q_mem 308 (by decide +kernel) (by decide +kernel)
def mX1_copyFrom : q_Mth := (yX1_copyFrom, cX1_copyFrom, 2, none)
theorem kc_yX1_copyFrom : Cond.code yX1_copyFrom cX1_copyFrom 2 none ∈ q_WS := q_mem 312 (by decide +kernel) (by decide +kernel)
def mX0_partAt : q_Mth := (yX0_partAt, cX0_partAt, 2, (some (.object "DonorParts$Part")))
theorem kc_yX0_partAt : Cond.code yX0_partAt cX0_partAt 2 (some (.object "DonorParts$Part")) ∈ q_WS := q_mem 316 (by decide +kernel) (by decide +kernel)
def mX3_copyFrom : q_Mth := (yX3_copyFrom, cX3_copyFrom, 2, none)
theorem kc_yX3_copyFrom : Cond.code yX3_copyFrom cX3_copyFrom 2 none ∈ q_WS := q_mem 320 (by decide +kernel) (by decide +kernel)
def mX0_addThing : q_Mth := (yX0_addThing, cX0_addThing, 7, (some .int))
theorem kc_yX0_addThing : Cond.code yX0_addThing cX0_addThing 7 (some .int) ∈ q_WS := q_mem 324 (by decide +kernel) (by decide +kernel)
def mX6_partsOf : q_Mth := (yX6_partsOf, cX6_partsOf, 3, (some .int))
theorem kc_yX6_partsOf : Cond.code yX6_partsOf cX6_partsOf 3 (some .int) ∈ q_WS := q_mem 327 (by decide +kernel) (by decide +kernel)
def mX5_come : q_Mth := (yX5_come, cX5_come, 5, none)
theorem kc_yX5_come : Cond.code yX5_come cX5_come 5 none ∈ q_WS := q_mem 331 (by decide +kernel) (by decide +kernel)
def mX6_kept : q_Mth := (yX6_kept, cX6_kept, 2, (some .int))
theorem kc_yX6_kept : Cond.code yX6_kept cX6_kept 2 (some .int) ∈ q_WS := q_mem 335 (by decide +kernel) (by decide +kernel)
def mX4_keep : q_Mth := (yX4_keep, cX4_keep, 1, none)
theorem kc_yX4_keep : Cond.code yX4_keep cX4_keep 1 none ∈ q_WS := q_mem 339 (by decide +kernel) (by decide +kernel)
theorem kc_mmin : Cond.code Lib.Math.min.name Lib.Math.min.code 2 (some .int) ∈ q_WS := q_mem 342 (by decide +kernel) (by decide +kernel)
def mX6_fixer : q_Mth := (yX6_fixer, cX6_fixer, 3, (some .int))
theorem kc_yX6_fixer : Cond.code yX6_fixer cX6_fixer 3 (some .int) ∈ q_WS := q_mem 346 (by decide +kernel) (by decide +kernel)
def mX0_addFixer : q_Mth := (yX0_addFixer, cX0_addFixer, 5, (some .int))
theorem kc_yX0_addFixer : Cond.code yX0_addFixer cX0_addFixer 5 (some .int) ∈ q_WS := q_mem 350 (by decide +kernel) (by decide +kernel)
def mX6_isFixer : q_Mth := (yX6_isFixer, cX6_isFixer, 2, (some .boolean))
theorem kc_yX6_isFixer : Cond.code yX6_isFixer cX6_isFixer 2 (some .boolean) ∈ q_WS := q_mem 353 (by decide +kernel) (by decide +kernel)
def mX1_come : q_Mth := (yX1_come, cX1_come, 3, none)
theorem kc_yX1_come : Cond.code yX1_come cX1_come 3 none ∈ q_WS := q_mem 357 (by decide +kernel) (by decide +kernel)
def mX6_drawer : q_Mth := (yX6_drawer, cX6_drawer, 3, (some .int))
theorem kc_yX6_drawer : Cond.code yX6_drawer cX6_drawer 3 (some .int) ∈ q_WS := q_mem 361 (by decide +kernel) (by decide +kernel)
def mX0_fillDrawer : q_Mth := (yX0_fillDrawer, cX0_fillDrawer, 5, (some .int))
theorem kc_yX0_fillDrawer : Cond.code yX0_fillDrawer cX0_fillDrawer 5 (some .int) ∈ q_WS := q_mem 365 (by decide +kernel) (by decide +kernel)
def mX6_giveUp : q_Mth := (yX6_giveUp, cX6_giveUp, 2, (some .int))
theorem kc_yX6_giveUp : Cond.code yX6_giveUp cX6_giveUp 2 (some .int) ∈ q_WS := q_mem 369 (by decide +kernel) (by decide +kernel)
def mX0_giveWaitingUp : q_Mth := (yX0_giveWaitingUp, cX0_giveWaitingUp, 3, (some .int))
theorem kc_yX0_giveWaitingUp : Cond.code yX0_giveWaitingUp cX0_giveWaitingUp 3 (some .int) ∈ q_WS := q_mem 373 (by decide +kernel) (by decide +kernel)
def mX0_strip : q_Mth := (yX0_strip, cX0_strip, 6, (some .int))
theorem kc_yX0_strip : Cond.code yX0_strip cX0_strip 6 (some .int) ∈ q_WS := q_mem 377 (by decide +kernel) (by decide +kernel)
def mX6_isIn : q_Mth := (yX6_isIn, cX6_isIn, 2, (some .boolean))
theorem kc_yX6_isIn : Cond.code yX6_isIn cX6_isIn 2 (some .boolean) ∈ q_WS := q_mem 380 (by decide +kernel) (by decide +kernel)
def mX3_takeIn : q_Mth := (yX3_takeIn, cX3_takeIn, 1, (some .boolean))
theorem kc_yX3_takeIn : Cond.code yX3_takeIn cX3_takeIn 1 (some .boolean) ∈ q_WS := q_mem 384 (by decide +kernel) (by decide +kernel)
def mX5_end : q_Mth := (yX5_end, cX5_end, 2, none)
theorem kc_yX5_end : Cond.code yX5_end cX5_end 2 none ∈ q_WS := q_mem 388 (by decide +kernel) (by decide +kernel)
def mX6_pass : q_Mth := (yX6_pass, cX6_pass, 2, (some .int))
theorem kc_yX6_pass : Cond.code yX6_pass cX6_pass 2 (some .int) ∈ q_WS := q_mem 392 (by decide +kernel) (by decide +kernel)
def mX0_letPass : q_Mth := (yX0_letPass, cX0_letPass, 2, (some .int))
theorem kc_yX0_letPass : Cond.code yX0_letPass cX0_letPass 2 (some .int) ∈ q_WS := q_mem 396 (by decide +kernel) (by decide +kernel)
def mX0_passMinutes : q_Mth := (yX0_passMinutes, cX0_passMinutes, 5, (some .int))
theorem kc_yX0_passMinutes : Cond.code yX0_passMinutes cX0_passMinutes 5 (some .int) ∈ q_WS := q_mem 400 (by decide +kernel) (by decide +kernel)
def mX0_hasThingHere : q_Mth := (yX0_hasThingHere, cX0_hasThingHere, 3, (some .boolean))
theorem kc_yX0_hasThingHere : Cond.code yX0_hasThingHere cX0_hasThingHere 3 (some .boolean) ∈ q_WS := q_mem 404 (by decide +kernel) (by decide +kernel)
def mX5_isHere : q_Mth := (yX5_isHere, cX5_isHere, 1, (some .boolean))
theorem kc_yX5_isHere : Cond.code yX5_isHere cX5_isHere 1 (some .boolean) ∈ q_WS := q_mem 408 (by decide +kernel) (by decide +kernel)
def mX0_passMinute : q_Mth := (yX0_passMinute, cX0_passMinute, 3, (some .int))
theorem kc_yX0_passMinute : Cond.code yX0_passMinute cX0_passMinute 3 (some .int) ∈ q_WS := q_mem 412 (by decide +kernel) (by decide +kernel)
def mX0_takeThing : q_Mth := (yX0_takeThing, cX0_takeThing, 5, none)
theorem kc_yX0_takeThing : Cond.code yX0_takeThing cX0_takeThing 5 none ∈ q_WS := q_mem 416 (by decide +kernel) (by decide +kernel)
def mX0_nextOf : q_Mth := (yX0_nextOf, cX0_nextOf, 6, (some .int))
theorem kc_yX0_nextOf : Cond.code yX0_nextOf cX0_nextOf 6 (some .int) ∈ q_WS := q_mem 420 (by decide +kernel) (by decide +kernel)
def mX0_workOf : q_Mth := (yX0_workOf, cX0_workOf, 5, (some .int))
theorem kc_yX0_workOf : Cond.code yX0_workOf cX0_workOf 5 (some .int) ∈ q_WS := q_mem 424 (by decide +kernel) (by decide +kernel)
def mX0_exchangeLowest : q_Mth := (yX0_exchangeLowest, cX0_exchangeLowest, 4, (some .boolean))
theorem kc_yX0_exchangeLowest : Cond.code yX0_exchangeLowest cX0_exchangeLowest 4 (some .boolean) ∈ q_WS := q_mem 428 (by decide +kernel) (by decide +kernel)
def mX3_handOut : q_Mth := (yX3_handOut, cX3_handOut, 1, (some .boolean))
theorem kc_yX3_handOut : Cond.code yX3_handOut cX3_handOut 1 (some .boolean) ∈ q_WS := q_mem 432 (by decide +kernel) (by decide +kernel)
def mX5_tryTest : q_Mth := (yX5_tryTest, cX5_tryTest, 3, (some .boolean))
theorem kc_yX5_tryTest : Cond.code yX5_tryTest cX5_tryTest 3 (some .boolean) ∈ q_WS := q_mem 436 (by decide +kernel) (by decide +kernel)
def mX0_losePatience : q_Mth := (yX0_losePatience, cX0_losePatience, 3, none)
theorem kc_yX0_losePatience : Cond.code yX0_losePatience cX0_losePatience 3 none ∈ q_WS := q_mem 440 (by decide +kernel) (by decide +kernel)
def mX6_ofThing : q_Mth := (yX6_ofThing, cX6_ofThing, 4, (some .int))
theorem kc_yX6_ofThing : Cond.code yX6_ofThing cX6_ofThing 4 (some .int) ∈ q_WS := q_mem 444 (by decide +kernel) (by decide +kernel)
def mX0_placeOf : q_Mth := (yX0_placeOf, cX0_placeOf, 6, (some .int))
theorem kc_yX0_placeOf : Cond.code yX0_placeOf cX0_placeOf 6 (some .int) ∈ q_WS := q_mem 449 (by decide +kernel) (by decide +kernel)
def mX6_ofFixer : q_Mth := (yX6_ofFixer, cX6_ofFixer, 4, (some .int))
theorem kc_yX6_ofFixer : Cond.code yX6_ofFixer cX6_ofFixer 4 (some .int) ∈ q_WS := q_mem 453 (by decide +kernel) (by decide +kernel)
def mX6_ofPart : q_Mth := (yX6_ofPart, cX6_ofPart, 4, (some .int))
theorem kc_yX6_ofPart : Cond.code yX6_ofPart cX6_ofPart 4 (some .int) ∈ q_WS := q_mem 459 (by decide +kernel) (by decide +kernel)
def mX0_brokenOnes : q_Mth := (yX0_brokenOnes, cX0_brokenOnes, 5, (some .int))
theorem kc_yX0_brokenOnes : Cond.code yX0_brokenOnes cX0_brokenOnes 5 (some .int) ∈ q_WS := q_mem 464 (by decide +kernel) (by decide +kernel)
def mX6_count : q_Mth := (yX6_count, cX6_count, 2, (some .int))
theorem kc_yX6_count : Cond.code yX6_count cX6_count 2 (some .int) ∈ q_WS := q_mem 468 (by decide +kernel) (by decide +kernel)
def mX0_thingsThatAre : q_Mth := (yX0_thingsThatAre, cX0_thingsThatAre, 5, (some .int))
theorem kc_yX0_thingsThatAre : Cond.code yX0_thingsThatAre cX0_thingsThatAre 5 (some .int) ∈ q_WS := q_mem 472 (by decide +kernel) (by decide +kernel)
def mX6_scarcest : q_Mth := (yX6_scarcest, cX6_scarcest, 5, (some .int))
theorem kc_yX6_scarcest : Cond.code yX6_scarcest cX6_scarcest 5 (some .int) ∈ q_WS := q_mem 476 (by decide +kernel) (by decide +kernel)
def mX0_missingOnes : q_Mth := (yX0_missingOnes, cX0_missingOnes, 3, (some .int))
theorem kc_yX0_missingOnes : Cond.code yX0_missingOnes cX0_missingOnes 3 (some .int) ∈ q_WS := q_mem 480 (by decide +kernel) (by decide +kernel)
def mX6_doneIn : q_Mth := (yX6_doneIn, cX6_doneIn, 4, (some .int))
theorem kc_yX6_doneIn : Cond.code yX6_doneIn cX6_doneIn 4 (some .int) ∈ q_WS := q_mem 485 (by decide +kernel) (by decide +kernel)
def mX6_withFixer : q_Mth := (yX6_withFixer, cX6_withFixer, 4, (some .int))
theorem kc_yX6_withFixer : Cond.code yX6_withFixer cX6_withFixer 4 (some .int) ∈ q_WS := q_mem 492 (by decide +kernel) (by decide +kernel)
def mX6_isWhatIf : q_Mth := (yX6_isWhatIf, cX6_isWhatIf, 1, (some .boolean))
theorem kc_yX6_isWhatIf : Cond.code yX6_isWhatIf cX6_isWhatIf 1 (some .boolean) ∈ q_WS := q_mem 496 (by decide +kernel) (by decide +kernel)
def mX6_repairedWith : q_Mth := (yX6_repairedWith, cX6_repairedWith, 4, (some .int))
theorem kc_yX6_repairedWith : Cond.code yX6_repairedWith cX6_repairedWith 4 (some .int) ∈ q_WS := q_mem 500 (by decide +kernel) (by decide +kernel)
def mX6_bestCare : q_Mth := (yX6_bestCare, cX6_bestCare, 6, (some .int))
theorem kc_yX6_bestCare : Cond.code yX6_bestCare cX6_bestCare 6 (some .int) ∈ q_WS := q_mem 505 (by decide +kernel) (by decide +kernel)
def mX6_put : q_Mth := (yX6_put, cX6_put, 5, (some .int))
theorem kc_yX6_put : Cond.code yX6_put cX6_put 5 (some .int) ∈ q_WS := q_mem 509 (by decide +kernel) (by decide +kernel)
def mX6_signsIn : q_Mth := (yX6_signsIn, cX6_signsIn, 7, (some .int))
theorem kc_yX6_signsIn : Cond.code yX6_signsIn cX6_signsIn 7 (some .int) ∈ q_WS := q_mem 512 (by decide +kernel) (by decide +kernel)
def mX2_append : q_Mth := (yX2_append, cX2_append, 2, none)
theorem kc_yX2_append : Cond.code yX2_append cX2_append 2 none ∈ q_WS := q_mem 517 (by decide +kernel) (by decide +kernel)
def mX6_wipe : q_Mth := (yX6_wipe, cX6_wipe, 2, (some .int))
theorem kc_yX6_wipe : Cond.code yX6_wipe cX6_wipe 2 (some .int) ∈ q_WS := q_mem 521 (by decide +kernel) (by decide +kernel)
def mX6_fault : q_Mth := (yX6_fault, cX6_fault, 2, (some .int))
theorem kc_yX6_fault : Cond.code yX6_fault cX6_fault 2 (some .int) ∈ q_WS := q_mem 525 (by decide +kernel) (by decide +kernel)
def mX2_begin : q_Mth := (yX2_begin, cX2_begin, 1, none)
theorem kc_yX2_begin : Cond.code yX2_begin cX2_begin 1 none ∈ q_WS := q_mem 529 (by decide +kernel) (by decide +kernel)
def mX2_readOrder : q_Mth := (yX2_readOrder, cX2_readOrder, 1, (some .boolean))
theorem kc_yX2_readOrder : Cond.code yX2_readOrder cX2_readOrder 1 (some .boolean) ∈ q_WS := q_mem 533 (by decide +kernel) (by decide +kernel)
def mX2_sign : q_Mth := (yX2_sign, cX2_sign, 1, (some .int))
theorem kc_yX2_sign : Cond.code yX2_sign cX2_sign 1 (some .int) ∈ q_WS := q_mem 537 (by decide +kernel) (by decide +kernel)
def mX2_readSign : q_Mth := (yX2_readSign, cX2_readSign, 2, (some .boolean))
theorem kc_yX2_readSign : Cond.code yX2_readSign cX2_readSign 2 (some .boolean) ∈ q_WS := q_mem 541 (by decide +kernel) (by decide +kernel)
def mX2_readThing : q_Mth := (yX2_readThing, cX2_readThing, 1, (some .boolean))
theorem kc_yX2_readThing : Cond.code yX2_readThing cX2_readThing 1 (some .boolean) ∈ q_WS := q_mem 545 (by decide +kernel) (by decide +kernel)
def mX2_readDigit : q_Mth := (yX2_readDigit, cX2_readDigit, 3, (some .boolean))
theorem kc_yX2_readDigit : Cond.code yX2_readDigit cX2_readDigit 3 (some .boolean) ∈ q_WS := q_mem 549 (by decide +kernel) (by decide +kernel)
def mX2_digitAtMost : q_Mth := (yX2_digitAtMost, cX2_digitAtMost, 3, (some .int))
theorem kc_yX2_digitAtMost : Cond.code yX2_digitAtMost cX2_digitAtMost 3 (some .int) ∈ q_WS := q_mem 553 (by decide +kernel) (by decide +kernel)
def mX2_readSet : q_Mth := (yX2_readSet, cX2_readSet, 4, (some .boolean))
theorem kc_yX2_readSet : Cond.code yX2_readSet cX2_readSet 4 (some .boolean) ∈ q_WS := q_mem 557 (by decide +kernel) (by decide +kernel)
def mX2_readNumber : q_Mth := (yX2_readNumber, cX2_readNumber, 3, (some .boolean))
theorem kc_yX2_readNumber : Cond.code yX2_readNumber cX2_readNumber 3 (some .boolean) ∈ q_WS := q_mem 561 (by decide +kernel) (by decide +kernel)
def mX2_readLast : q_Mth := (yX2_readLast, cX2_readLast, 3, (some .boolean))
theorem kc_yX2_readLast : Cond.code yX2_readLast cX2_readLast 3 (some .boolean) ∈ q_WS := q_mem 565 (by decide +kernel) (by decide +kernel)
def mX2_isAtEnd : q_Mth := (yX2_isAtEnd, cX2_isAtEnd, 1, (some .boolean))
theorem kc_yX2_isAtEnd : Cond.code yX2_isAtEnd cX2_isAtEnd 1 (some .boolean) ∈ q_WS := q_mem 569 (by decide +kernel) (by decide +kernel)
def mX6_carryOut : q_Mth := (yX6_carryOut, cX6_carryOut, 2, (some .int))
theorem kc_yX6_carryOut : Cond.code yX6_carryOut cX6_carryOut 2 (some .int) ∈ q_WS := q_mem 574 (by decide +kernel) (by decide +kernel)
def mX6_carryOrder : q_Mth := (yX6_carryOrder, cX6_carryOrder, 1, (some .int))
theorem kc_yX6_carryOrder : Cond.code yX6_carryOrder cX6_carryOrder 1 (some .int) ∈ q_WS := q_mem 579 (by decide +kernel) (by decide +kernel)
def mX6_undo : q_Mth := (yX6_undo, cX6_undo, 1, (some .int))
theorem kc_yX6_undo : Cond.code yX6_undo cX6_undo 1 (some .int) ∈ q_WS := q_mem 583 (by decide +kernel) (by decide +kernel)
def mX4_takeBack : q_Mth := (yX4_takeBack, cX4_takeBack, 3, none)
theorem kc_yX4_takeBack : Cond.code yX4_takeBack cX4_takeBack 3 none ∈ q_WS := q_mem 587 (by decide +kernel) (by decide +kernel)
def mX6_save : q_Mth := (yX6_save, cX6_save, 3, (some .int))
theorem kc_yX6_save : Cond.code yX6_save cX6_save 3 (some .int) ∈ q_WS := q_mem 591 (by decide +kernel) (by decide +kernel)
def mX6_restore : q_Mth := (yX6_restore, cX6_restore, 3, (some .int))
theorem kc_yX6_restore : Cond.code yX6_restore cX6_restore 3 (some .int) ∈ q_WS := q_mem 595 (by decide +kernel) (by decide +kernel)
def mX7_init : q_Mth := (yX7_init, cX7_init, 2, none)
theorem kc_yX7_init : Cond.code yX7_init cX7_init 2 none ∈ q_WS := q_mem 600 (by decide +kernel) (by decide +kernel)
def mX7_thing : q_Mth := (yX7_thing, cX7_thing, 6, (some .int))
theorem kc_yX7_thing : Cond.code yX7_thing cX7_thing 6 (some .int) ∈ q_WS := q_mem 647 (by decide +kernel) (by decide +kernel)
def mX7_refusesThing : q_Mth := (yX7_refusesThing, cX7_refusesThing, 5, (some .int))
theorem kc_yX7_refusesThing : Cond.code yX7_refusesThing cX7_refusesThing 5 (some .int) ∈ q_WS := q_mem 651 (by decide +kernel) (by decide +kernel)
def mX7_in : q_Mth := (yX7_in, cX7_in, 3, (some .boolean))
theorem kc_yX7_in : Cond.code yX7_in cX7_in 3 (some .boolean) ∈ q_WS := q_mem 654 (by decide +kernel) (by decide +kernel)
def mX7_partsOf : q_Mth := (yX7_partsOf, cX7_partsOf, 1, (some .int))
theorem kc_yX7_partsOf : Cond.code yX7_partsOf cX7_partsOf 1 (some .int) ∈ q_WS := q_mem 657 (by decide +kernel) (by decide +kernel)
def mX7_records : q_Mth := (yX7_records, cX7_records, 2, none)
theorem kc_yX7_records : Cond.code yX7_records cX7_records 2 none ∈ q_WS := q_mem 661 (by decide +kernel) (by decide +kernel)
def mX7_comes : q_Mth := (yX7_comes, cX7_comes, 6, (some .int))
theorem kc_yX7_comes : Cond.code yX7_comes cX7_comes 6 (some .int) ∈ q_WS := q_mem 665 (by decide +kernel) (by decide +kernel)
def mX7_lay : q_Mth := (yX7_lay, cX7_lay, 4, none)
theorem kc_yX7_lay : Cond.code yX7_lay cX7_lay 4 none ∈ q_WS := q_mem 669 (by decide +kernel) (by decide +kernel)
def mX7_fixer : q_Mth := (yX7_fixer, cX7_fixer, 4, (some .int))
theorem kc_yX7_fixer : Cond.code yX7_fixer cX7_fixer 4 (some .int) ∈ q_WS := q_mem 673 (by decide +kernel) (by decide +kernel)
def mX7_refusesFixer : q_Mth := (yX7_refusesFixer, cX7_refusesFixer, 3, (some .int))
theorem kc_yX7_refusesFixer : Cond.code yX7_refusesFixer cX7_refusesFixer 3 (some .int) ∈ q_WS := q_mem 677 (by decide +kernel) (by decide +kernel)
def mX7_comesFixer : q_Mth := (yX7_comesFixer, cX7_comesFixer, 5, (some .int))
theorem kc_yX7_comesFixer : Cond.code yX7_comesFixer cX7_comesFixer 5 (some .int) ∈ q_WS := q_mem 681 (by decide +kernel) (by decide +kernel)
def mX7_drawer : q_Mth := (yX7_drawer, cX7_drawer, 5, (some .int))
theorem kc_yX7_drawer : Cond.code yX7_drawer cX7_drawer 5 (some .int) ∈ q_WS := q_mem 685 (by decide +kernel) (by decide +kernel)
def mX7_refusesDrawer : q_Mth := (yX7_refusesDrawer, cX7_refusesDrawer, 2, (some .int))
theorem kc_yX7_refusesDrawer : Cond.code yX7_refusesDrawer cX7_refusesDrawer 2 (some .int) ∈ q_WS := q_mem 688 (by decide +kernel) (by decide +kernel)
def mX7_giveUp : q_Mth := (yX7_giveUp, cX7_giveUp, 2, (some .int))
theorem kc_yX7_giveUp : Cond.code yX7_giveUp cX7_giveUp 2 (some .int) ∈ q_WS := q_mem 692 (by decide +kernel) (by decide +kernel)
def mX7_isThing : q_Mth := (yX7_isThing, cX7_isThing, 2, (some .boolean))
theorem kc_yX7_isThing : Cond.code yX7_isThing cX7_isThing 2 (some .boolean) ∈ q_WS := q_mem 696 (by decide +kernel) (by decide +kernel)
def mX7_of : q_Mth := (yX7_of, cX7_of, 3, (some .int))
theorem kc_yX7_of : Cond.code yX7_of cX7_of 3 (some .int) ∈ q_WS := q_mem 700 (by decide +kernel) (by decide +kernel)
def mX7_strips : q_Mth := (yX7_strips, cX7_strips, 6, (some .int))
theorem kc_yX7_strips : Cond.code yX7_strips cX7_strips 6 (some .int) ∈ q_WS := q_mem 704 (by decide +kernel) (by decide +kernel)
def mX7_pass : q_Mth := (yX7_pass, cX7_pass, 3, (some .int))
theorem kc_yX7_pass : Cond.code yX7_pass cX7_pass 3 (some .int) ∈ q_WS := q_mem 708 (by decide +kernel) (by decide +kernel)
def mX7_refusesPass : q_Mth := (yX7_refusesPass, cX7_refusesPass, 2, (some .int))
theorem kc_yX7_refusesPass : Cond.code yX7_refusesPass cX7_refusesPass 2 (some .int) ∈ q_WS := q_mem 712 (by decide +kernel) (by decide +kernel)
def mX7_minutes : q_Mth := (yX7_minutes, cX7_minutes, 4, (some .int))
theorem kc_yX7_minutes : Cond.code yX7_minutes cX7_minutes 4 (some .int) ∈ q_WS := q_mem 716 (by decide +kernel) (by decide +kernel)
def mX7_withHow : q_Mth := (yX7_withHow, cX7_withHow, 4, (some .int))
theorem kc_yX7_withHow : Cond.code yX7_withHow cX7_withHow 4 (some .int) ∈ q_WS := q_mem 720 (by decide +kernel) (by decide +kernel)
def mX7_minute : q_Mth := (yX7_minute, cX7_minute, 2, none)
theorem kc_yX7_minute : Cond.code yX7_minute cX7_minute 2 none ∈ q_WS := q_mem 724 (by decide +kernel) (by decide +kernel)
def mX7_fixer0 : q_Mth := (yX7_fixer0, cX7_fixer0, 3, (some .int))
theorem kc_yX7_fixer0 : Cond.code yX7_fixer0 cX7_fixer0 3 (some .int) ∈ q_WS := q_mem 728 (by decide +kernel) (by decide +kernel)
def mX7_takes : q_Mth := (yX7_takes, cX7_takes, 3, none)
theorem kc_yX7_takes : Cond.code yX7_takes cX7_takes 3 none ∈ q_WS := q_mem 732 (by decide +kernel) (by decide +kernel)
def mX7_nextFor : q_Mth := (yX7_nextFor, cX7_nextFor, 5, (some .int))
theorem kc_yX7_nextFor : Cond.code yX7_nextFor cX7_nextFor 5 (some .int) ∈ q_WS := q_mem 736 (by decide +kernel) (by decide +kernel)
def mX7_works : q_Mth := (yX7_works, cX7_works, 4, none)
theorem kc_yX7_works : Cond.code yX7_works cX7_works 4 none ∈ q_WS := q_mem 740 (by decide +kernel) (by decide +kernel)
def mX7_more : q_Mth := (yX7_more, cX7_more, 3, none)
theorem kc_yX7_more : Cond.code yX7_more cX7_more 3 none ∈ q_WS := q_mem 744 (by decide +kernel) (by decide +kernel)
def mX7_exchanges : q_Mth := (yX7_exchanges, cX7_exchanges, 3, (some .boolean))
theorem kc_yX7_exchanges : Cond.code yX7_exchanges cX7_exchanges 3 (some .boolean) ∈ q_WS := q_mem 748 (by decide +kernel) (by decide +kernel)
def mX7_lowest : q_Mth := (yX7_lowest, cX7_lowest, 2, (some .int))
theorem kc_yX7_lowest : Cond.code yX7_lowest cX7_lowest 2 (some .int) ∈ q_WS := q_mem 751 (by decide +kernel) (by decide +kernel)
def mX7_tests : q_Mth := (yX7_tests, cX7_tests, 4, (some .boolean))
theorem kc_yX7_tests : Cond.code yX7_tests cX7_tests 4 (some .boolean) ∈ q_WS := q_mem 755 (by decide +kernel) (by decide +kernel)
def mX7_givesUp : q_Mth := (yX7_givesUp, cX7_givesUp, 3, none)
theorem kc_yX7_givesUp : Cond.code yX7_givesUp cX7_givesUp 3 none ∈ q_WS := q_mem 759 (by decide +kernel) (by decide +kernel)
def mX7_frees : q_Mth := (yX7_frees, cX7_frees, 2, none)
theorem kc_yX7_frees : Cond.code yX7_frees cX7_frees 2 none ∈ q_WS := q_mem 763 (by decide +kernel) (by decide +kernel)
def mX7_ofThing : q_Mth := (yX7_ofThing, cX7_ofThing, 3, (some .int))
theorem kc_yX7_ofThing : Cond.code yX7_ofThing cX7_ofThing 3 (some .int) ∈ q_WS := q_mem 767 (by decide +kernel) (by decide +kernel)
def mX7_fixerOf : q_Mth := (yX7_fixerOf, cX7_fixerOf, 3, (some .int))
theorem kc_yX7_fixerOf : Cond.code yX7_fixerOf cX7_fixerOf 3 (some .int) ∈ q_WS := q_mem 771 (by decide +kernel) (by decide +kernel)
def mX7_placeOf : q_Mth := (yX7_placeOf, cX7_placeOf, 5, (some .int))
theorem kc_yX7_placeOf : Cond.code yX7_placeOf cX7_placeOf 5 (some .int) ∈ q_WS := q_mem 775 (by decide +kernel) (by decide +kernel)
def mX7_ofFixer : q_Mth := (yX7_ofFixer, cX7_ofFixer, 3, (some .int))
theorem kc_yX7_ofFixer : Cond.code yX7_ofFixer cX7_ofFixer 3 (some .int) ∈ q_WS := q_mem 779 (by decide +kernel) (by decide +kernel)
def mX7_ofPart : q_Mth := (yX7_ofPart, cX7_ofPart, 3, (some .int))
theorem kc_yX7_ofPart : Cond.code yX7_ofPart cX7_ofPart 3 (some .int) ∈ q_WS := q_mem 783 (by decide +kernel) (by decide +kernel)
def mX7_brokenOnes : q_Mth := (yX7_brokenOnes, cX7_brokenOnes, 4, (some .int))
theorem kc_yX7_brokenOnes : Cond.code yX7_brokenOnes cX7_brokenOnes 4 (some .int) ∈ q_WS := q_mem 787 (by decide +kernel) (by decide +kernel)
def mX7_count : q_Mth := (yX7_count, cX7_count, 2, (some .int))
theorem kc_yX7_count : Cond.code yX7_count cX7_count 2 (some .int) ∈ q_WS := q_mem 791 (by decide +kernel) (by decide +kernel)
def mX7_scarcest : q_Mth := (yX7_scarcest, cX7_scarcest, 5, (some .int))
theorem kc_yX7_scarcest : Cond.code yX7_scarcest cX7_scarcest 5 (some .int) ∈ q_WS := q_mem 795 (by decide +kernel) (by decide +kernel)
def mX7_doneIn : q_Mth := (yX7_doneIn, cX7_doneIn, 3, (some .int))
theorem kc_yX7_doneIn : Cond.code yX7_doneIn cX7_doneIn 3 (some .int) ∈ q_WS := q_mem 799 (by decide +kernel) (by decide +kernel)
def mX7_putAside : q_Mth := (yX7_putAside, cX7_putAside, 2, none)
theorem kc_yX7_putAside : Cond.code yX7_putAside cX7_putAside 2 none ∈ q_WS := q_mem 803 (by decide +kernel) (by decide +kernel)
def mX7_takeBack : q_Mth := (yX7_takeBack, cX7_takeBack, 2, none)
theorem kc_yX7_takeBack : Cond.code yX7_takeBack cX7_takeBack 2 none ∈ q_WS := q_mem 807 (by decide +kernel) (by decide +kernel)
def mX7_withFixer : q_Mth := (yX7_withFixer, cX7_withFixer, 5, (some .int))
theorem kc_yX7_withFixer : Cond.code yX7_withFixer cX7_withFixer 5 (some .int) ∈ q_WS := q_mem 811 (by decide +kernel) (by decide +kernel)
def mX7_repairedWith : q_Mth := (yX7_repairedWith, cX7_repairedWith, 5, (some .int))
theorem kc_yX7_repairedWith : Cond.code yX7_repairedWith cX7_repairedWith 5 (some .int) ∈ q_WS := q_mem 815 (by decide +kernel) (by decide +kernel)
def mX7_bestCare : q_Mth := (yX7_bestCare, cX7_bestCare, 6, (some .int))
theorem kc_yX7_bestCare : Cond.code yX7_bestCare cX7_bestCare 6 (some .int) ∈ q_WS := q_mem 819 (by decide +kernel) (by decide +kernel)
def mX7_put : q_Mth := (yX7_put, cX7_put, 8, (some .int))
theorem kc_yX7_put : Cond.code yX7_put cX7_put 8 (some .int) ∈ q_WS := q_mem 823 (by decide +kernel) (by decide +kernel)
def mX7_wipe : q_Mth := (yX7_wipe, cX7_wipe, 2, (some .int))
theorem kc_yX7_wipe : Cond.code yX7_wipe cX7_wipe 2 (some .int) ∈ q_WS := q_mem 828 (by decide +kernel) (by decide +kernel)
def mX7_fault : q_Mth := (yX7_fault, cX7_fault, 1, (some .int))
theorem kc_yX7_fault : Cond.code yX7_fault cX7_fault 1 (some .int) ∈ q_WS := q_mem 832 (by decide +kernel) (by decide +kernel)
def mX7_reads : q_Mth := (yX7_reads, cX7_reads, 1, (some .int))
theorem kc_yX7_reads : Cond.code yX7_reads cX7_reads 1 (some .int) ∈ q_WS := q_mem 836 (by decide +kernel) (by decide +kernel)
def mX7_readsOrder : q_Mth := (yX7_readsOrder, cX7_readsOrder, 4, none)
theorem kc_yX7_readsOrder : Cond.code yX7_readsOrder cX7_readsOrder 4 none ∈ q_WS := q_mem 840 (by decide +kernel) (by decide +kernel)
def mX7_sign : q_Mth := (yX7_sign, cX7_sign, 1, (some .int))
theorem kc_yX7_sign : Cond.code yX7_sign cX7_sign 1 (some .int) ∈ q_WS := q_mem 844 (by decide +kernel) (by decide +kernel)
def mX7_digit : q_Mth := (yX7_digit, cX7_digit, 3, (some .int))
theorem kc_yX7_digit : Cond.code yX7_digit cX7_digit 3 (some .int) ∈ q_WS := q_mem 848 (by decide +kernel) (by decide +kernel)
def mX7_takesSign : q_Mth := (yX7_takesSign, cX7_takesSign, 3, (some .boolean))
theorem kc_yX7_takesSign : Cond.code yX7_takesSign cX7_takesSign 3 (some .boolean) ∈ q_WS := q_mem 852 (by decide +kernel) (by decide +kernel)
def mX7_digits : q_Mth := (yX7_digits, cX7_digits, 3, (some .int))
theorem kc_yX7_digits : Cond.code yX7_digits cX7_digits 3 (some .int) ∈ q_WS := q_mem 856 (by decide +kernel) (by decide +kernel)
def mX7_number : q_Mth := (yX7_number, cX7_number, 2, (some .int))
theorem kc_yX7_number : Cond.code yX7_number cX7_number 2 (some .int) ∈ q_WS := q_mem 860 (by decide +kernel) (by decide +kernel)
def mX7_carryOut : q_Mth := (yX7_carryOut, cX7_carryOut, 2, (some .int))
theorem kc_yX7_carryOut : Cond.code yX7_carryOut cX7_carryOut 2 (some .int) ∈ q_WS := q_mem 864 (by decide +kernel) (by decide +kernel)
def mX7_refuses : q_Mth := (yX7_refuses, cX7_refuses, 2, (some .int))
theorem kc_yX7_refuses : Cond.code yX7_refuses cX7_refuses 2 (some .int) ∈ q_WS := q_mem 868 (by decide +kernel) (by decide +kernel)
def mX7_does : q_Mth := (yX7_does, cX7_does, 2, none)
theorem kc_yX7_does : Cond.code yX7_does cX7_does 2 none ∈ q_WS := q_mem 872 (by decide +kernel) (by decide +kernel)
def mX7_undo : q_Mth := (yX7_undo, cX7_undo, 2, (some .int))
theorem kc_yX7_undo : Cond.code yX7_undo cX7_undo 2 (some .int) ∈ q_WS := q_mem 876 (by decide +kernel) (by decide +kernel)
def mX7_save : q_Mth := (yX7_save, cX7_save, 3, (some .int))
theorem kc_yX7_save : Cond.code yX7_save cX7_save 3 (some .int) ∈ q_WS := q_mem 880 (by decide +kernel) (by decide +kernel)
def mX7_restore : q_Mth := (yX7_restore, cX7_restore, 3, (some .int))
theorem kc_yX7_restore : Cond.code yX7_restore cX7_restore 3 (some .int) ∈ q_WS := q_mem 884 (by decide +kernel) (by decide +kernel)
theorem kv_yX0_init : q_Vm mX0_init 0 := ⟨kc_yX0_init, k0_X0, ⟨by decide +kernel, by decide +kernel, by decide +kernel⟩, by decide⟩
theorem kv_yX0_thingAt : q_Vm mX0_thingAt 1 := ⟨kc_yX0_thingAt, k0_X0, ⟨by decide +kernel, by decide +kernel, by decide +kernel⟩, by decide⟩
theorem kv_yX0_fixerAt : q_Vm mX0_fixerAt 1 := ⟨kc_yX0_fixerAt, k0_X0, ⟨by decide +kernel, by decide +kernel, by decide +kernel⟩, by decide⟩
theorem kv_yX0_partAt : q_Vm mX0_partAt 1 := ⟨kc_yX0_partAt, k0_X0, ⟨by decide +kernel, by decide +kernel, by decide +kernel⟩, by decide⟩
theorem kv_yX0_copyFrom : q_Vm mX0_copyFrom 1 := ⟨kc_yX0_copyFrom, k0_X0, ⟨by decide +kernel, by decide +kernel, by decide +kernel⟩, by decide⟩
theorem kv_yX0_addThing : q_Vm mX0_addThing 4 := ⟨kc_yX0_addThing, k0_X0, ⟨by decide +kernel, by decide +kernel, by decide +kernel⟩, by decide⟩
theorem kv_yX0_addFixer : q_Vm mX0_addFixer 2 := ⟨kc_yX0_addFixer, k0_X0, ⟨by decide +kernel, by decide +kernel, by decide +kernel⟩, by decide⟩
theorem kv_yX0_fillDrawer : q_Vm mX0_fillDrawer 2 := ⟨kc_yX0_fillDrawer, k0_X0, ⟨by decide +kernel, by decide +kernel, by decide +kernel⟩, by decide⟩
theorem kv_yX0_giveWaitingUp : q_Vm mX0_giveWaitingUp 1 := ⟨kc_yX0_giveWaitingUp, k0_X0, ⟨by decide +kernel, by decide +kernel, by decide +kernel⟩, by decide⟩
theorem kv_yX0_letPass : q_Vm mX0_letPass 1 := ⟨kc_yX0_letPass, k0_X0, ⟨by decide +kernel, by decide +kernel, by decide +kernel⟩, by decide⟩
theorem kv_yX0_passMinutes : q_Vm mX0_passMinutes 1 := ⟨kc_yX0_passMinutes, k0_X0, ⟨by decide +kernel, by decide +kernel, by decide +kernel⟩, by decide⟩
theorem kv_yX0_passMinute : q_Vm mX0_passMinute 0 := ⟨kc_yX0_passMinute, k0_X0, ⟨by decide +kernel, by decide +kernel, by decide +kernel⟩, by decide⟩
theorem kv_yX0_takeThing : q_Vm mX0_takeThing 1 := ⟨kc_yX0_takeThing, k0_X0, ⟨by decide +kernel, by decide +kernel, by decide +kernel⟩, by decide⟩
theorem kv_yX0_workOf : q_Vm mX0_workOf 1 := ⟨kc_yX0_workOf, k0_X0, ⟨by decide +kernel, by decide +kernel, by decide +kernel⟩, by decide⟩
theorem kv_yX0_exchangeLowest : q_Vm mX0_exchangeLowest 1 := ⟨kc_yX0_exchangeLowest, k0_X0, ⟨by decide +kernel, by decide +kernel, by decide +kernel⟩, by decide⟩
theorem kv_yX0_strip : q_Vm mX0_strip 1 := ⟨kc_yX0_strip, k0_X0, ⟨by decide +kernel, by decide +kernel, by decide +kernel⟩, by decide⟩
theorem kv_yX0_losePatience : q_Vm mX0_losePatience 0 := ⟨kc_yX0_losePatience, k0_X0, ⟨by decide +kernel, by decide +kernel, by decide +kernel⟩, by decide⟩
theorem kv_yX0_hasThingHere : q_Vm mX0_hasThingHere 0 := ⟨kc_yX0_hasThingHere, k0_X0, ⟨by decide +kernel, by decide +kernel, by decide +kernel⟩, by decide⟩
theorem kv_yX0_nextOf : q_Vm mX0_nextOf 1 := ⟨kc_yX0_nextOf, k0_X0, ⟨by decide +kernel, by decide +kernel, by decide +kernel⟩, by decide⟩
theorem kv_yX0_placeOf : q_Vm mX0_placeOf 1 := ⟨kc_yX0_placeOf, k0_X0, ⟨by decide +kernel, by decide +kernel, by decide +kernel⟩, by decide⟩
theorem kv_yX0_thingsThatAre : q_Vm mX0_thingsThatAre 1 := ⟨kc_yX0_thingsThatAre, k0_X0, ⟨by decide +kernel, by decide +kernel, by decide +kernel⟩, by decide⟩
theorem kv_yX0_brokenOnes : q_Vm mX0_brokenOnes 1 := ⟨kc_yX0_brokenOnes, k0_X0, ⟨by decide +kernel, by decide +kernel, by decide +kernel⟩, by decide⟩
theorem kv_yX0_missingOnes : q_Vm mX0_missingOnes 1 := ⟨kc_yX0_missingOnes, k0_X0, ⟨by decide +kernel, by decide +kernel, by decide +kernel⟩, by decide⟩
theorem kv_yX1_init : q_Vm mX1_init 0 := ⟨kc_yX1_init, k0_X1, ⟨by decide +kernel, by decide +kernel, by decide +kernel⟩, by decide⟩
theorem kv_yX1_come : q_Vm mX1_come 2 := ⟨kc_yX1_come, k0_X1, ⟨by decide +kernel, by decide +kernel, by decide +kernel⟩, by decide⟩
theorem kv_yX1_copyFrom : q_Vm mX1_copyFrom 1 := ⟨kc_yX1_copyFrom, k0_X1, ⟨by decide +kernel, by decide +kernel, by decide +kernel⟩, by decide⟩
theorem kv_yX2_init : q_Vm mX2_init 0 := ⟨kc_yX2_init, k0_X2, ⟨by decide +kernel, by decide +kernel, by decide +kernel⟩, by decide⟩
theorem kv_yX2_append : q_Vm mX2_append 1 := ⟨kc_yX2_append, k0_X2, ⟨by decide +kernel, by decide +kernel, by decide +kernel⟩, by decide⟩
theorem kv_yX2_sign : q_Vm mX2_sign 0 := ⟨kc_yX2_sign, k0_X2, ⟨by decide +kernel, by decide +kernel, by decide +kernel⟩, by decide⟩
theorem kv_yX2_begin : q_Vm mX2_begin 0 := ⟨kc_yX2_begin, k0_X2, ⟨by decide +kernel, by decide +kernel, by decide +kernel⟩, by decide⟩
theorem kv_yX2_isAtEnd : q_Vm mX2_isAtEnd 0 := ⟨kc_yX2_isAtEnd, k0_X2, ⟨by decide +kernel, by decide +kernel, by decide +kernel⟩, by decide⟩
theorem kv_yX2_readOrder : q_Vm mX2_readOrder 0 := ⟨kc_yX2_readOrder, k0_X2, ⟨by decide +kernel, by decide +kernel, by decide +kernel⟩, by decide⟩
theorem kv_yX2_readSign : q_Vm mX2_readSign 1 := ⟨kc_yX2_readSign, k0_X2, ⟨by decide +kernel, by decide +kernel, by decide +kernel⟩, by decide⟩
theorem kv_yX2_readThing : q_Vm mX2_readThing 0 := ⟨kc_yX2_readThing, k0_X2, ⟨by decide +kernel, by decide +kernel, by decide +kernel⟩, by decide⟩
theorem kv_yX2_readDigit : q_Vm mX2_readDigit 1 := ⟨kc_yX2_readDigit, k0_X2, ⟨by decide +kernel, by decide +kernel, by decide +kernel⟩, by decide⟩
theorem kv_yX2_readLast : q_Vm mX2_readLast 1 := ⟨kc_yX2_readLast, k0_X2, ⟨by decide +kernel, by decide +kernel, by decide +kernel⟩, by decide⟩
theorem kv_yX2_readSet : q_Vm mX2_readSet 1 := ⟨kc_yX2_readSet, k0_X2, ⟨by decide +kernel, by decide +kernel, by decide +kernel⟩, by decide⟩
theorem kv_yX2_readNumber : q_Vm mX2_readNumber 0 := ⟨kc_yX2_readNumber, k0_X2, ⟨by decide +kernel, by decide +kernel, by decide +kernel⟩, by decide⟩
theorem kv_yX2_digitAtMost : q_Vm mX2_digitAtMost 1 := ⟨kc_yX2_digitAtMost, k0_X2, ⟨by decide +kernel, by decide +kernel, by decide +kernel⟩, by decide⟩
theorem kv_yX3_init : q_Vm mX3_init 0 := ⟨kc_yX3_init, k0_X3, ⟨by decide +kernel, by decide +kernel, by decide +kernel⟩, by decide⟩
theorem kv_yX3_copyFrom : q_Vm mX3_copyFrom 1 := ⟨kc_yX3_copyFrom, k0_X3, ⟨by decide +kernel, by decide +kernel, by decide +kernel⟩, by decide⟩
theorem kv_yX3_takeIn : q_Vm mX3_takeIn 0 := ⟨kc_yX3_takeIn, k0_X3, ⟨by decide +kernel, by decide +kernel, by decide +kernel⟩, by decide⟩
theorem kv_yX3_handOut : q_Vm mX3_handOut 0 := ⟨kc_yX3_handOut, k0_X3, ⟨by decide +kernel, by decide +kernel, by decide +kernel⟩, by decide⟩
theorem kv_yX4_init : q_Vm mX4_init 0 := ⟨kc_yX4_init, k0_X4, ⟨by decide +kernel, by decide +kernel, by decide +kernel⟩, by decide⟩
theorem kv_yX4_note : q_Vm mX4_note 1 := ⟨kc_yX4_note, k0_X4, ⟨by decide +kernel, by decide +kernel, by decide +kernel⟩, by decide⟩
theorem kv_yX4_keep : q_Vm mX4_keep 0 := ⟨kc_yX4_keep, k0_X4, ⟨by decide +kernel, by decide +kernel, by decide +kernel⟩, by decide⟩
theorem kv_yX4_takeBack : q_Vm mX4_takeBack 1 := ⟨kc_yX4_takeBack, k0_X4, ⟨by decide +kernel, by decide +kernel, by decide +kernel⟩, by decide⟩
theorem kv_yX4_nextPlace : q_Vm mX4_nextPlace 0 := ⟨kc_yX4_nextPlace, k0_X4, ⟨by decide +kernel, by decide +kernel, by decide +kernel⟩, by decide⟩
theorem kv_yX5_init : q_Vm mX5_init 0 := ⟨kc_yX5_init, k0_X5, ⟨by decide +kernel, by decide +kernel, by decide +kernel⟩, by decide⟩
theorem kv_yX5_come : q_Vm mX5_come 4 := ⟨kc_yX5_come, k0_X5, ⟨by decide +kernel, by decide +kernel, by decide +kernel⟩, by decide⟩
theorem kv_yX5_copyFrom : q_Vm mX5_copyFrom 1 := ⟨kc_yX5_copyFrom, k0_X5, ⟨by decide +kernel, by decide +kernel, by decide +kernel⟩, by decide⟩
theorem kv_yX5_isHere : q_Vm mX5_isHere 0 := ⟨kc_yX5_isHere, k0_X5, ⟨by decide +kernel, by decide +kernel, by decide +kernel⟩, by decide⟩
theorem kv_yX5_end : q_Vm mX5_end 1 := ⟨kc_yX5_end, k0_X5, ⟨by decide +kernel, by decide +kernel, by decide +kernel⟩, by decide⟩
theorem kv_yX5_tryTest : q_Vm mX5_tryTest 2 := ⟨kc_yX5_tryTest, k0_X5, ⟨by decide +kernel, by decide +kernel, by decide +kernel⟩, by decide⟩
theorem kv_yX6_init : q_Vm mX6_init 0 := ⟨kc_yX6_init, k0_X6, ⟨by decide +kernel, by decide +kernel, by decide +kernel⟩, by decide⟩
theorem kv_yX6_thing : q_Vm mX6_thing 4 := ⟨kc_yX6_thing, k0_X6, ⟨by decide +kernel, by decide +kernel, by decide +kernel⟩, by decide⟩
theorem kv_yX6_fixer : q_Vm mX6_fixer 2 := ⟨kc_yX6_fixer, k0_X6, ⟨by decide +kernel, by decide +kernel, by decide +kernel⟩, by decide⟩
theorem kv_yX6_drawer : q_Vm mX6_drawer 2 := ⟨kc_yX6_drawer, k0_X6, ⟨by decide +kernel, by decide +kernel, by decide +kernel⟩, by decide⟩
theorem kv_yX6_giveUp : q_Vm mX6_giveUp 1 := ⟨kc_yX6_giveUp, k0_X6, ⟨by decide +kernel, by decide +kernel, by decide +kernel⟩, by decide⟩
theorem kv_yX6_pass : q_Vm mX6_pass 1 := ⟨kc_yX6_pass, k0_X6, ⟨by decide +kernel, by decide +kernel, by decide +kernel⟩, by decide⟩
theorem kv_yX6_ofThing : q_Vm mX6_ofThing 2 := ⟨kc_yX6_ofThing, k0_X6, ⟨by decide +kernel, by decide +kernel, by decide +kernel⟩, by decide⟩
theorem kv_yX6_ofFixer : q_Vm mX6_ofFixer 2 := ⟨kc_yX6_ofFixer, k0_X6, ⟨by decide +kernel, by decide +kernel, by decide +kernel⟩, by decide⟩
theorem kv_yX6_ofPart : q_Vm mX6_ofPart 2 := ⟨kc_yX6_ofPart, k0_X6, ⟨by decide +kernel, by decide +kernel, by decide +kernel⟩, by decide⟩
theorem kv_yX6_count : q_Vm mX6_count 1 := ⟨kc_yX6_count, k0_X6, ⟨by decide +kernel, by decide +kernel, by decide +kernel⟩, by decide⟩
theorem kv_yX6_scarcest : q_Vm mX6_scarcest 0 := ⟨kc_yX6_scarcest, k0_X6, ⟨by decide +kernel, by decide +kernel, by decide +kernel⟩, by decide⟩
theorem kv_yX6_doneIn : q_Vm mX6_doneIn 1 := ⟨kc_yX6_doneIn, k0_X6, ⟨by decide +kernel, by decide +kernel, by decide +kernel⟩, by decide⟩
theorem kv_yX6_withFixer : q_Vm mX6_withFixer 3 := ⟨kc_yX6_withFixer, k0_X6, ⟨by decide +kernel, by decide +kernel, by decide +kernel⟩, by decide⟩
theorem kv_yX6_bestCare : q_Vm mX6_bestCare 1 := ⟨kc_yX6_bestCare, k0_X6, ⟨by decide +kernel, by decide +kernel, by decide +kernel⟩, by decide⟩
theorem kv_yX6_put : q_Vm mX6_put 1 := ⟨kc_yX6_put, k0_X6, ⟨by decide +kernel, by decide +kernel, by decide +kernel⟩, by decide⟩
theorem kv_yX6_wipe : q_Vm mX6_wipe 0 := ⟨kc_yX6_wipe, k0_X6, ⟨by decide +kernel, by decide +kernel, by decide +kernel⟩, by decide⟩
theorem kv_yX6_fault : q_Vm mX6_fault 0 := ⟨kc_yX6_fault, k0_X6, ⟨by decide +kernel, by decide +kernel, by decide +kernel⟩, by decide⟩
theorem kv_yX6_carryOut : q_Vm mX6_carryOut 0 := ⟨kc_yX6_carryOut, k0_X6, ⟨by decide +kernel, by decide +kernel, by decide +kernel⟩, by decide⟩
theorem kv_yX6_undo : q_Vm mX6_undo 0 := ⟨kc_yX6_undo, k0_X6, ⟨by decide +kernel, by decide +kernel, by decide +kernel⟩, by decide⟩
theorem kv_yX6_save : q_Vm mX6_save 1 := ⟨kc_yX6_save, k0_X6, ⟨by decide +kernel, by decide +kernel, by decide +kernel⟩, by decide⟩
theorem kv_yX6_restore : q_Vm mX6_restore 1 := ⟨kc_yX6_restore, k0_X6, ⟨by decide +kernel, by decide +kernel, by decide +kernel⟩, by decide⟩
theorem kv_yX6_kept : q_Vm mX6_kept 1 := ⟨kc_yX6_kept, k0_X6, ⟨by decide +kernel, by decide +kernel, by decide +kernel⟩, by decide⟩
theorem kv_yX6_repairedWith : q_Vm mX6_repairedWith 3 := ⟨kc_yX6_repairedWith, k0_X6, ⟨by decide +kernel, by decide +kernel, by decide +kernel⟩, by decide⟩
theorem kv_yX6_carryOrder : q_Vm mX6_carryOrder 0 := ⟨kc_yX6_carryOrder, k0_X6, ⟨by decide +kernel, by decide +kernel, by decide +kernel⟩, by decide⟩
theorem kv_yX6_signsIn : q_Vm mX6_signsIn 1 := ⟨kc_yX6_signsIn, k0_X6, ⟨by decide +kernel, by decide +kernel, by decide +kernel⟩, by decide⟩
theorem kv_yX6_isFixer : q_Vm mX6_isFixer 2 := ⟨kc_yX6_isFixer, k0_X6, ⟨by decide +kernel, by decide +kernel, by decide +kernel⟩, by decide⟩
theorem kv_yX6_isWhatIf : q_Vm mX6_isWhatIf 1 := ⟨kc_yX6_isWhatIf, k0_X6, ⟨by decide +kernel, by decide +kernel, by decide +kernel⟩, by decide⟩
theorem kv_yX6_isIn : q_Vm mX6_isIn 2 := ⟨kc_yX6_isIn, k0_X6, ⟨by decide +kernel, by decide +kernel, by decide +kernel⟩, by decide⟩
theorem kv_yX6_partsOf : q_Vm mX6_partsOf 1 := ⟨kc_yX6_partsOf, k0_X6, ⟨by decide +kernel, by decide +kernel, by decide +kernel⟩, by decide⟩
theorem kv_yX7_init : q_Vm mX7_init 0 := ⟨kc_yX7_init, k0_X7, ⟨by decide +kernel, by decide +kernel, by decide +kernel⟩, by decide⟩
theorem kv_yX7_in : q_Vm mX7_in 3 := ⟨kc_yX7_in, k0_X7, ⟨by decide +kernel, by decide +kernel, by decide +kernel⟩, by decide⟩
theorem kv_yX7_of : q_Vm mX7_of 2 := ⟨kc_yX7_of, k0_X7, ⟨by decide +kernel, by decide +kernel, by decide +kernel⟩, by decide⟩
theorem kv_yX7_lay : q_Vm mX7_lay 3 := ⟨kc_yX7_lay, k0_X7, ⟨by decide +kernel, by decide +kernel, by decide +kernel⟩, by decide⟩
theorem kv_yX7_fixer0 : q_Vm mX7_fixer0 2 := ⟨kc_yX7_fixer0, k0_X7, ⟨by decide +kernel, by decide +kernel, by decide +kernel⟩, by decide⟩
theorem kv_yX7_more : q_Vm mX7_more 2 := ⟨kc_yX7_more, k0_X7, ⟨by decide +kernel, by decide +kernel, by decide +kernel⟩, by decide⟩
theorem kv_yX7_records : q_Vm mX7_records 0 := ⟨kc_yX7_records, k0_X7, ⟨by decide +kernel, by decide +kernel, by decide +kernel⟩, by decide⟩
theorem kv_yX7_putAside : q_Vm mX7_putAside 0 := ⟨kc_yX7_putAside, k0_X7, ⟨by decide +kernel, by decide +kernel, by decide +kernel⟩, by decide⟩
theorem kv_yX7_takeBack : q_Vm mX7_takeBack 0 := ⟨kc_yX7_takeBack, k0_X7, ⟨by decide +kernel, by decide +kernel, by decide +kernel⟩, by decide⟩
theorem kv_yX7_partsOf : q_Vm mX7_partsOf 1 := ⟨kc_yX7_partsOf, k0_X7, ⟨by decide +kernel, by decide +kernel, by decide +kernel⟩, by decide⟩
theorem kv_yX7_lowest : q_Vm mX7_lowest 1 := ⟨kc_yX7_lowest, k0_X7, ⟨by decide +kernel, by decide +kernel, by decide +kernel⟩, by decide⟩
theorem kv_yX7_strips : q_Vm mX7_strips 1 := ⟨kc_yX7_strips, k0_X7, ⟨by decide +kernel, by decide +kernel, by decide +kernel⟩, by decide⟩
theorem kv_yX7_nextFor : q_Vm mX7_nextFor 1 := ⟨kc_yX7_nextFor, k0_X7, ⟨by decide +kernel, by decide +kernel, by decide +kernel⟩, by decide⟩
theorem kv_yX7_fixerOf : q_Vm mX7_fixerOf 1 := ⟨kc_yX7_fixerOf, k0_X7, ⟨by decide +kernel, by decide +kernel, by decide +kernel⟩, by decide⟩
theorem kv_yX7_frees : q_Vm mX7_frees 1 := ⟨kc_yX7_frees, k0_X7, ⟨by decide +kernel, by decide +kernel, by decide +kernel⟩, by decide⟩
theorem kv_yX7_givesUp : q_Vm mX7_givesUp 2 := ⟨kc_yX7_givesUp, k0_X7, ⟨by decide +kernel, by decide +kernel, by decide +kernel⟩, by decide⟩
theorem kv_yX7_exchanges : q_Vm mX7_exchanges 1 := ⟨kc_yX7_exchanges, k0_X7, ⟨by decide +kernel, by decide +kernel, by decide +kernel⟩, by decide⟩
theorem kv_yX7_tests : q_Vm mX7_tests 2 := ⟨kc_yX7_tests, k0_X7, ⟨by decide +kernel, by decide +kernel, by decide +kernel⟩, by decide⟩
theorem kv_yX7_works : q_Vm mX7_works 1 := ⟨kc_yX7_works, k0_X7, ⟨by decide +kernel, by decide +kernel, by decide +kernel⟩, by decide⟩
theorem kv_yX7_takes : q_Vm mX7_takes 1 := ⟨kc_yX7_takes, k0_X7, ⟨by decide +kernel, by decide +kernel, by decide +kernel⟩, by decide⟩
theorem kv_yX7_minute : q_Vm mX7_minute 0 := ⟨kc_yX7_minute, k0_X7, ⟨by decide +kernel, by decide +kernel, by decide +kernel⟩, by decide⟩
theorem kv_yX7_withHow : q_Vm mX7_withHow 1 := ⟨kc_yX7_withHow, k0_X7, ⟨by decide +kernel, by decide +kernel, by decide +kernel⟩, by decide⟩
theorem kv_yX7_minutes : q_Vm mX7_minutes 1 := ⟨kc_yX7_minutes, k0_X7, ⟨by decide +kernel, by decide +kernel, by decide +kernel⟩, by decide⟩
theorem kv_yX7_refusesThing : q_Vm mX7_refusesThing 4 := ⟨kc_yX7_refusesThing, k0_X7, ⟨by decide +kernel, by decide +kernel, by decide +kernel⟩, by decide⟩
theorem kv_yX7_comes : q_Vm mX7_comes 4 := ⟨kc_yX7_comes, k0_X7, ⟨by decide +kernel, by decide +kernel, by decide +kernel⟩, by decide⟩
theorem kv_yX7_thing : q_Vm mX7_thing 4 := ⟨kc_yX7_thing, k0_X7, ⟨by decide +kernel, by decide +kernel, by decide +kernel⟩, by decide⟩
theorem kv_yX7_refusesFixer : q_Vm mX7_refusesFixer 2 := ⟨kc_yX7_refusesFixer, k0_X7, ⟨by decide +kernel, by decide +kernel, by decide +kernel⟩, by decide⟩
theorem kv_yX7_comesFixer : q_Vm mX7_comesFixer 2 := ⟨kc_yX7_comesFixer, k0_X7, ⟨by decide +kernel, by decide +kernel, by decide +kernel⟩, by decide⟩
theorem kv_yX7_fixer : q_Vm mX7_fixer 2 := ⟨kc_yX7_fixer, k0_X7, ⟨by decide +kernel, by decide +kernel, by decide +kernel⟩, by decide⟩
theorem kv_yX7_refusesDrawer : q_Vm mX7_refusesDrawer 2 := ⟨kc_yX7_refusesDrawer, k0_X7, ⟨by decide +kernel, by decide +kernel, by decide +kernel⟩, by decide⟩
theorem kv_yX7_drawer : q_Vm mX7_drawer 2 := ⟨kc_yX7_drawer, k0_X7, ⟨by decide +kernel, by decide +kernel, by decide +kernel⟩, by decide⟩
theorem kv_yX7_isThing : q_Vm mX7_isThing 1 := ⟨kc_yX7_isThing, k0_X7, ⟨by decide +kernel, by decide +kernel, by decide +kernel⟩, by decide⟩
theorem kv_yX7_giveUp : q_Vm mX7_giveUp 1 := ⟨kc_yX7_giveUp, k0_X7, ⟨by decide +kernel, by decide +kernel, by decide +kernel⟩, by decide⟩
theorem kv_yX7_refusesPass : q_Vm mX7_refusesPass 1 := ⟨kc_yX7_refusesPass, k0_X7, ⟨by decide +kernel, by decide +kernel, by decide +kernel⟩, by decide⟩
theorem kv_yX7_pass : q_Vm mX7_pass 1 := ⟨kc_yX7_pass, k0_X7, ⟨by decide +kernel, by decide +kernel, by decide +kernel⟩, by decide⟩
theorem kv_yX7_placeOf : q_Vm mX7_placeOf 1 := ⟨kc_yX7_placeOf, k0_X7, ⟨by decide +kernel, by decide +kernel, by decide +kernel⟩, by decide⟩
theorem kv_yX7_ofThing : q_Vm mX7_ofThing 2 := ⟨kc_yX7_ofThing, k0_X7, ⟨by decide +kernel, by decide +kernel, by decide +kernel⟩, by decide⟩
theorem kv_yX7_ofFixer : q_Vm mX7_ofFixer 2 := ⟨kc_yX7_ofFixer, k0_X7, ⟨by decide +kernel, by decide +kernel, by decide +kernel⟩, by decide⟩
theorem kv_yX7_brokenOnes : q_Vm mX7_brokenOnes 1 := ⟨kc_yX7_brokenOnes, k0_X7, ⟨by decide +kernel, by decide +kernel, by decide +kernel⟩, by decide⟩
theorem kv_yX7_ofPart : q_Vm mX7_ofPart 2 := ⟨kc_yX7_ofPart, k0_X7, ⟨by decide +kernel, by decide +kernel, by decide +kernel⟩, by decide⟩
theorem kv_yX7_count : q_Vm mX7_count 1 := ⟨kc_yX7_count, k0_X7, ⟨by decide +kernel, by decide +kernel, by decide +kernel⟩, by decide⟩
theorem kv_yX7_scarcest : q_Vm mX7_scarcest 0 := ⟨kc_yX7_scarcest, k0_X7, ⟨by decide +kernel, by decide +kernel, by decide +kernel⟩, by decide⟩
theorem kv_yX7_doneIn : q_Vm mX7_doneIn 1 := ⟨kc_yX7_doneIn, k0_X7, ⟨by decide +kernel, by decide +kernel, by decide +kernel⟩, by decide⟩
theorem kv_yX7_repairedWith : q_Vm mX7_repairedWith 3 := ⟨kc_yX7_repairedWith, k0_X7, ⟨by decide +kernel, by decide +kernel, by decide +kernel⟩, by decide⟩
theorem kv_yX7_withFixer : q_Vm mX7_withFixer 3 := ⟨kc_yX7_withFixer, k0_X7, ⟨by decide +kernel, by decide +kernel, by decide +kernel⟩, by decide⟩
theorem kv_yX7_bestCare : q_Vm mX7_bestCare 1 := ⟨kc_yX7_bestCare, k0_X7, ⟨by decide +kernel, by decide +kernel, by decide +kernel⟩, by decide⟩
theorem kv_yX7_put : q_Vm mX7_put 1 := ⟨kc_yX7_put, k0_X7, ⟨by decide +kernel, by decide +kernel, by decide +kernel⟩, by decide⟩
theorem kv_yX7_wipe : q_Vm mX7_wipe 0 := ⟨kc_yX7_wipe, k0_X7, ⟨by decide +kernel, by decide +kernel, by decide +kernel⟩, by decide⟩
theorem kv_yX7_sign : q_Vm mX7_sign 0 := ⟨kc_yX7_sign, k0_X7, ⟨by decide +kernel, by decide +kernel, by decide +kernel⟩, by decide⟩
theorem kv_yX7_takesSign : q_Vm mX7_takesSign 1 := ⟨kc_yX7_takesSign, k0_X7, ⟨by decide +kernel, by decide +kernel, by decide +kernel⟩, by decide⟩
theorem kv_yX7_digit : q_Vm mX7_digit 1 := ⟨kc_yX7_digit, k0_X7, ⟨by decide +kernel, by decide +kernel, by decide +kernel⟩, by decide⟩
theorem kv_yX7_digits : q_Vm mX7_digits 1 := ⟨kc_yX7_digits, k0_X7, ⟨by decide +kernel, by decide +kernel, by decide +kernel⟩, by decide⟩
theorem kv_yX7_number : q_Vm mX7_number 0 := ⟨kc_yX7_number, k0_X7, ⟨by decide +kernel, by decide +kernel, by decide +kernel⟩, by decide⟩
theorem kv_yX7_readsOrder : q_Vm mX7_readsOrder 0 := ⟨kc_yX7_readsOrder, k0_X7, ⟨by decide +kernel, by decide +kernel, by decide +kernel⟩, by decide⟩
theorem kv_yX7_reads : q_Vm mX7_reads 0 := ⟨kc_yX7_reads, k0_X7, ⟨by decide +kernel, by decide +kernel, by decide +kernel⟩, by decide⟩
theorem kv_yX7_fault : q_Vm mX7_fault 0 := ⟨kc_yX7_fault, k0_X7, ⟨by decide +kernel, by decide +kernel, by decide +kernel⟩, by decide⟩
theorem kv_yX7_refuses : q_Vm mX7_refuses 1 := ⟨kc_yX7_refuses, k0_X7, ⟨by decide +kernel, by decide +kernel, by decide +kernel⟩, by decide⟩
theorem kv_yX7_does : q_Vm mX7_does 1 := ⟨kc_yX7_does, k0_X7, ⟨by decide +kernel, by decide +kernel, by decide +kernel⟩, by decide⟩
theorem kv_yX7_carryOut : q_Vm mX7_carryOut 0 := ⟨kc_yX7_carryOut, k0_X7, ⟨by decide +kernel, by decide +kernel, by decide +kernel⟩, by decide⟩
theorem kv_yX7_undo : q_Vm mX7_undo 0 := ⟨kc_yX7_undo, k0_X7, ⟨by decide +kernel, by decide +kernel, by decide +kernel⟩, by decide⟩
theorem kv_yX7_save : q_Vm mX7_save 1 := ⟨kc_yX7_save, k0_X7, ⟨by decide +kernel, by decide +kernel, by decide +kernel⟩, by decide⟩
theorem kv_yX7_restore : q_Vm mX7_restore 1 := ⟨kc_yX7_restore, k0_X7, ⟨by decide +kernel, by decide +kernel, by decide +kernel⟩, by decide⟩
theorem kw_X0 : ∀ w ∈ u_ws RX0 TX0 6, w ∈ q_WS := by
  intro w hw
  obtain ⟨k, hk, rfl⟩ := List.mem_map.mp hw
  have hk := List.mem_range.mp hk
  rcases (show k = 0 ∨ k = 1 ∨ k = 2 ∨ k = 3 ∨ k = 4 ∨ k = 5 by omega) with rfl | rfl | rfl | rfl | rfl | rfl
  · exact q_mem 193 (by decide +kernel) (by decide +kernel)
  · exact q_mem 195 (by decide +kernel) (by decide +kernel)
  · exact q_mem 197 (by decide +kernel) (by decide +kernel)
  · exact q_mem 199 (by decide +kernel) (by decide +kernel)
  · exact q_mem 201 (by decide +kernel) (by decide +kernel)
  · exact q_mem 203 (by decide +kernel) (by decide +kernel)
theorem kC_X0 : q_Cl 0 RX0 TX0 6 := ⟨rfl, kw_X0, tyX0_ok, nmX0, rfl⟩
theorem kw_X1 : ∀ w ∈ u_ws RX1 TX1 6, w ∈ q_WS := by
  intro w hw
  obtain ⟨k, hk, rfl⟩ := List.mem_map.mp hw
  have hk := List.mem_range.mp hk
  rcases (show k = 0 ∨ k = 1 ∨ k = 2 ∨ k = 3 ∨ k = 4 ∨ k = 5 by omega) with rfl | rfl | rfl | rfl | rfl | rfl
  · exact q_mem 152 (by decide +kernel) (by decide +kernel)
  · exact q_mem 154 (by decide +kernel) (by decide +kernel)
  · exact q_mem 156 (by decide +kernel) (by decide +kernel)
  · exact q_mem 158 (by decide +kernel) (by decide +kernel)
  · exact q_mem 160 (by decide +kernel) (by decide +kernel)
  · exact q_mem 162 (by decide +kernel) (by decide +kernel)
theorem kC_X1 : q_Cl 1 RX1 TX1 6 := ⟨rfl, kw_X1, tyX1_ok, nmX1, rfl⟩
theorem kw_X2 : ∀ w ∈ u_ws RX2 TX2 8, w ∈ q_WS := by
  intro w hw
  obtain ⟨k, hk, rfl⟩ := List.mem_map.mp hw
  have hk := List.mem_range.mp hk
  rcases (show k = 0 ∨ k = 1 ∨ k = 2 ∨ k = 3 ∨ k = 4 ∨ k = 5 ∨ k = 6 ∨ k = 7 by omega) with rfl | rfl | rfl | rfl | rfl | rfl | rfl | rfl
  · exact q_mem 247 (by decide +kernel) (by decide +kernel)
  · exact q_mem 249 (by decide +kernel) (by decide +kernel)
  · exact q_mem 251 (by decide +kernel) (by decide +kernel)
  · exact q_mem 253 (by decide +kernel) (by decide +kernel)
  · exact q_mem 255 (by decide +kernel) (by decide +kernel)
  · exact q_mem 257 (by decide +kernel) (by decide +kernel)
  · exact q_mem 259 (by decide +kernel) (by decide +kernel)
  · exact q_mem 261 (by decide +kernel) (by decide +kernel)
theorem kC_X2 : q_Cl 2 RX2 TX2 8 := ⟨rfl, kw_X2, tyX2_ok, nmX2, rfl⟩
theorem kw_X3 : ∀ w ∈ u_ws RX3 TX3 3, w ∈ q_WS := by
  intro w hw
  obtain ⟨k, hk, rfl⟩ := List.mem_map.mp hw
  have hk := List.mem_range.mp hk
  rcases (show k = 0 ∨ k = 1 ∨ k = 2 by omega) with rfl | rfl | rfl
  · exact q_mem 177 (by decide +kernel) (by decide +kernel)
  · exact q_mem 179 (by decide +kernel) (by decide +kernel)
  · exact q_mem 181 (by decide +kernel) (by decide +kernel)
theorem kC_X3 : q_Cl 3 RX3 TX3 3 := ⟨rfl, kw_X3, tyX3_ok, nmX3, rfl⟩
theorem kw_X4 : ∀ w ∈ u_ws RX4 TX4 3, w ∈ q_WS := by
  intro w hw
  obtain ⟨k, hk, rfl⟩ := List.mem_map.mp hw
  have hk := List.mem_range.mp hk
  rcases (show k = 0 ∨ k = 1 ∨ k = 2 by omega) with rfl | rfl | rfl
  · exact q_mem 219 (by decide +kernel) (by decide +kernel)
  · exact q_mem 221 (by decide +kernel) (by decide +kernel)
  · exact q_mem 223 (by decide +kernel) (by decide +kernel)
theorem kC_X4 : q_Cl 4 RX4 TX4 3 := ⟨rfl, kw_X4, tyX4_ok, nmX4, rfl⟩
theorem kw_X5 : ∀ w ∈ u_ws RX5 TX5 8, w ∈ q_WS := by
  intro w hw
  obtain ⟨k, hk, rfl⟩ := List.mem_map.mp hw
  have hk := List.mem_range.mp hk
  rcases (show k = 0 ∨ k = 1 ∨ k = 2 ∨ k = 3 ∨ k = 4 ∨ k = 5 ∨ k = 6 ∨ k = 7 by omega) with rfl | rfl | rfl | rfl | rfl | rfl | rfl | rfl
  · exact q_mem 112 (by decide +kernel) (by decide +kernel)
  · exact q_mem 114 (by decide +kernel) (by decide +kernel)
  · exact q_mem 116 (by decide +kernel) (by decide +kernel)
  · exact q_mem 118 (by decide +kernel) (by decide +kernel)
  · exact q_mem 120 (by decide +kernel) (by decide +kernel)
  · exact q_mem 122 (by decide +kernel) (by decide +kernel)
  · exact q_mem 124 (by decide +kernel) (by decide +kernel)
  · exact q_mem 126 (by decide +kernel) (by decide +kernel)
theorem kC_X5 : q_Cl 5 RX5 TX5 8 := ⟨rfl, kw_X5, tyX5_ok, nmX5, rfl⟩
theorem kw_X6 : ∀ w ∈ u_ws RX6 TX6 5, w ∈ q_WS := by
  intro w hw
  obtain ⟨k, hk, rfl⟩ := List.mem_map.mp hw
  have hk := List.mem_range.mp hk
  rcases (show k = 0 ∨ k = 1 ∨ k = 2 ∨ k = 3 ∨ k = 4 by omega) with rfl | rfl | rfl | rfl | rfl
  · exact q_mem 270 (by decide +kernel) (by decide +kernel)
  · exact q_mem 272 (by decide +kernel) (by decide +kernel)
  · exact q_mem 274 (by decide +kernel) (by decide +kernel)
  · exact q_mem 276 (by decide +kernel) (by decide +kernel)
  · exact q_mem 278 (by decide +kernel) (by decide +kernel)
theorem kC_X6 : q_Cl 6 RX6 TX6 5 := ⟨rfl, kw_X6, tyX6_ok, nmX6, rfl⟩
theorem kw_X7 : ∀ w ∈ u_ws RX7 TX7 13, w ∈ q_WS := by
  intro w hw
  obtain ⟨k, hk, rfl⟩ := List.mem_map.mp hw
  have hk := List.mem_range.mp hk
  rcases (show k = 0 ∨ k = 1 ∨ k = 2 ∨ k = 3 ∨ k = 4 ∨ k = 5 ∨ k = 6 ∨ k = 7 ∨ k = 8 ∨ k = 9 ∨ k = 10 ∨ k = 11 ∨ k = 12 by omega) with rfl | rfl | rfl | rfl | rfl | rfl | rfl | rfl | rfl | rfl | rfl | rfl | rfl
  · exact q_mem 615 (by decide +kernel) (by decide +kernel)
  · exact q_mem 617 (by decide +kernel) (by decide +kernel)
  · exact q_mem 619 (by decide +kernel) (by decide +kernel)
  · exact q_mem 621 (by decide +kernel) (by decide +kernel)
  · exact q_mem 623 (by decide +kernel) (by decide +kernel)
  · exact q_mem 625 (by decide +kernel) (by decide +kernel)
  · exact q_mem 627 (by decide +kernel) (by decide +kernel)
  · exact q_mem 629 (by decide +kernel) (by decide +kernel)
  · exact q_mem 631 (by decide +kernel) (by decide +kernel)
  · exact q_mem 633 (by decide +kernel) (by decide +kernel)
  · exact q_mem 635 (by decide +kernel) (by decide +kernel)
  · exact q_mem 637 (by decide +kernel) (by decide +kernel)
  · exact q_mem 639 (by decide +kernel) (by decide +kernel)
theorem kC_X7 : q_Cl 7 RX7 TX7 13 := ⟨rfl, kw_X7, tyX7_ok, nmX7, rfl⟩
end
section
theorem dX0_init_0 : decode cX0_init 0 = .ok (.aload_n 0, 1) := by decide +kernel
theorem dX0_init_1 : decode cX0_init 1 = .ok (.invokespecial 3, 3) := by decide +kernel
theorem dX0_init_4 : decode cX0_init 4 = .ok (.aload_n 0, 1) := by decide +kernel
theorem dX0_init_5 : decode cX0_init 5 = .ok (.iconst 0, 1) := by decide +kernel
theorem dX0_init_6 : decode cX0_init 6 = .ok (.putfield 9, 3) := by decide +kernel
theorem dX0_init_9 : decode cX0_init 9 = .ok (.aload_n 0, 1) := by decide +kernel
theorem dX0_init_10 : decode cX0_init 10 = .ok (.iconst 0, 1) := by decide +kernel
theorem dX0_init_11 : decode cX0_init 11 = .ok (.putfield 15, 3) := by decide +kernel
theorem dX0_init_14 : decode cX0_init 14 = .ok (.aload_n 0, 1) := by decide +kernel
theorem dX0_init_15 : decode cX0_init 15 = .ok (.iconst 0, 1) := by decide +kernel
theorem dX0_init_16 : decode cX0_init 16 = .ok (.putfield 18, 3) := by decide +kernel
theorem dX0_init_19 : decode cX0_init 19 = .ok (.aload_n 0, 1) := by decide +kernel
theorem dX0_init_20 : decode cX0_init 20 = .ok (.bipush 30, 2) := by decide +kernel
theorem dX0_init_22 : decode cX0_init 22 = .ok (.anewarray 21, 3) := by decide +kernel
theorem dX0_init_25 : decode cX0_init 25 = .ok (.putfield 23, 3) := by decide +kernel
theorem dX0_init_28 : decode cX0_init 28 = .ok (.aload_n 0, 1) := by decide +kernel
theorem dX0_init_29 : decode cX0_init 29 = .ok (.iconst 5, 1) := by decide +kernel
theorem dX0_init_30 : decode cX0_init 30 = .ok (.anewarray 27, 3) := by decide +kernel
theorem dX0_init_33 : decode cX0_init 33 = .ok (.putfield 29, 3) := by decide +kernel
theorem dX0_init_36 : decode cX0_init 36 = .ok (.aload_n 0, 1) := by decide +kernel
theorem dX0_init_37 : decode cX0_init 37 = .ok (.bipush 8, 2) := by decide +kernel
theorem dX0_init_39 : decode cX0_init 39 = .ok (.anewarray 33, 3) := by decide +kernel
theorem dX0_init_42 : decode cX0_init 42 = .ok (.putfield 35, 3) := by decide +kernel
theorem dX0_init_45 : decode cX0_init 45 = .ok (.iconst 0, 1) := by decide +kernel
theorem dX0_init_46 : decode cX0_init 46 = .ok (.istore_n 1, 1) := by decide +kernel
theorem dX0_init_47 : decode cX0_init 47 = .ok (.iload_n 1, 1) := by decide +kernel
theorem dX0_init_48 : decode cX0_init 48 = .ok (.aload_n 0, 1) := by decide +kernel
theorem dX0_init_49 : decode cX0_init 49 = .ok (.getfield 23, 3) := by decide +kernel
theorem dX0_init_52 : decode cX0_init 52 = .ok (.arraylength, 1) := by decide +kernel
theorem dX0_init_53 : decode cX0_init 53 = .ok (.if_icmp .ge 22, 3) := by decide +kernel
theorem dX0_init_56 : decode cX0_init 56 = .ok (.aload_n 0, 1) := by decide +kernel
theorem dX0_init_57 : decode cX0_init 57 = .ok (.getfield 23, 3) := by decide +kernel
theorem dX0_init_60 : decode cX0_init 60 = .ok (.iload_n 1, 1) := by decide +kernel
theorem dX0_init_61 : decode cX0_init 61 = .ok (.new 21, 3) := by decide +kernel
theorem dX0_init_64 : decode cX0_init 64 = .ok (.dup, 1) := by decide +kernel
theorem dX0_init_65 : decode cX0_init 65 = .ok (.invokespecial 39, 3) := by decide +kernel
theorem dX0_init_68 : decode cX0_init 68 = .ok (.aastore, 1) := by decide +kernel
theorem dX0_init_69 : decode cX0_init 69 = .ok (.iinc 1 1, 3) := by decide +kernel
theorem dX0_init_72 : decode cX0_init 72 = .ok (.goto (-25), 3) := by decide +kernel
theorem dX0_init_75 : decode cX0_init 75 = .ok (.iconst 0, 1) := by decide +kernel
theorem dX0_init_76 : decode cX0_init 76 = .ok (.istore_n 1, 1) := by decide +kernel
theorem dX0_init_77 : decode cX0_init 77 = .ok (.iload_n 1, 1) := by decide +kernel
theorem dX0_init_78 : decode cX0_init 78 = .ok (.aload_n 0, 1) := by decide +kernel
theorem dX0_init_79 : decode cX0_init 79 = .ok (.getfield 29, 3) := by decide +kernel
theorem dX0_init_82 : decode cX0_init 82 = .ok (.arraylength, 1) := by decide +kernel
theorem dX0_init_83 : decode cX0_init 83 = .ok (.if_icmp .ge 22, 3) := by decide +kernel
theorem dX0_init_86 : decode cX0_init 86 = .ok (.aload_n 0, 1) := by decide +kernel
theorem dX0_init_87 : decode cX0_init 87 = .ok (.getfield 29, 3) := by decide +kernel
theorem dX0_init_90 : decode cX0_init 90 = .ok (.iload_n 1, 1) := by decide +kernel
theorem dX0_init_91 : decode cX0_init 91 = .ok (.new 27, 3) := by decide +kernel
theorem dX0_init_94 : decode cX0_init 94 = .ok (.dup, 1) := by decide +kernel
theorem dX0_init_95 : decode cX0_init 95 = .ok (.invokespecial 40, 3) := by decide +kernel
theorem dX0_init_98 : decode cX0_init 98 = .ok (.aastore, 1) := by decide +kernel
theorem dX0_init_99 : decode cX0_init 99 = .ok (.iinc 1 1, 3) := by decide +kernel
theorem dX0_init_102 : decode cX0_init 102 = .ok (.goto (-25), 3) := by decide +kernel
theorem dX0_init_105 : decode cX0_init 105 = .ok (.iconst 0, 1) := by decide +kernel
theorem dX0_init_106 : decode cX0_init 106 = .ok (.istore_n 1, 1) := by decide +kernel
theorem dX0_init_107 : decode cX0_init 107 = .ok (.iload_n 1, 1) := by decide +kernel
theorem dX0_init_108 : decode cX0_init 108 = .ok (.aload_n 0, 1) := by decide +kernel
theorem dX0_init_109 : decode cX0_init 109 = .ok (.getfield 35, 3) := by decide +kernel
theorem dX0_init_112 : decode cX0_init 112 = .ok (.arraylength, 1) := by decide +kernel
theorem dX0_init_113 : decode cX0_init 113 = .ok (.if_icmp .ge 22, 3) := by decide +kernel
theorem dX0_init_116 : decode cX0_init 116 = .ok (.aload_n 0, 1) := by decide +kernel
theorem dX0_init_117 : decode cX0_init 117 = .ok (.getfield 35, 3) := by decide +kernel
theorem dX0_init_120 : decode cX0_init 120 = .ok (.iload_n 1, 1) := by decide +kernel
theorem dX0_init_121 : decode cX0_init 121 = .ok (.new 33, 3) := by decide +kernel
theorem dX0_init_124 : decode cX0_init 124 = .ok (.dup, 1) := by decide +kernel
theorem dX0_init_125 : decode cX0_init 125 = .ok (.invokespecial 41, 3) := by decide +kernel
theorem dX0_init_128 : decode cX0_init 128 = .ok (.aastore, 1) := by decide +kernel
theorem dX0_init_129 : decode cX0_init 129 = .ok (.iinc 1 1, 3) := by decide +kernel
theorem dX0_init_132 : decode cX0_init 132 = .ok (.goto (-25), 3) := by decide +kernel
theorem dX0_init_135 : decode cX0_init 135 = .ok (.return_, 1) := by decide +kernel
theorem dX0_thingAt_0 : decode cX0_thingAt 0 = .ok (.iload_n 1, 1) := by decide +kernel
theorem dX0_thingAt_1 : decode cX0_thingAt 1 = .ok (.ifCond .lt 29, 3) := by decide +kernel
theorem dX0_thingAt_4 : decode cX0_thingAt 4 = .ok (.iload_n 1, 1) := by decide +kernel
theorem dX0_thingAt_5 : decode cX0_thingAt 5 = .ok (.aload_n 0, 1) := by decide +kernel
theorem dX0_thingAt_6 : decode cX0_thingAt 6 = .ok (.getfield 15, 3) := by decide +kernel
theorem dX0_thingAt_9 : decode cX0_thingAt 9 = .ok (.if_icmp .ge 21, 3) := by decide +kernel
theorem dX0_thingAt_12 : decode cX0_thingAt 12 = .ok (.iload_n 1, 1) := by decide +kernel
theorem dX0_thingAt_13 : decode cX0_thingAt 13 = .ok (.aload_n 0, 1) := by decide +kernel
theorem dX0_thingAt_14 : decode cX0_thingAt 14 = .ok (.getfield 23, 3) := by decide +kernel
theorem dX0_thingAt_17 : decode cX0_thingAt 17 = .ok (.arraylength, 1) := by decide +kernel
theorem dX0_thingAt_18 : decode cX0_thingAt 18 = .ok (.if_icmp .ge 12, 3) := by decide +kernel
theorem dX0_thingAt_21 : decode cX0_thingAt 21 = .ok (.aload_n 0, 1) := by decide +kernel
theorem dX0_thingAt_22 : decode cX0_thingAt 22 = .ok (.getfield 23, 3) := by decide +kernel
theorem dX0_thingAt_25 : decode cX0_thingAt 25 = .ok (.iload_n 1, 1) := by decide +kernel
theorem dX0_thingAt_26 : decode cX0_thingAt 26 = .ok (.aaload, 1) := by decide +kernel
theorem dX0_thingAt_27 : decode cX0_thingAt 27 = .ok (.goto 4, 3) := by decide +kernel
theorem dX0_thingAt_30 : decode cX0_thingAt 30 = .ok (.aconst_null, 1) := by decide +kernel
theorem dX0_thingAt_31 : decode cX0_thingAt 31 = .ok (.areturn, 1) := by decide +kernel
theorem dX0_fixerAt_0 : decode cX0_fixerAt 0 = .ok (.iload_n 1, 1) := by decide +kernel
theorem dX0_fixerAt_1 : decode cX0_fixerAt 1 = .ok (.ifCond .lt 29, 3) := by decide +kernel
theorem dX0_fixerAt_4 : decode cX0_fixerAt 4 = .ok (.iload_n 1, 1) := by decide +kernel
theorem dX0_fixerAt_5 : decode cX0_fixerAt 5 = .ok (.aload_n 0, 1) := by decide +kernel
theorem dX0_fixerAt_6 : decode cX0_fixerAt 6 = .ok (.getfield 18, 3) := by decide +kernel
theorem dX0_fixerAt_9 : decode cX0_fixerAt 9 = .ok (.if_icmp .ge 21, 3) := by decide +kernel
theorem dX0_fixerAt_12 : decode cX0_fixerAt 12 = .ok (.iload_n 1, 1) := by decide +kernel
theorem dX0_fixerAt_13 : decode cX0_fixerAt 13 = .ok (.aload_n 0, 1) := by decide +kernel
theorem dX0_fixerAt_14 : decode cX0_fixerAt 14 = .ok (.getfield 29, 3) := by decide +kernel
theorem dX0_fixerAt_17 : decode cX0_fixerAt 17 = .ok (.arraylength, 1) := by decide +kernel
theorem dX0_fixerAt_18 : decode cX0_fixerAt 18 = .ok (.if_icmp .ge 12, 3) := by decide +kernel
theorem dX0_fixerAt_21 : decode cX0_fixerAt 21 = .ok (.aload_n 0, 1) := by decide +kernel
theorem dX0_fixerAt_22 : decode cX0_fixerAt 22 = .ok (.getfield 29, 3) := by decide +kernel
theorem dX0_fixerAt_25 : decode cX0_fixerAt 25 = .ok (.iload_n 1, 1) := by decide +kernel
theorem dX0_fixerAt_26 : decode cX0_fixerAt 26 = .ok (.aaload, 1) := by decide +kernel
theorem dX0_fixerAt_27 : decode cX0_fixerAt 27 = .ok (.goto 4, 3) := by decide +kernel
theorem dX0_fixerAt_30 : decode cX0_fixerAt 30 = .ok (.aconst_null, 1) := by decide +kernel
theorem dX0_fixerAt_31 : decode cX0_fixerAt 31 = .ok (.areturn, 1) := by decide +kernel
theorem dX0_partAt_0 : decode cX0_partAt 0 = .ok (.iload_n 1, 1) := by decide +kernel
theorem dX0_partAt_1 : decode cX0_partAt 1 = .ok (.ifCond .lt 21, 3) := by decide +kernel
theorem dX0_partAt_4 : decode cX0_partAt 4 = .ok (.iload_n 1, 1) := by decide +kernel
theorem dX0_partAt_5 : decode cX0_partAt 5 = .ok (.aload_n 0, 1) := by decide +kernel
theorem dX0_partAt_6 : decode cX0_partAt 6 = .ok (.getfield 35, 3) := by decide +kernel
theorem dX0_partAt_9 : decode cX0_partAt 9 = .ok (.arraylength, 1) := by decide +kernel
theorem dX0_partAt_10 : decode cX0_partAt 10 = .ok (.if_icmp .ge 12, 3) := by decide +kernel
theorem dX0_partAt_13 : decode cX0_partAt 13 = .ok (.aload_n 0, 1) := by decide +kernel
theorem dX0_partAt_14 : decode cX0_partAt 14 = .ok (.getfield 35, 3) := by decide +kernel
theorem dX0_partAt_17 : decode cX0_partAt 17 = .ok (.iload_n 1, 1) := by decide +kernel
theorem dX0_partAt_18 : decode cX0_partAt 18 = .ok (.aaload, 1) := by decide +kernel
theorem dX0_partAt_19 : decode cX0_partAt 19 = .ok (.goto 4, 3) := by decide +kernel
theorem dX0_partAt_22 : decode cX0_partAt 22 = .ok (.aconst_null, 1) := by decide +kernel
theorem dX0_partAt_23 : decode cX0_partAt 23 = .ok (.areturn, 1) := by decide +kernel
theorem dX0_copyFrom_0 : decode cX0_copyFrom 0 = .ok (.aload_n 0, 1) := by decide +kernel
theorem dX0_copyFrom_1 : decode cX0_copyFrom 1 = .ok (.aload_n 1, 1) := by decide +kernel
theorem dX0_copyFrom_2 : decode cX0_copyFrom 2 = .ok (.getfield 9, 3) := by decide +kernel
theorem dX0_copyFrom_5 : decode cX0_copyFrom 5 = .ok (.putfield 9, 3) := by decide +kernel
theorem dX0_copyFrom_8 : decode cX0_copyFrom 8 = .ok (.aload_n 0, 1) := by decide +kernel
theorem dX0_copyFrom_9 : decode cX0_copyFrom 9 = .ok (.aload_n 1, 1) := by decide +kernel
theorem dX0_copyFrom_10 : decode cX0_copyFrom 10 = .ok (.getfield 15, 3) := by decide +kernel
theorem dX0_copyFrom_13 : decode cX0_copyFrom 13 = .ok (.putfield 15, 3) := by decide +kernel
theorem dX0_copyFrom_16 : decode cX0_copyFrom 16 = .ok (.aload_n 0, 1) := by decide +kernel
theorem dX0_copyFrom_17 : decode cX0_copyFrom 17 = .ok (.aload_n 1, 1) := by decide +kernel
theorem dX0_copyFrom_18 : decode cX0_copyFrom 18 = .ok (.getfield 18, 3) := by decide +kernel
theorem dX0_copyFrom_21 : decode cX0_copyFrom 21 = .ok (.putfield 18, 3) := by decide +kernel
theorem dX0_copyFrom_24 : decode cX0_copyFrom 24 = .ok (.iconst 0, 1) := by decide +kernel
theorem dX0_copyFrom_25 : decode cX0_copyFrom 25 = .ok (.istore_n 2, 1) := by decide +kernel
theorem dX0_copyFrom_26 : decode cX0_copyFrom 26 = .ok (.iload_n 2, 1) := by decide +kernel
theorem dX0_copyFrom_27 : decode cX0_copyFrom 27 = .ok (.bipush 30, 2) := by decide +kernel
theorem dX0_copyFrom_29 : decode cX0_copyFrom 29 = .ok (.if_icmp .ge 28, 3) := by decide +kernel
theorem dX0_copyFrom_32 : decode cX0_copyFrom 32 = .ok (.aload_n 0, 1) := by decide +kernel
theorem dX0_copyFrom_33 : decode cX0_copyFrom 33 = .ok (.iload_n 2, 1) := by decide +kernel
theorem dX0_copyFrom_34 : decode cX0_copyFrom 34 = .ok (.invokevirtual 42, 3) := by decide +kernel
theorem dX0_copyFrom_37 : decode cX0_copyFrom 37 = .ok (.astore_n 3, 1) := by decide +kernel
theorem dX0_copyFrom_38 : decode cX0_copyFrom 38 = .ok (.aload_n 3, 1) := by decide +kernel
theorem dX0_copyFrom_39 : decode cX0_copyFrom 39 = .ok (.ifnull 12, 3) := by decide +kernel
theorem dX0_copyFrom_42 : decode cX0_copyFrom 42 = .ok (.aload_n 3, 1) := by decide +kernel
theorem dX0_copyFrom_43 : decode cX0_copyFrom 43 = .ok (.aload_n 1, 1) := by decide +kernel
theorem dX0_copyFrom_44 : decode cX0_copyFrom 44 = .ok (.iload_n 2, 1) := by decide +kernel
theorem dX0_copyFrom_45 : decode cX0_copyFrom 45 = .ok (.invokevirtual 42, 3) := by decide +kernel
theorem dX0_copyFrom_48 : decode cX0_copyFrom 48 = .ok (.invokevirtual 46, 3) := by decide +kernel
theorem dX0_copyFrom_51 : decode cX0_copyFrom 51 = .ok (.iinc 2 1, 3) := by decide +kernel
theorem dX0_copyFrom_54 : decode cX0_copyFrom 54 = .ok (.goto (-28), 3) := by decide +kernel
theorem dX0_copyFrom_57 : decode cX0_copyFrom 57 = .ok (.iconst 0, 1) := by decide +kernel
theorem dX0_copyFrom_58 : decode cX0_copyFrom 58 = .ok (.istore_n 2, 1) := by decide +kernel
theorem dX0_copyFrom_59 : decode cX0_copyFrom 59 = .ok (.iload_n 2, 1) := by decide +kernel
theorem dX0_copyFrom_60 : decode cX0_copyFrom 60 = .ok (.iconst 5, 1) := by decide +kernel
theorem dX0_copyFrom_61 : decode cX0_copyFrom 61 = .ok (.if_icmp .ge 28, 3) := by decide +kernel
theorem dX0_copyFrom_64 : decode cX0_copyFrom 64 = .ok (.aload_n 0, 1) := by decide +kernel
theorem dX0_copyFrom_65 : decode cX0_copyFrom 65 = .ok (.iload_n 2, 1) := by decide +kernel
theorem dX0_copyFrom_66 : decode cX0_copyFrom 66 = .ok (.invokevirtual 50, 3) := by decide +kernel
theorem dX0_copyFrom_69 : decode cX0_copyFrom 69 = .ok (.astore_n 3, 1) := by decide +kernel
theorem dX0_copyFrom_70 : decode cX0_copyFrom 70 = .ok (.aload_n 3, 1) := by decide +kernel
theorem dX0_copyFrom_71 : decode cX0_copyFrom 71 = .ok (.ifnull 12, 3) := by decide +kernel
theorem dX0_copyFrom_74 : decode cX0_copyFrom 74 = .ok (.aload_n 3, 1) := by decide +kernel
theorem dX0_copyFrom_75 : decode cX0_copyFrom 75 = .ok (.aload_n 1, 1) := by decide +kernel
theorem dX0_copyFrom_76 : decode cX0_copyFrom 76 = .ok (.iload_n 2, 1) := by decide +kernel
theorem dX0_copyFrom_77 : decode cX0_copyFrom 77 = .ok (.invokevirtual 50, 3) := by decide +kernel
theorem dX0_copyFrom_80 : decode cX0_copyFrom 80 = .ok (.invokevirtual 54, 3) := by decide +kernel
theorem dX0_copyFrom_83 : decode cX0_copyFrom 83 = .ok (.iinc 2 1, 3) := by decide +kernel
theorem dX0_copyFrom_86 : decode cX0_copyFrom 86 = .ok (.goto (-27), 3) := by decide +kernel
theorem dX0_copyFrom_89 : decode cX0_copyFrom 89 = .ok (.iconst 0, 1) := by decide +kernel
theorem dX0_copyFrom_90 : decode cX0_copyFrom 90 = .ok (.istore_n 2, 1) := by decide +kernel
theorem dX0_copyFrom_91 : decode cX0_copyFrom 91 = .ok (.iload_n 2, 1) := by decide +kernel
theorem dX0_copyFrom_92 : decode cX0_copyFrom 92 = .ok (.bipush 8, 2) := by decide +kernel
theorem dX0_copyFrom_94 : decode cX0_copyFrom 94 = .ok (.if_icmp .ge 28, 3) := by decide +kernel
theorem dX0_copyFrom_97 : decode cX0_copyFrom 97 = .ok (.aload_n 0, 1) := by decide +kernel
theorem dX0_copyFrom_98 : decode cX0_copyFrom 98 = .ok (.iload_n 2, 1) := by decide +kernel
theorem dX0_copyFrom_99 : decode cX0_copyFrom 99 = .ok (.invokevirtual 57, 3) := by decide +kernel
theorem dX0_copyFrom_102 : decode cX0_copyFrom 102 = .ok (.astore_n 3, 1) := by decide +kernel
theorem dX0_copyFrom_103 : decode cX0_copyFrom 103 = .ok (.aload_n 3, 1) := by decide +kernel
theorem dX0_copyFrom_104 : decode cX0_copyFrom 104 = .ok (.ifnull 12, 3) := by decide +kernel
theorem dX0_copyFrom_107 : decode cX0_copyFrom 107 = .ok (.aload_n 3, 1) := by decide +kernel
theorem dX0_copyFrom_108 : decode cX0_copyFrom 108 = .ok (.aload_n 1, 1) := by decide +kernel
theorem dX0_copyFrom_109 : decode cX0_copyFrom 109 = .ok (.iload_n 2, 1) := by decide +kernel
theorem dX0_copyFrom_110 : decode cX0_copyFrom 110 = .ok (.invokevirtual 57, 3) := by decide +kernel
theorem dX0_copyFrom_113 : decode cX0_copyFrom 113 = .ok (.invokevirtual 61, 3) := by decide +kernel
theorem dX0_copyFrom_116 : decode cX0_copyFrom 116 = .ok (.iinc 2 1, 3) := by decide +kernel
theorem dX0_copyFrom_119 : decode cX0_copyFrom 119 = .ok (.goto (-28), 3) := by decide +kernel
theorem dX0_copyFrom_122 : decode cX0_copyFrom 122 = .ok (.return_, 1) := by decide +kernel
theorem dX0_addThing_0 : decode cX0_addThing 0 = .ok (.iload_n 1, 1) := by decide +kernel
theorem dX0_addThing_1 : decode cX0_addThing 1 = .ok (.ifCond .lt 9, 3) := by decide +kernel
theorem dX0_addThing_4 : decode cX0_addThing 4 = .ok (.iload_n 1, 1) := by decide +kernel
theorem dX0_addThing_5 : decode cX0_addThing 5 = .ok (.bipush 6, 2) := by decide +kernel
theorem dX0_addThing_7 : decode cX0_addThing 7 = .ok (.if_icmp .lt 5, 3) := by decide +kernel
theorem dX0_addThing_10 : decode cX0_addThing 10 = .ok (.iconst (-1), 1) := by decide +kernel
theorem dX0_addThing_11 : decode cX0_addThing 11 = .ok (.ireturn, 1) := by decide +kernel
theorem dX0_addThing_12 : decode cX0_addThing 12 = .ok (.iload_n 2, 1) := by decide +kernel
theorem dX0_addThing_13 : decode cX0_addThing 13 = .ok (.iload_n 1, 1) := by decide +kernel
theorem dX0_addThing_14 : decode cX0_addThing 14 = .ok (.invokestatic 64, 3) := by decide +kernel
theorem dX0_addThing_17 : decode cX0_addThing 17 = .ok (.iconst (-1), 1) := by decide +kernel
theorem dX0_addThing_18 : decode cX0_addThing 18 = .ok (.ixor, 1) := by decide +kernel
theorem dX0_addThing_19 : decode cX0_addThing 19 = .ok (.iand, 1) := by decide +kernel
theorem dX0_addThing_20 : decode cX0_addThing 20 = .ok (.ifCond .ne 14, 3) := by decide +kernel
theorem dX0_addThing_23 : decode cX0_addThing 23 = .ok (.iload_n 3, 1) := by decide +kernel
theorem dX0_addThing_24 : decode cX0_addThing 24 = .ok (.iconst 1, 1) := by decide +kernel
theorem dX0_addThing_25 : decode cX0_addThing 25 = .ok (.if_icmp .lt 9, 3) := by decide +kernel
theorem dX0_addThing_28 : decode cX0_addThing 28 = .ok (.iload_n 3, 1) := by decide +kernel
theorem dX0_addThing_29 : decode cX0_addThing 29 = .ok (.bipush 99, 2) := by decide +kernel
theorem dX0_addThing_31 : decode cX0_addThing 31 = .ok (.if_icmp .le 6, 3) := by decide +kernel
theorem dX0_addThing_34 : decode cX0_addThing 34 = .ok (.bipush (-2), 2) := by decide +kernel
theorem dX0_addThing_36 : decode cX0_addThing 36 = .ok (.ireturn, 1) := by decide +kernel
theorem dX0_addThing_37 : decode cX0_addThing 37 = .ok (.iload 4, 2) := by decide +kernel
theorem dX0_addThing_39 : decode cX0_addThing 39 = .ok (.ifCond .lt 10, 3) := by decide +kernel
theorem dX0_addThing_42 : decode cX0_addThing 42 = .ok (.iload 4, 2) := by decide +kernel
theorem dX0_addThing_44 : decode cX0_addThing 44 = .ok (.bipush 7, 2) := by decide +kernel
theorem dX0_addThing_46 : decode cX0_addThing 46 = .ok (.if_icmp .le 6, 3) := by decide +kernel
theorem dX0_addThing_49 : decode cX0_addThing 49 = .ok (.bipush (-2), 2) := by decide +kernel
theorem dX0_addThing_51 : decode cX0_addThing 51 = .ok (.ireturn, 1) := by decide +kernel
theorem dX0_addThing_52 : decode cX0_addThing 52 = .ok (.aload_n 0, 1) := by decide +kernel
theorem dX0_addThing_53 : decode cX0_addThing 53 = .ok (.getfield 15, 3) := by decide +kernel
theorem dX0_addThing_56 : decode cX0_addThing 56 = .ok (.bipush 30, 2) := by decide +kernel
theorem dX0_addThing_58 : decode cX0_addThing 58 = .ok (.if_icmp .lt 6, 3) := by decide +kernel
theorem dX0_addThing_61 : decode cX0_addThing 61 = .ok (.bipush (-4), 2) := by decide +kernel
theorem dX0_addThing_63 : decode cX0_addThing 63 = .ok (.ireturn, 1) := by decide +kernel
theorem dX0_addThing_64 : decode cX0_addThing 64 = .ok (.aload_n 0, 1) := by decide +kernel
theorem dX0_addThing_65 : decode cX0_addThing 65 = .ok (.getfield 15, 3) := by decide +kernel
theorem dX0_addThing_68 : decode cX0_addThing 68 = .ok (.istore 5, 2) := by decide +kernel
theorem dX0_addThing_70 : decode cX0_addThing 70 = .ok (.aload_n 0, 1) := by decide +kernel
theorem dX0_addThing_71 : decode cX0_addThing 71 = .ok (.dup, 1) := by decide +kernel
theorem dX0_addThing_72 : decode cX0_addThing 72 = .ok (.getfield 15, 3) := by decide +kernel
theorem dX0_addThing_75 : decode cX0_addThing 75 = .ok (.iconst 1, 1) := by decide +kernel
theorem dX0_addThing_76 : decode cX0_addThing 76 = .ok (.iadd, 1) := by decide +kernel
theorem dX0_addThing_77 : decode cX0_addThing 77 = .ok (.putfield 15, 3) := by decide +kernel
theorem dX0_addThing_80 : decode cX0_addThing 80 = .ok (.aload_n 0, 1) := by decide +kernel
theorem dX0_addThing_81 : decode cX0_addThing 81 = .ok (.iload 5, 2) := by decide +kernel
theorem dX0_addThing_83 : decode cX0_addThing 83 = .ok (.invokevirtual 42, 3) := by decide +kernel
theorem dX0_addThing_86 : decode cX0_addThing 86 = .ok (.astore 6, 2) := by decide +kernel
theorem dX0_addThing_88 : decode cX0_addThing 88 = .ok (.aload 6, 2) := by decide +kernel
theorem dX0_addThing_90 : decode cX0_addThing 90 = .ok (.ifnull 13, 3) := by decide +kernel
theorem dX0_addThing_93 : decode cX0_addThing 93 = .ok (.aload 6, 2) := by decide +kernel
theorem dX0_addThing_95 : decode cX0_addThing 95 = .ok (.iload_n 1, 1) := by decide +kernel
theorem dX0_addThing_96 : decode cX0_addThing 96 = .ok (.iload_n 2, 1) := by decide +kernel
theorem dX0_addThing_97 : decode cX0_addThing 97 = .ok (.iload_n 3, 1) := by decide +kernel
theorem dX0_addThing_98 : decode cX0_addThing 98 = .ok (.iload 4, 2) := by decide +kernel
theorem dX0_addThing_100 : decode cX0_addThing 100 = .ok (.invokevirtual 68, 3) := by decide +kernel
theorem dX0_addThing_103 : decode cX0_addThing 103 = .ok (.iload 5, 2) := by decide +kernel
theorem dX0_addThing_105 : decode cX0_addThing 105 = .ok (.ireturn, 1) := by decide +kernel
theorem dX0_addFixer_0 : decode cX0_addFixer 0 = .ok (.iload_n 1, 1) := by decide +kernel
theorem dX0_addFixer_1 : decode cX0_addFixer 1 = .ok (.iload_n 2, 1) := by decide +kernel
theorem dX0_addFixer_2 : decode cX0_addFixer 2 = .ok (.invokestatic 72, 3) := by decide +kernel
theorem dX0_addFixer_5 : decode cX0_addFixer 5 = .ok (.ifCond .ne 6, 3) := by decide +kernel
theorem dX0_addFixer_8 : decode cX0_addFixer 8 = .ok (.bipush (-2), 2) := by decide +kernel
theorem dX0_addFixer_10 : decode cX0_addFixer 10 = .ok (.ireturn, 1) := by decide +kernel
theorem dX0_addFixer_11 : decode cX0_addFixer 11 = .ok (.aload_n 0, 1) := by decide +kernel
theorem dX0_addFixer_12 : decode cX0_addFixer 12 = .ok (.getfield 18, 3) := by decide +kernel
theorem dX0_addFixer_15 : decode cX0_addFixer 15 = .ok (.iconst 5, 1) := by decide +kernel
theorem dX0_addFixer_16 : decode cX0_addFixer 16 = .ok (.if_icmp .lt 6, 3) := by decide +kernel
theorem dX0_addFixer_19 : decode cX0_addFixer 19 = .ok (.bipush (-4), 2) := by decide +kernel
theorem dX0_addFixer_21 : decode cX0_addFixer 21 = .ok (.ireturn, 1) := by decide +kernel
theorem dX0_addFixer_22 : decode cX0_addFixer 22 = .ok (.aload_n 0, 1) := by decide +kernel
theorem dX0_addFixer_23 : decode cX0_addFixer 23 = .ok (.getfield 18, 3) := by decide +kernel
theorem dX0_addFixer_26 : decode cX0_addFixer 26 = .ok (.istore_n 3, 1) := by decide +kernel
theorem dX0_addFixer_27 : decode cX0_addFixer 27 = .ok (.aload_n 0, 1) := by decide +kernel
theorem dX0_addFixer_28 : decode cX0_addFixer 28 = .ok (.dup, 1) := by decide +kernel
theorem dX0_addFixer_29 : decode cX0_addFixer 29 = .ok (.getfield 18, 3) := by decide +kernel
theorem dX0_addFixer_32 : decode cX0_addFixer 32 = .ok (.iconst 1, 1) := by decide +kernel
theorem dX0_addFixer_33 : decode cX0_addFixer 33 = .ok (.iadd, 1) := by decide +kernel
theorem dX0_addFixer_34 : decode cX0_addFixer 34 = .ok (.putfield 18, 3) := by decide +kernel
theorem dX0_addFixer_37 : decode cX0_addFixer 37 = .ok (.aload_n 0, 1) := by decide +kernel
theorem dX0_addFixer_38 : decode cX0_addFixer 38 = .ok (.iload_n 3, 1) := by decide +kernel
theorem dX0_addFixer_39 : decode cX0_addFixer 39 = .ok (.invokevirtual 50, 3) := by decide +kernel
theorem dX0_addFixer_42 : decode cX0_addFixer 42 = .ok (.astore 4, 2) := by decide +kernel
theorem dX0_addFixer_44 : decode cX0_addFixer 44 = .ok (.aload 4, 2) := by decide +kernel
theorem dX0_addFixer_46 : decode cX0_addFixer 46 = .ok (.ifnull 10, 3) := by decide +kernel
theorem dX0_addFixer_49 : decode cX0_addFixer 49 = .ok (.aload 4, 2) := by decide +kernel
theorem dX0_addFixer_51 : decode cX0_addFixer 51 = .ok (.iload_n 1, 1) := by decide +kernel
theorem dX0_addFixer_52 : decode cX0_addFixer 52 = .ok (.iload_n 2, 1) := by decide +kernel
theorem dX0_addFixer_53 : decode cX0_addFixer 53 = .ok (.invokevirtual 76, 3) := by decide +kernel
theorem dX0_addFixer_56 : decode cX0_addFixer 56 = .ok (.iload_n 3, 1) := by decide +kernel
theorem dX0_addFixer_57 : decode cX0_addFixer 57 = .ok (.ireturn, 1) := by decide +kernel
theorem dX0_fillDrawer_0 : decode cX0_fillDrawer 0 = .ok (.aload_n 0, 1) := by decide +kernel
theorem dX0_fillDrawer_1 : decode cX0_fillDrawer 1 = .ok (.iload_n 1, 1) := by decide +kernel
theorem dX0_fillDrawer_2 : decode cX0_fillDrawer 2 = .ok (.invokevirtual 57, 3) := by decide +kernel
theorem dX0_fillDrawer_5 : decode cX0_fillDrawer 5 = .ok (.astore_n 3, 1) := by decide +kernel
theorem dX0_fillDrawer_6 : decode cX0_fillDrawer 6 = .ok (.aload_n 3, 1) := by decide +kernel
theorem dX0_fillDrawer_7 : decode cX0_fillDrawer 7 = .ok (.ifnonnull 5, 3) := by decide +kernel
theorem dX0_fillDrawer_10 : decode cX0_fillDrawer 10 = .ok (.iconst (-1), 1) := by decide +kernel
theorem dX0_fillDrawer_11 : decode cX0_fillDrawer 11 = .ok (.ireturn, 1) := by decide +kernel
theorem dX0_fillDrawer_12 : decode cX0_fillDrawer 12 = .ok (.iload_n 2, 1) := by decide +kernel
theorem dX0_fillDrawer_13 : decode cX0_fillDrawer 13 = .ok (.ifCond .lt 9, 3) := by decide +kernel
theorem dX0_fillDrawer_16 : decode cX0_fillDrawer 16 = .ok (.iload_n 2, 1) := by decide +kernel
theorem dX0_fillDrawer_17 : decode cX0_fillDrawer 17 = .ok (.bipush 99, 2) := by decide +kernel
theorem dX0_fillDrawer_19 : decode cX0_fillDrawer 19 = .ok (.if_icmp .le 6, 3) := by decide +kernel
theorem dX0_fillDrawer_22 : decode cX0_fillDrawer 22 = .ok (.bipush (-2), 2) := by decide +kernel
theorem dX0_fillDrawer_24 : decode cX0_fillDrawer 24 = .ok (.ireturn, 1) := by decide +kernel
theorem dX0_fillDrawer_25 : decode cX0_fillDrawer 25 = .ok (.aload_n 3, 1) := by decide +kernel
theorem dX0_fillDrawer_26 : decode cX0_fillDrawer 26 = .ok (.getfield 79, 3) := by decide +kernel
theorem dX0_fillDrawer_29 : decode cX0_fillDrawer 29 = .ok (.istore 4, 2) := by decide +kernel
theorem dX0_fillDrawer_31 : decode cX0_fillDrawer 31 = .ok (.aload_n 3, 1) := by decide +kernel
theorem dX0_fillDrawer_32 : decode cX0_fillDrawer 32 = .ok (.iload_n 2, 1) := by decide +kernel
theorem dX0_fillDrawer_33 : decode cX0_fillDrawer 33 = .ok (.putfield 79, 3) := by decide +kernel
theorem dX0_fillDrawer_36 : decode cX0_fillDrawer 36 = .ok (.iload 4, 2) := by decide +kernel
theorem dX0_fillDrawer_38 : decode cX0_fillDrawer 38 = .ok (.ireturn, 1) := by decide +kernel
theorem dX0_giveWaitingUp_0 : decode cX0_giveWaitingUp 0 = .ok (.aload_n 0, 1) := by decide +kernel
theorem dX0_giveWaitingUp_1 : decode cX0_giveWaitingUp 1 = .ok (.iload_n 1, 1) := by decide +kernel
theorem dX0_giveWaitingUp_2 : decode cX0_giveWaitingUp 2 = .ok (.invokevirtual 42, 3) := by decide +kernel
theorem dX0_giveWaitingUp_5 : decode cX0_giveWaitingUp 5 = .ok (.astore_n 2, 1) := by decide +kernel
theorem dX0_giveWaitingUp_6 : decode cX0_giveWaitingUp 6 = .ok (.aload_n 2, 1) := by decide +kernel
theorem dX0_giveWaitingUp_7 : decode cX0_giveWaitingUp 7 = .ok (.ifnonnull 5, 3) := by decide +kernel
theorem dX0_giveWaitingUp_10 : decode cX0_giveWaitingUp 10 = .ok (.iconst (-1), 1) := by decide +kernel
theorem dX0_giveWaitingUp_11 : decode cX0_giveWaitingUp 11 = .ok (.ireturn, 1) := by decide +kernel
theorem dX0_giveWaitingUp_12 : decode cX0_giveWaitingUp 12 = .ok (.aload_n 2, 1) := by decide +kernel
theorem dX0_giveWaitingUp_13 : decode cX0_giveWaitingUp 13 = .ok (.getfield 82, 3) := by decide +kernel
theorem dX0_giveWaitingUp_16 : decode cX0_giveWaitingUp 16 = .ok (.ifCond .eq 6, 3) := by decide +kernel
theorem dX0_giveWaitingUp_19 : decode cX0_giveWaitingUp 19 = .ok (.bipush (-5), 2) := by decide +kernel
theorem dX0_giveWaitingUp_21 : decode cX0_giveWaitingUp 21 = .ok (.ireturn, 1) := by decide +kernel
theorem dX0_giveWaitingUp_22 : decode cX0_giveWaitingUp 22 = .ok (.aload_n 0, 1) := by decide +kernel
theorem dX0_giveWaitingUp_23 : decode cX0_giveWaitingUp 23 = .ok (.aload_n 2, 1) := by decide +kernel
theorem dX0_giveWaitingUp_24 : decode cX0_giveWaitingUp 24 = .ok (.invokevirtual 85, 3) := by decide +kernel
theorem dX0_giveWaitingUp_27 : decode cX0_giveWaitingUp 27 = .ok (.ireturn, 1) := by decide +kernel
theorem dX0_letPass_0 : decode cX0_letPass 0 = .ok (.iload_n 1, 1) := by decide +kernel
theorem dX0_letPass_1 : decode cX0_letPass 1 = .ok (.iconst 1, 1) := by decide +kernel
theorem dX0_letPass_2 : decode cX0_letPass 2 = .ok (.if_icmp .lt 9, 3) := by decide +kernel
theorem dX0_letPass_5 : decode cX0_letPass 5 = .ok (.iload_n 1, 1) := by decide +kernel
theorem dX0_letPass_6 : decode cX0_letPass 6 = .ok (.bipush 99, 2) := by decide +kernel
theorem dX0_letPass_8 : decode cX0_letPass 8 = .ok (.if_icmp .le 6, 3) := by decide +kernel
theorem dX0_letPass_11 : decode cX0_letPass 11 = .ok (.bipush (-2), 2) := by decide +kernel
theorem dX0_letPass_13 : decode cX0_letPass 13 = .ok (.ireturn, 1) := by decide +kernel
theorem dX0_letPass_14 : decode cX0_letPass 14 = .ok (.aload_n 0, 1) := by decide +kernel
theorem dX0_letPass_15 : decode cX0_letPass 15 = .ok (.getfield 9, 3) := by decide +kernel
theorem dX0_letPass_18 : decode cX0_letPass 18 = .ok (.iload_n 1, 1) := by decide +kernel
theorem dX0_letPass_19 : decode cX0_letPass 19 = .ok (.iadd, 1) := by decide +kernel
theorem dX0_letPass_20 : decode cX0_letPass 20 = .ok (.sipush 9999, 3) := by decide +kernel
theorem dX0_letPass_23 : decode cX0_letPass 23 = .ok (.if_icmp .le 6, 3) := by decide +kernel
theorem dX0_letPass_26 : decode cX0_letPass 26 = .ok (.bipush (-5), 2) := by decide +kernel
theorem dX0_letPass_28 : decode cX0_letPass 28 = .ok (.ireturn, 1) := by decide +kernel
theorem dX0_letPass_29 : decode cX0_letPass 29 = .ok (.aload_n 0, 1) := by decide +kernel
theorem dX0_letPass_30 : decode cX0_letPass 30 = .ok (.iload_n 1, 1) := by decide +kernel
theorem dX0_letPass_31 : decode cX0_letPass 31 = .ok (.invokevirtual 89, 3) := by decide +kernel
theorem dX0_letPass_34 : decode cX0_letPass 34 = .ok (.ireturn, 1) := by decide +kernel
theorem dX0_passMinutes_0 : decode cX0_passMinutes 0 = .ok (.aload_n 0, 1) := by decide +kernel
theorem dX0_passMinutes_1 : decode cX0_passMinutes 1 = .ok (.getfield 9, 3) := by decide +kernel
theorem dX0_passMinutes_4 : decode cX0_passMinutes 4 = .ok (.iload_n 1, 1) := by decide +kernel
theorem dX0_passMinutes_5 : decode cX0_passMinutes 5 = .ok (.iadd, 1) := by decide +kernel
theorem dX0_passMinutes_6 : decode cX0_passMinutes 6 = .ok (.istore_n 2, 1) := by decide +kernel
theorem dX0_passMinutes_7 : decode cX0_passMinutes 7 = .ok (.iconst 0, 1) := by decide +kernel
theorem dX0_passMinutes_8 : decode cX0_passMinutes 8 = .ok (.istore_n 3, 1) := by decide +kernel
theorem dX0_passMinutes_9 : decode cX0_passMinutes 9 = .ok (.iconst 0, 1) := by decide +kernel
theorem dX0_passMinutes_10 : decode cX0_passMinutes 10 = .ok (.istore 4, 2) := by decide +kernel
theorem dX0_passMinutes_12 : decode cX0_passMinutes 12 = .ok (.iload 4, 2) := by decide +kernel
theorem dX0_passMinutes_14 : decode cX0_passMinutes 14 = .ok (.iload_n 1, 1) := by decide +kernel
theorem dX0_passMinutes_15 : decode cX0_passMinutes 15 = .ok (.if_icmp .ge 23, 3) := by decide +kernel
theorem dX0_passMinutes_18 : decode cX0_passMinutes 18 = .ok (.aload_n 0, 1) := by decide +kernel
theorem dX0_passMinutes_19 : decode cX0_passMinutes 19 = .ok (.invokevirtual 92, 3) := by decide +kernel
theorem dX0_passMinutes_22 : decode cX0_passMinutes 22 = .ok (.ifCond .eq 16, 3) := by decide +kernel
theorem dX0_passMinutes_25 : decode cX0_passMinutes 25 = .ok (.iload_n 3, 1) := by decide +kernel
theorem dX0_passMinutes_26 : decode cX0_passMinutes 26 = .ok (.aload_n 0, 1) := by decide +kernel
theorem dX0_passMinutes_27 : decode cX0_passMinutes 27 = .ok (.invokevirtual 96, 3) := by decide +kernel
theorem dX0_passMinutes_30 : decode cX0_passMinutes 30 = .ok (.iadd, 1) := by decide +kernel
theorem dX0_passMinutes_31 : decode cX0_passMinutes 31 = .ok (.istore_n 3, 1) := by decide +kernel
theorem dX0_passMinutes_32 : decode cX0_passMinutes 32 = .ok (.iinc 4 1, 3) := by decide +kernel
theorem dX0_passMinutes_35 : decode cX0_passMinutes 35 = .ok (.goto (-23), 3) := by decide +kernel
theorem dX0_passMinutes_38 : decode cX0_passMinutes 38 = .ok (.aload_n 0, 1) := by decide +kernel
theorem dX0_passMinutes_39 : decode cX0_passMinutes 39 = .ok (.iload_n 2, 1) := by decide +kernel
theorem dX0_passMinutes_40 : decode cX0_passMinutes 40 = .ok (.putfield 9, 3) := by decide +kernel
theorem dX0_passMinutes_43 : decode cX0_passMinutes 43 = .ok (.iload_n 3, 1) := by decide +kernel
theorem dX0_passMinutes_44 : decode cX0_passMinutes 44 = .ok (.ireturn, 1) := by decide +kernel
theorem dX0_passMinute_0 : decode cX0_passMinute 0 = .ok (.iconst 0, 1) := by decide +kernel
theorem dX0_passMinute_1 : decode cX0_passMinute 1 = .ok (.istore_n 1, 1) := by decide +kernel
theorem dX0_passMinute_2 : decode cX0_passMinute 2 = .ok (.iload_n 1, 1) := by decide +kernel
theorem dX0_passMinute_3 : decode cX0_passMinute 3 = .ok (.aload_n 0, 1) := by decide +kernel
theorem dX0_passMinute_4 : decode cX0_passMinute 4 = .ok (.getfield 18, 3) := by decide +kernel
theorem dX0_passMinute_7 : decode cX0_passMinute 7 = .ok (.if_icmp .ge 14, 3) := by decide +kernel
theorem dX0_passMinute_10 : decode cX0_passMinute 10 = .ok (.aload_n 0, 1) := by decide +kernel
theorem dX0_passMinute_11 : decode cX0_passMinute 11 = .ok (.iload_n 1, 1) := by decide +kernel
theorem dX0_passMinute_12 : decode cX0_passMinute 12 = .ok (.invokevirtual 100, 3) := by decide +kernel
theorem dX0_passMinute_15 : decode cX0_passMinute 15 = .ok (.iinc 1 1, 3) := by decide +kernel
theorem dX0_passMinute_18 : decode cX0_passMinute 18 = .ok (.goto (-16), 3) := by decide +kernel
theorem dX0_passMinute_21 : decode cX0_passMinute 21 = .ok (.iconst 0, 1) := by decide +kernel
theorem dX0_passMinute_22 : decode cX0_passMinute 22 = .ok (.istore_n 1, 1) := by decide +kernel
theorem dX0_passMinute_23 : decode cX0_passMinute 23 = .ok (.iconst 0, 1) := by decide +kernel
theorem dX0_passMinute_24 : decode cX0_passMinute 24 = .ok (.istore_n 2, 1) := by decide +kernel
theorem dX0_passMinute_25 : decode cX0_passMinute 25 = .ok (.iload_n 2, 1) := by decide +kernel
theorem dX0_passMinute_26 : decode cX0_passMinute 26 = .ok (.aload_n 0, 1) := by decide +kernel
theorem dX0_passMinute_27 : decode cX0_passMinute 27 = .ok (.getfield 18, 3) := by decide +kernel
theorem dX0_passMinute_30 : decode cX0_passMinute 30 = .ok (.if_icmp .ge 17, 3) := by decide +kernel
theorem dX0_passMinute_33 : decode cX0_passMinute 33 = .ok (.iload_n 1, 1) := by decide +kernel
theorem dX0_passMinute_34 : decode cX0_passMinute 34 = .ok (.aload_n 0, 1) := by decide +kernel
theorem dX0_passMinute_35 : decode cX0_passMinute 35 = .ok (.iload_n 2, 1) := by decide +kernel
theorem dX0_passMinute_36 : decode cX0_passMinute 36 = .ok (.invokevirtual 104, 3) := by decide +kernel
theorem dX0_passMinute_39 : decode cX0_passMinute 39 = .ok (.iadd, 1) := by decide +kernel
theorem dX0_passMinute_40 : decode cX0_passMinute 40 = .ok (.istore_n 1, 1) := by decide +kernel
theorem dX0_passMinute_41 : decode cX0_passMinute 41 = .ok (.iinc 2 1, 3) := by decide +kernel
theorem dX0_passMinute_44 : decode cX0_passMinute 44 = .ok (.goto (-19), 3) := by decide +kernel
theorem dX0_passMinute_47 : decode cX0_passMinute 47 = .ok (.aload_n 0, 1) := by decide +kernel
theorem dX0_passMinute_48 : decode cX0_passMinute 48 = .ok (.invokevirtual 107, 3) := by decide +kernel
theorem dX0_passMinute_51 : decode cX0_passMinute 51 = .ok (.aload_n 0, 1) := by decide +kernel
theorem dX0_passMinute_52 : decode cX0_passMinute 52 = .ok (.dup, 1) := by decide +kernel
theorem dX0_passMinute_53 : decode cX0_passMinute 53 = .ok (.getfield 9, 3) := by decide +kernel
theorem dX0_passMinute_56 : decode cX0_passMinute 56 = .ok (.iconst 1, 1) := by decide +kernel
theorem dX0_passMinute_57 : decode cX0_passMinute 57 = .ok (.iadd, 1) := by decide +kernel
theorem dX0_passMinute_58 : decode cX0_passMinute 58 = .ok (.putfield 9, 3) := by decide +kernel
theorem dX0_passMinute_61 : decode cX0_passMinute 61 = .ok (.iload_n 1, 1) := by decide +kernel
theorem dX0_passMinute_62 : decode cX0_passMinute 62 = .ok (.ireturn, 1) := by decide +kernel
theorem dX0_takeThing_0 : decode cX0_takeThing 0 = .ok (.aload_n 0, 1) := by decide +kernel
theorem dX0_takeThing_1 : decode cX0_takeThing 1 = .ok (.iload_n 1, 1) := by decide +kernel
theorem dX0_takeThing_2 : decode cX0_takeThing 2 = .ok (.invokevirtual 50, 3) := by decide +kernel
theorem dX0_takeThing_5 : decode cX0_takeThing 5 = .ok (.astore_n 2, 1) := by decide +kernel
theorem dX0_takeThing_6 : decode cX0_takeThing 6 = .ok (.aload_n 2, 1) := by decide +kernel
theorem dX0_takeThing_7 : decode cX0_takeThing 7 = .ok (.ifnull 12, 3) := by decide +kernel
theorem dX0_takeThing_10 : decode cX0_takeThing 10 = .ok (.aload_n 2, 1) := by decide +kernel
theorem dX0_takeThing_11 : decode cX0_takeThing 11 = .ok (.getfield 110, 3) := by decide +kernel
theorem dX0_takeThing_14 : decode cX0_takeThing 14 = .ok (.bipush (-6), 2) := by decide +kernel
theorem dX0_takeThing_16 : decode cX0_takeThing 16 = .ok (.if_icmp .eq 4, 3) := by decide +kernel
theorem dX0_takeThing_19 : decode cX0_takeThing 19 = .ok (.return_, 1) := by decide +kernel
theorem dX0_takeThing_20 : decode cX0_takeThing 20 = .ok (.aload_n 0, 1) := by decide +kernel
theorem dX0_takeThing_21 : decode cX0_takeThing 21 = .ok (.aload_n 2, 1) := by decide +kernel
theorem dX0_takeThing_22 : decode cX0_takeThing 22 = .ok (.getfield 113, 3) := by decide +kernel
theorem dX0_takeThing_25 : decode cX0_takeThing 25 = .ok (.invokevirtual 116, 3) := by decide +kernel
theorem dX0_takeThing_28 : decode cX0_takeThing 28 = .ok (.istore_n 3, 1) := by decide +kernel
theorem dX0_takeThing_29 : decode cX0_takeThing 29 = .ok (.aload_n 0, 1) := by decide +kernel
theorem dX0_takeThing_30 : decode cX0_takeThing 30 = .ok (.iload_n 3, 1) := by decide +kernel
theorem dX0_takeThing_31 : decode cX0_takeThing 31 = .ok (.invokevirtual 42, 3) := by decide +kernel
theorem dX0_takeThing_34 : decode cX0_takeThing 34 = .ok (.astore 4, 2) := by decide +kernel
theorem dX0_takeThing_36 : decode cX0_takeThing 36 = .ok (.aload 4, 2) := by decide +kernel
theorem dX0_takeThing_38 : decode cX0_takeThing 38 = .ok (.ifnull 20, 3) := by decide +kernel
theorem dX0_takeThing_41 : decode cX0_takeThing 41 = .ok (.aload_n 2, 1) := by decide +kernel
theorem dX0_takeThing_42 : decode cX0_takeThing 42 = .ok (.iload_n 3, 1) := by decide +kernel
theorem dX0_takeThing_43 : decode cX0_takeThing 43 = .ok (.putfield 110, 3) := by decide +kernel
theorem dX0_takeThing_46 : decode cX0_takeThing 46 = .ok (.aload 4, 2) := by decide +kernel
theorem dX0_takeThing_48 : decode cX0_takeThing 48 = .ok (.iconst 1, 1) := by decide +kernel
theorem dX0_takeThing_49 : decode cX0_takeThing 49 = .ok (.putfield 82, 3) := by decide +kernel
theorem dX0_takeThing_52 : decode cX0_takeThing 52 = .ok (.aload 4, 2) := by decide +kernel
theorem dX0_takeThing_54 : decode cX0_takeThing 54 = .ok (.iload_n 1, 1) := by decide +kernel
theorem dX0_takeThing_55 : decode cX0_takeThing 55 = .ok (.putfield 119, 3) := by decide +kernel
theorem dX0_takeThing_58 : decode cX0_takeThing 58 = .ok (.return_, 1) := by decide +kernel
theorem dX0_workOf_0 : decode cX0_workOf 0 = .ok (.aload_n 0, 1) := by decide +kernel
theorem dX0_workOf_1 : decode cX0_workOf 1 = .ok (.iload_n 1, 1) := by decide +kernel
theorem dX0_workOf_2 : decode cX0_workOf 2 = .ok (.invokevirtual 50, 3) := by decide +kernel
theorem dX0_workOf_5 : decode cX0_workOf 5 = .ok (.astore_n 2, 1) := by decide +kernel
theorem dX0_workOf_6 : decode cX0_workOf 6 = .ok (.aload_n 2, 1) := by decide +kernel
theorem dX0_workOf_7 : decode cX0_workOf 7 = .ok (.ifnonnull 5, 3) := by decide +kernel
theorem dX0_workOf_10 : decode cX0_workOf 10 = .ok (.iconst 0, 1) := by decide +kernel
theorem dX0_workOf_11 : decode cX0_workOf 11 = .ok (.ireturn, 1) := by decide +kernel
theorem dX0_workOf_12 : decode cX0_workOf 12 = .ok (.aload_n 0, 1) := by decide +kernel
theorem dX0_workOf_13 : decode cX0_workOf 13 = .ok (.aload_n 2, 1) := by decide +kernel
theorem dX0_workOf_14 : decode cX0_workOf 14 = .ok (.getfield 110, 3) := by decide +kernel
theorem dX0_workOf_17 : decode cX0_workOf 17 = .ok (.invokevirtual 42, 3) := by decide +kernel
theorem dX0_workOf_20 : decode cX0_workOf 20 = .ok (.astore_n 3, 1) := by decide +kernel
theorem dX0_workOf_21 : decode cX0_workOf 21 = .ok (.aload_n 3, 1) := by decide +kernel
theorem dX0_workOf_22 : decode cX0_workOf 22 = .ok (.ifnonnull 5, 3) := by decide +kernel
theorem dX0_workOf_25 : decode cX0_workOf 25 = .ok (.iconst 0, 1) := by decide +kernel
theorem dX0_workOf_26 : decode cX0_workOf 26 = .ok (.ireturn, 1) := by decide +kernel
theorem dX0_workOf_27 : decode cX0_workOf 27 = .ok (.aload_n 2, 1) := by decide +kernel
theorem dX0_workOf_28 : decode cX0_workOf 28 = .ok (.dup, 1) := by decide +kernel
theorem dX0_workOf_29 : decode cX0_workOf 29 = .ok (.getfield 122, 3) := by decide +kernel
theorem dX0_workOf_32 : decode cX0_workOf 32 = .ok (.iconst 1, 1) := by decide +kernel
theorem dX0_workOf_33 : decode cX0_workOf 33 = .ok (.iadd, 1) := by decide +kernel
theorem dX0_workOf_34 : decode cX0_workOf 34 = .ok (.putfield 122, 3) := by decide +kernel
theorem dX0_workOf_37 : decode cX0_workOf 37 = .ok (.aload_n 3, 1) := by decide +kernel
theorem dX0_workOf_38 : decode cX0_workOf 38 = .ok (.getfield 125, 3) := by decide +kernel
theorem dX0_workOf_41 : decode cX0_workOf 41 = .ok (.ifCond .eq 11, 3) := by decide +kernel
theorem dX0_workOf_44 : decode cX0_workOf 44 = .ok (.aload_n 0, 1) := by decide +kernel
theorem dX0_workOf_45 : decode cX0_workOf 45 = .ok (.aload_n 3, 1) := by decide +kernel
theorem dX0_workOf_46 : decode cX0_workOf 46 = .ok (.invokevirtual 128, 3) := by decide +kernel
theorem dX0_workOf_49 : decode cX0_workOf 49 = .ok (.goto 15, 3) := by decide +kernel
theorem dX0_workOf_52 : decode cX0_workOf 52 = .ok (.aload_n 3, 1) := by decide +kernel
theorem dX0_workOf_53 : decode cX0_workOf 53 = .ok (.aload_n 0, 1) := by decide +kernel
theorem dX0_workOf_54 : decode cX0_workOf 54 = .ok (.getfield 9, 3) := by decide +kernel
theorem dX0_workOf_57 : decode cX0_workOf 57 = .ok (.aload_n 2, 1) := by decide +kernel
theorem dX0_workOf_58 : decode cX0_workOf 58 = .ok (.getfield 132, 3) := by decide +kernel
theorem dX0_workOf_61 : decode cX0_workOf 61 = .ok (.invokevirtual 135, 3) := by decide +kernel
theorem dX0_workOf_64 : decode cX0_workOf 64 = .ok (.istore 4, 2) := by decide +kernel
theorem dX0_workOf_66 : decode cX0_workOf 66 = .ok (.iload 4, 2) := by decide +kernel
theorem dX0_workOf_68 : decode cX0_workOf 68 = .ok (.ifCond .ne 27, 3) := by decide +kernel
theorem dX0_workOf_71 : decode cX0_workOf 71 = .ok (.aload_n 0, 1) := by decide +kernel
theorem dX0_workOf_72 : decode cX0_workOf 72 = .ok (.aload_n 3, 1) := by decide +kernel
theorem dX0_workOf_73 : decode cX0_workOf 73 = .ok (.invokevirtual 85, 3) := by decide +kernel
theorem dX0_workOf_76 : decode cX0_workOf 76 = .ok (.pop, 1) := by decide +kernel
theorem dX0_workOf_77 : decode cX0_workOf 77 = .ok (.aload_n 2, 1) := by decide +kernel
theorem dX0_workOf_78 : decode cX0_workOf 78 = .ok (.bipush (-6), 2) := by decide +kernel
theorem dX0_workOf_80 : decode cX0_workOf 80 = .ok (.putfield 110, 3) := by decide +kernel
theorem dX0_workOf_83 : decode cX0_workOf 83 = .ok (.aload_n 2, 1) := by decide +kernel
theorem dX0_workOf_84 : decode cX0_workOf 84 = .ok (.dup, 1) := by decide +kernel
theorem dX0_workOf_85 : decode cX0_workOf 85 = .ok (.getfield 138, 3) := by decide +kernel
theorem dX0_workOf_88 : decode cX0_workOf 88 = .ok (.iconst 1, 1) := by decide +kernel
theorem dX0_workOf_89 : decode cX0_workOf 89 = .ok (.iadd, 1) := by decide +kernel
theorem dX0_workOf_90 : decode cX0_workOf 90 = .ok (.putfield 138, 3) := by decide +kernel
theorem dX0_workOf_93 : decode cX0_workOf 93 = .ok (.iconst 0, 1) := by decide +kernel
theorem dX0_workOf_94 : decode cX0_workOf 94 = .ok (.ireturn, 1) := by decide +kernel
theorem dX0_workOf_95 : decode cX0_workOf 95 = .ok (.aload_n 3, 1) := by decide +kernel
theorem dX0_workOf_96 : decode cX0_workOf 96 = .ok (.getfield 125, 3) := by decide +kernel
theorem dX0_workOf_99 : decode cX0_workOf 99 = .ok (.ifCond .ne 10, 3) := by decide +kernel
theorem dX0_workOf_102 : decode cX0_workOf 102 = .ok (.aload_n 3, 1) := by decide +kernel
theorem dX0_workOf_103 : decode cX0_workOf 103 = .ok (.getfield 141, 3) := by decide +kernel
theorem dX0_workOf_106 : decode cX0_workOf 106 = .ok (.ifCond .eq 5, 3) := by decide +kernel
theorem dX0_workOf_109 : decode cX0_workOf 109 = .ok (.iconst 0, 1) := by decide +kernel
theorem dX0_workOf_110 : decode cX0_workOf 110 = .ok (.ireturn, 1) := by decide +kernel
theorem dX0_workOf_111 : decode cX0_workOf 111 = .ok (.aload_n 3, 1) := by decide +kernel
theorem dX0_workOf_112 : decode cX0_workOf 112 = .ok (.iconst 2, 1) := by decide +kernel
theorem dX0_workOf_113 : decode cX0_workOf 113 = .ok (.invokevirtual 144, 3) := by decide +kernel
theorem dX0_workOf_116 : decode cX0_workOf 116 = .ok (.aload_n 2, 1) := by decide +kernel
theorem dX0_workOf_117 : decode cX0_workOf 117 = .ok (.bipush (-6), 2) := by decide +kernel
theorem dX0_workOf_119 : decode cX0_workOf 119 = .ok (.putfield 110, 3) := by decide +kernel
theorem dX0_workOf_122 : decode cX0_workOf 122 = .ok (.aload_n 2, 1) := by decide +kernel
theorem dX0_workOf_123 : decode cX0_workOf 123 = .ok (.dup, 1) := by decide +kernel
theorem dX0_workOf_124 : decode cX0_workOf 124 = .ok (.getfield 147, 3) := by decide +kernel
theorem dX0_workOf_127 : decode cX0_workOf 127 = .ok (.iconst 1, 1) := by decide +kernel
theorem dX0_workOf_128 : decode cX0_workOf 128 = .ok (.iadd, 1) := by decide +kernel
theorem dX0_workOf_129 : decode cX0_workOf 129 = .ok (.putfield 147, 3) := by decide +kernel
theorem dX0_workOf_132 : decode cX0_workOf 132 = .ok (.iconst 1, 1) := by decide +kernel
theorem dX0_workOf_133 : decode cX0_workOf 133 = .ok (.ireturn, 1) := by decide +kernel
theorem dX0_exchangeLowest_0 : decode cX0_exchangeLowest 0 = .ok (.iconst 0, 1) := by decide +kernel
theorem dX0_exchangeLowest_1 : decode cX0_exchangeLowest 1 = .ok (.istore_n 2, 1) := by decide +kernel
theorem dX0_exchangeLowest_2 : decode cX0_exchangeLowest 2 = .ok (.iload_n 2, 1) := by decide +kernel
theorem dX0_exchangeLowest_3 : decode cX0_exchangeLowest 3 = .ok (.bipush 8, 2) := by decide +kernel
theorem dX0_exchangeLowest_5 : decode cX0_exchangeLowest 5 = .ok (.if_icmp .ge 65, 3) := by decide +kernel
theorem dX0_exchangeLowest_8 : decode cX0_exchangeLowest 8 = .ok (.aload_n 1, 1) := by decide +kernel
theorem dX0_exchangeLowest_9 : decode cX0_exchangeLowest 9 = .ok (.getfield 125, 3) := by decide +kernel
theorem dX0_exchangeLowest_12 : decode cX0_exchangeLowest 12 = .ok (.iload_n 2, 1) := by decide +kernel
theorem dX0_exchangeLowest_13 : decode cX0_exchangeLowest 13 = .ok (.invokestatic 150, 3) := by decide +kernel
theorem dX0_exchangeLowest_16 : decode cX0_exchangeLowest 16 = .ok (.ifCond .eq 48, 3) := by decide +kernel
theorem dX0_exchangeLowest_19 : decode cX0_exchangeLowest 19 = .ok (.aload_n 0, 1) := by decide +kernel
theorem dX0_exchangeLowest_20 : decode cX0_exchangeLowest 20 = .ok (.iload_n 2, 1) := by decide +kernel
theorem dX0_exchangeLowest_21 : decode cX0_exchangeLowest 21 = .ok (.invokevirtual 57, 3) := by decide +kernel
theorem dX0_exchangeLowest_24 : decode cX0_exchangeLowest 24 = .ok (.astore_n 3, 1) := by decide +kernel
theorem dX0_exchangeLowest_25 : decode cX0_exchangeLowest 25 = .ok (.aload_n 3, 1) := by decide +kernel
theorem dX0_exchangeLowest_26 : decode cX0_exchangeLowest 26 = .ok (.ifnull 10, 3) := by decide +kernel
theorem dX0_exchangeLowest_29 : decode cX0_exchangeLowest 29 = .ok (.aload_n 3, 1) := by decide +kernel
theorem dX0_exchangeLowest_30 : decode cX0_exchangeLowest 30 = .ok (.invokevirtual 153, 3) := by decide +kernel
theorem dX0_exchangeLowest_33 : decode cX0_exchangeLowest 33 = .ok (.ifCond .ne 5, 3) := by decide +kernel
theorem dX0_exchangeLowest_36 : decode cX0_exchangeLowest 36 = .ok (.iconst 0, 1) := by decide +kernel
theorem dX0_exchangeLowest_37 : decode cX0_exchangeLowest 37 = .ok (.ireturn, 1) := by decide +kernel
theorem dX0_exchangeLowest_38 : decode cX0_exchangeLowest 38 = .ok (.aload_n 1, 1) := by decide +kernel
theorem dX0_exchangeLowest_39 : decode cX0_exchangeLowest 39 = .ok (.dup, 1) := by decide +kernel
theorem dX0_exchangeLowest_40 : decode cX0_exchangeLowest 40 = .ok (.getfield 125, 3) := by decide +kernel
theorem dX0_exchangeLowest_43 : decode cX0_exchangeLowest 43 = .ok (.iconst 1, 1) := by decide +kernel
theorem dX0_exchangeLowest_44 : decode cX0_exchangeLowest 44 = .ok (.iload_n 2, 1) := by decide +kernel
theorem dX0_exchangeLowest_45 : decode cX0_exchangeLowest 45 = .ok (.ishl, 1) := by decide +kernel
theorem dX0_exchangeLowest_46 : decode cX0_exchangeLowest 46 = .ok (.iconst (-1), 1) := by decide +kernel
theorem dX0_exchangeLowest_47 : decode cX0_exchangeLowest 47 = .ok (.ixor, 1) := by decide +kernel
theorem dX0_exchangeLowest_48 : decode cX0_exchangeLowest 48 = .ok (.iand, 1) := by decide +kernel
theorem dX0_exchangeLowest_49 : decode cX0_exchangeLowest 49 = .ok (.putfield 125, 3) := by decide +kernel
theorem dX0_exchangeLowest_52 : decode cX0_exchangeLowest 52 = .ok (.aload_n 1, 1) := by decide +kernel
theorem dX0_exchangeLowest_53 : decode cX0_exchangeLowest 53 = .ok (.dup, 1) := by decide +kernel
theorem dX0_exchangeLowest_54 : decode cX0_exchangeLowest 54 = .ok (.getfield 156, 3) := by decide +kernel
theorem dX0_exchangeLowest_57 : decode cX0_exchangeLowest 57 = .ok (.iconst 1, 1) := by decide +kernel
theorem dX0_exchangeLowest_58 : decode cX0_exchangeLowest 58 = .ok (.iadd, 1) := by decide +kernel
theorem dX0_exchangeLowest_59 : decode cX0_exchangeLowest 59 = .ok (.putfield 156, 3) := by decide +kernel
theorem dX0_exchangeLowest_62 : decode cX0_exchangeLowest 62 = .ok (.iconst 1, 1) := by decide +kernel
theorem dX0_exchangeLowest_63 : decode cX0_exchangeLowest 63 = .ok (.ireturn, 1) := by decide +kernel
theorem dX0_exchangeLowest_64 : decode cX0_exchangeLowest 64 = .ok (.iinc 2 1, 3) := by decide +kernel
theorem dX0_exchangeLowest_67 : decode cX0_exchangeLowest 67 = .ok (.goto (-65), 3) := by decide +kernel
theorem dX0_exchangeLowest_70 : decode cX0_exchangeLowest 70 = .ok (.iconst 0, 1) := by decide +kernel
theorem dX0_exchangeLowest_71 : decode cX0_exchangeLowest 71 = .ok (.ireturn, 1) := by decide +kernel
theorem dX0_strip_0 : decode cX0_strip 0 = .ok (.iconst 0, 1) := by decide +kernel
theorem dX0_strip_1 : decode cX0_strip 1 = .ok (.istore_n 2, 1) := by decide +kernel
theorem dX0_strip_2 : decode cX0_strip 2 = .ok (.aload_n 1, 1) := by decide +kernel
theorem dX0_strip_3 : decode cX0_strip 3 = .ok (.getfield 159, 3) := by decide +kernel
theorem dX0_strip_6 : decode cX0_strip 6 = .ok (.invokestatic 64, 3) := by decide +kernel
theorem dX0_strip_9 : decode cX0_strip 9 = .ok (.aload_n 1, 1) := by decide +kernel
theorem dX0_strip_10 : decode cX0_strip 10 = .ok (.getfield 125, 3) := by decide +kernel
theorem dX0_strip_13 : decode cX0_strip 13 = .ok (.iconst (-1), 1) := by decide +kernel
theorem dX0_strip_14 : decode cX0_strip 14 = .ok (.ixor, 1) := by decide +kernel
theorem dX0_strip_15 : decode cX0_strip 15 = .ok (.iand, 1) := by decide +kernel
theorem dX0_strip_16 : decode cX0_strip 16 = .ok (.istore_n 3, 1) := by decide +kernel
theorem dX0_strip_17 : decode cX0_strip 17 = .ok (.iconst 0, 1) := by decide +kernel
theorem dX0_strip_18 : decode cX0_strip 18 = .ok (.istore 4, 2) := by decide +kernel
theorem dX0_strip_20 : decode cX0_strip 20 = .ok (.iload 4, 2) := by decide +kernel
theorem dX0_strip_22 : decode cX0_strip 22 = .ok (.bipush 8, 2) := by decide +kernel
theorem dX0_strip_24 : decode cX0_strip 24 = .ok (.if_icmp .ge 42, 3) := by decide +kernel
theorem dX0_strip_27 : decode cX0_strip 27 = .ok (.aload_n 0, 1) := by decide +kernel
theorem dX0_strip_28 : decode cX0_strip 28 = .ok (.iload 4, 2) := by decide +kernel
theorem dX0_strip_30 : decode cX0_strip 30 = .ok (.invokevirtual 57, 3) := by decide +kernel
theorem dX0_strip_33 : decode cX0_strip 33 = .ok (.astore 5, 2) := by decide +kernel
theorem dX0_strip_35 : decode cX0_strip 35 = .ok (.aload 5, 2) := by decide +kernel
theorem dX0_strip_37 : decode cX0_strip 37 = .ok (.ifnull 23, 3) := by decide +kernel
theorem dX0_strip_40 : decode cX0_strip 40 = .ok (.iload_n 3, 1) := by decide +kernel
theorem dX0_strip_41 : decode cX0_strip 41 = .ok (.iload 4, 2) := by decide +kernel
theorem dX0_strip_43 : decode cX0_strip 43 = .ok (.invokestatic 150, 3) := by decide +kernel
theorem dX0_strip_46 : decode cX0_strip 46 = .ok (.ifCond .eq 14, 3) := by decide +kernel
theorem dX0_strip_49 : decode cX0_strip 49 = .ok (.aload 5, 2) := by decide +kernel
theorem dX0_strip_51 : decode cX0_strip 51 = .ok (.invokevirtual 162, 3) := by decide +kernel
theorem dX0_strip_54 : decode cX0_strip 54 = .ok (.ifCond .eq 6, 3) := by decide +kernel
theorem dX0_strip_57 : decode cX0_strip 57 = .ok (.iinc 2 1, 3) := by decide +kernel
theorem dX0_strip_60 : decode cX0_strip 60 = .ok (.iinc 4 1, 3) := by decide +kernel
theorem dX0_strip_63 : decode cX0_strip 63 = .ok (.goto (-43), 3) := by decide +kernel
theorem dX0_strip_66 : decode cX0_strip 66 = .ok (.aload_n 1, 1) := by decide +kernel
theorem dX0_strip_67 : decode cX0_strip 67 = .ok (.iconst 3, 1) := by decide +kernel
theorem dX0_strip_68 : decode cX0_strip 68 = .ok (.invokevirtual 144, 3) := by decide +kernel
theorem dX0_strip_71 : decode cX0_strip 71 = .ok (.iload_n 2, 1) := by decide +kernel
theorem dX0_strip_72 : decode cX0_strip 72 = .ok (.ireturn, 1) := by decide +kernel
theorem dX0_losePatience_0 : decode cX0_losePatience 0 = .ok (.iconst 0, 1) := by decide +kernel
theorem dX0_losePatience_1 : decode cX0_losePatience 1 = .ok (.istore_n 1, 1) := by decide +kernel
theorem dX0_losePatience_2 : decode cX0_losePatience 2 = .ok (.iload_n 1, 1) := by decide +kernel
theorem dX0_losePatience_3 : decode cX0_losePatience 3 = .ok (.aload_n 0, 1) := by decide +kernel
theorem dX0_losePatience_4 : decode cX0_losePatience 4 = .ok (.getfield 15, 3) := by decide +kernel
theorem dX0_losePatience_7 : decode cX0_losePatience 7 = .ok (.if_icmp .ge 48, 3) := by decide +kernel
theorem dX0_losePatience_10 : decode cX0_losePatience 10 = .ok (.aload_n 0, 1) := by decide +kernel
theorem dX0_losePatience_11 : decode cX0_losePatience 11 = .ok (.iload_n 1, 1) := by decide +kernel
theorem dX0_losePatience_12 : decode cX0_losePatience 12 = .ok (.invokevirtual 42, 3) := by decide +kernel
theorem dX0_losePatience_15 : decode cX0_losePatience 15 = .ok (.astore_n 2, 1) := by decide +kernel
theorem dX0_losePatience_16 : decode cX0_losePatience 16 = .ok (.aload_n 2, 1) := by decide +kernel
theorem dX0_losePatience_17 : decode cX0_losePatience 17 = .ok (.ifnull 32, 3) := by decide +kernel
theorem dX0_losePatience_20 : decode cX0_losePatience 20 = .ok (.aload_n 2, 1) := by decide +kernel
theorem dX0_losePatience_21 : decode cX0_losePatience 21 = .ok (.getfield 82, 3) := by decide +kernel
theorem dX0_losePatience_24 : decode cX0_losePatience 24 = .ok (.ifCond .ne 25, 3) := by decide +kernel
theorem dX0_losePatience_27 : decode cX0_losePatience 27 = .ok (.aload_n 2, 1) := by decide +kernel
theorem dX0_losePatience_28 : decode cX0_losePatience 28 = .ok (.dup, 1) := by decide +kernel
theorem dX0_losePatience_29 : decode cX0_losePatience 29 = .ok (.getfield 165, 3) := by decide +kernel
theorem dX0_losePatience_32 : decode cX0_losePatience 32 = .ok (.iconst 1, 1) := by decide +kernel
theorem dX0_losePatience_33 : decode cX0_losePatience 33 = .ok (.isub, 1) := by decide +kernel
theorem dX0_losePatience_34 : decode cX0_losePatience 34 = .ok (.putfield 165, 3) := by decide +kernel
theorem dX0_losePatience_37 : decode cX0_losePatience 37 = .ok (.aload_n 2, 1) := by decide +kernel
theorem dX0_losePatience_38 : decode cX0_losePatience 38 = .ok (.getfield 165, 3) := by decide +kernel
theorem dX0_losePatience_41 : decode cX0_losePatience 41 = .ok (.ifCond .gt 8, 3) := by decide +kernel
theorem dX0_losePatience_44 : decode cX0_losePatience 44 = .ok (.aload_n 2, 1) := by decide +kernel
theorem dX0_losePatience_45 : decode cX0_losePatience 45 = .ok (.iconst 4, 1) := by decide +kernel
theorem dX0_losePatience_46 : decode cX0_losePatience 46 = .ok (.invokevirtual 144, 3) := by decide +kernel
theorem dX0_losePatience_49 : decode cX0_losePatience 49 = .ok (.iinc 1 1, 3) := by decide +kernel
theorem dX0_losePatience_52 : decode cX0_losePatience 52 = .ok (.goto (-50), 3) := by decide +kernel
theorem dX0_losePatience_55 : decode cX0_losePatience 55 = .ok (.return_, 1) := by decide +kernel
theorem dX0_hasThingHere_0 : decode cX0_hasThingHere 0 = .ok (.iconst 0, 1) := by decide +kernel
theorem dX0_hasThingHere_1 : decode cX0_hasThingHere 1 = .ok (.istore_n 1, 1) := by decide +kernel
theorem dX0_hasThingHere_2 : decode cX0_hasThingHere 2 = .ok (.iload_n 1, 1) := by decide +kernel
theorem dX0_hasThingHere_3 : decode cX0_hasThingHere 3 = .ok (.aload_n 0, 1) := by decide +kernel
theorem dX0_hasThingHere_4 : decode cX0_hasThingHere 4 = .ok (.getfield 15, 3) := by decide +kernel
theorem dX0_hasThingHere_7 : decode cX0_hasThingHere 7 = .ok (.if_icmp .ge 28, 3) := by decide +kernel
theorem dX0_hasThingHere_10 : decode cX0_hasThingHere 10 = .ok (.aload_n 0, 1) := by decide +kernel
theorem dX0_hasThingHere_11 : decode cX0_hasThingHere 11 = .ok (.iload_n 1, 1) := by decide +kernel
theorem dX0_hasThingHere_12 : decode cX0_hasThingHere 12 = .ok (.invokevirtual 42, 3) := by decide +kernel
theorem dX0_hasThingHere_15 : decode cX0_hasThingHere 15 = .ok (.astore_n 2, 1) := by decide +kernel
theorem dX0_hasThingHere_16 : decode cX0_hasThingHere 16 = .ok (.aload_n 2, 1) := by decide +kernel
theorem dX0_hasThingHere_17 : decode cX0_hasThingHere 17 = .ok (.ifnull 12, 3) := by decide +kernel
theorem dX0_hasThingHere_20 : decode cX0_hasThingHere 20 = .ok (.aload_n 2, 1) := by decide +kernel
theorem dX0_hasThingHere_21 : decode cX0_hasThingHere 21 = .ok (.invokevirtual 168, 3) := by decide +kernel
theorem dX0_hasThingHere_24 : decode cX0_hasThingHere 24 = .ok (.ifCond .eq 5, 3) := by decide +kernel
theorem dX0_hasThingHere_27 : decode cX0_hasThingHere 27 = .ok (.iconst 1, 1) := by decide +kernel
theorem dX0_hasThingHere_28 : decode cX0_hasThingHere 28 = .ok (.ireturn, 1) := by decide +kernel
theorem dX0_hasThingHere_29 : decode cX0_hasThingHere 29 = .ok (.iinc 1 1, 3) := by decide +kernel
theorem dX0_hasThingHere_32 : decode cX0_hasThingHere 32 = .ok (.goto (-30), 3) := by decide +kernel
theorem dX0_hasThingHere_35 : decode cX0_hasThingHere 35 = .ok (.iconst 0, 1) := by decide +kernel
theorem dX0_hasThingHere_36 : decode cX0_hasThingHere 36 = .ok (.ireturn, 1) := by decide +kernel
theorem dX0_nextOf_0 : decode cX0_nextOf 0 = .ok (.bipush (-6), 2) := by decide +kernel
theorem dX0_nextOf_2 : decode cX0_nextOf 2 = .ok (.istore_n 2, 1) := by decide +kernel
theorem dX0_nextOf_3 : decode cX0_nextOf 3 = .ok (.bipush 100, 2) := by decide +kernel
theorem dX0_nextOf_5 : decode cX0_nextOf 5 = .ok (.istore_n 3, 1) := by decide +kernel
theorem dX0_nextOf_6 : decode cX0_nextOf 6 = .ok (.iconst 0, 1) := by decide +kernel
theorem dX0_nextOf_7 : decode cX0_nextOf 7 = .ok (.istore 4, 2) := by decide +kernel
theorem dX0_nextOf_9 : decode cX0_nextOf 9 = .ok (.iload 4, 2) := by decide +kernel
theorem dX0_nextOf_11 : decode cX0_nextOf 11 = .ok (.aload_n 0, 1) := by decide +kernel
theorem dX0_nextOf_12 : decode cX0_nextOf 12 = .ok (.getfield 15, 3) := by decide +kernel
theorem dX0_nextOf_15 : decode cX0_nextOf 15 = .ok (.if_icmp .ge 60, 3) := by decide +kernel
theorem dX0_nextOf_18 : decode cX0_nextOf 18 = .ok (.aload_n 0, 1) := by decide +kernel
theorem dX0_nextOf_19 : decode cX0_nextOf 19 = .ok (.iload 4, 2) := by decide +kernel
theorem dX0_nextOf_21 : decode cX0_nextOf 21 = .ok (.invokevirtual 42, 3) := by decide +kernel
theorem dX0_nextOf_24 : decode cX0_nextOf 24 = .ok (.astore 5, 2) := by decide +kernel
theorem dX0_nextOf_26 : decode cX0_nextOf 26 = .ok (.aload 5, 2) := by decide +kernel
theorem dX0_nextOf_28 : decode cX0_nextOf 28 = .ok (.ifnull 41, 3) := by decide +kernel
theorem dX0_nextOf_31 : decode cX0_nextOf 31 = .ok (.aload 5, 2) := by decide +kernel
theorem dX0_nextOf_33 : decode cX0_nextOf 33 = .ok (.getfield 82, 3) := by decide +kernel
theorem dX0_nextOf_36 : decode cX0_nextOf 36 = .ok (.ifCond .ne 33, 3) := by decide +kernel
theorem dX0_nextOf_39 : decode cX0_nextOf 39 = .ok (.iload_n 1, 1) := by decide +kernel
theorem dX0_nextOf_40 : decode cX0_nextOf 40 = .ok (.aload 5, 2) := by decide +kernel
theorem dX0_nextOf_42 : decode cX0_nextOf 42 = .ok (.getfield 159, 3) := by decide +kernel
theorem dX0_nextOf_45 : decode cX0_nextOf 45 = .ok (.invokestatic 150, 3) := by decide +kernel
theorem dX0_nextOf_48 : decode cX0_nextOf 48 = .ok (.ifCond .eq 21, 3) := by decide +kernel
theorem dX0_nextOf_51 : decode cX0_nextOf 51 = .ok (.aload 5, 2) := by decide +kernel
theorem dX0_nextOf_53 : decode cX0_nextOf 53 = .ok (.getfield 165, 3) := by decide +kernel
theorem dX0_nextOf_56 : decode cX0_nextOf 56 = .ok (.iload_n 3, 1) := by decide +kernel
theorem dX0_nextOf_57 : decode cX0_nextOf 57 = .ok (.if_icmp .ge 12, 3) := by decide +kernel
theorem dX0_nextOf_60 : decode cX0_nextOf 60 = .ok (.aload 5, 2) := by decide +kernel
theorem dX0_nextOf_62 : decode cX0_nextOf 62 = .ok (.getfield 165, 3) := by decide +kernel
theorem dX0_nextOf_65 : decode cX0_nextOf 65 = .ok (.istore_n 3, 1) := by decide +kernel
theorem dX0_nextOf_66 : decode cX0_nextOf 66 = .ok (.iload 4, 2) := by decide +kernel
theorem dX0_nextOf_68 : decode cX0_nextOf 68 = .ok (.istore_n 2, 1) := by decide +kernel
theorem dX0_nextOf_69 : decode cX0_nextOf 69 = .ok (.iinc 4 1, 3) := by decide +kernel
theorem dX0_nextOf_72 : decode cX0_nextOf 72 = .ok (.goto (-63), 3) := by decide +kernel
theorem dX0_nextOf_75 : decode cX0_nextOf 75 = .ok (.iload_n 2, 1) := by decide +kernel
theorem dX0_nextOf_76 : decode cX0_nextOf 76 = .ok (.ireturn, 1) := by decide +kernel
theorem dX0_placeOf_0 : decode cX0_placeOf 0 = .ok (.aload_n 0, 1) := by decide +kernel
theorem dX0_placeOf_1 : decode cX0_placeOf 1 = .ok (.iload_n 1, 1) := by decide +kernel
theorem dX0_placeOf_2 : decode cX0_placeOf 2 = .ok (.invokevirtual 42, 3) := by decide +kernel
theorem dX0_placeOf_5 : decode cX0_placeOf 5 = .ok (.astore_n 2, 1) := by decide +kernel
theorem dX0_placeOf_6 : decode cX0_placeOf 6 = .ok (.aload_n 2, 1) := by decide +kernel
theorem dX0_placeOf_7 : decode cX0_placeOf 7 = .ok (.ifnull 10, 3) := by decide +kernel
theorem dX0_placeOf_10 : decode cX0_placeOf 10 = .ok (.aload_n 2, 1) := by decide +kernel
theorem dX0_placeOf_11 : decode cX0_placeOf 11 = .ok (.getfield 82, 3) := by decide +kernel
theorem dX0_placeOf_14 : decode cX0_placeOf 14 = .ok (.ifCond .eq 6, 3) := by decide +kernel
theorem dX0_placeOf_17 : decode cX0_placeOf 17 = .ok (.bipush (-6), 2) := by decide +kernel
theorem dX0_placeOf_19 : decode cX0_placeOf 19 = .ok (.ireturn, 1) := by decide +kernel
theorem dX0_placeOf_20 : decode cX0_placeOf 20 = .ok (.iconst 0, 1) := by decide +kernel
theorem dX0_placeOf_21 : decode cX0_placeOf 21 = .ok (.istore_n 3, 1) := by decide +kernel
theorem dX0_placeOf_22 : decode cX0_placeOf 22 = .ok (.iconst 0, 1) := by decide +kernel
theorem dX0_placeOf_23 : decode cX0_placeOf 23 = .ok (.istore 4, 2) := by decide +kernel
theorem dX0_placeOf_25 : decode cX0_placeOf 25 = .ok (.iload 4, 2) := by decide +kernel
theorem dX0_placeOf_27 : decode cX0_placeOf 27 = .ok (.aload_n 0, 1) := by decide +kernel
theorem dX0_placeOf_28 : decode cX0_placeOf 28 = .ok (.getfield 15, 3) := by decide +kernel
theorem dX0_placeOf_31 : decode cX0_placeOf 31 = .ok (.if_icmp .ge 66, 3) := by decide +kernel
theorem dX0_placeOf_34 : decode cX0_placeOf 34 = .ok (.aload_n 0, 1) := by decide +kernel
theorem dX0_placeOf_35 : decode cX0_placeOf 35 = .ok (.iload 4, 2) := by decide +kernel
theorem dX0_placeOf_37 : decode cX0_placeOf 37 = .ok (.invokevirtual 42, 3) := by decide +kernel
theorem dX0_placeOf_40 : decode cX0_placeOf 40 = .ok (.astore 5, 2) := by decide +kernel
theorem dX0_placeOf_42 : decode cX0_placeOf 42 = .ok (.aload 5, 2) := by decide +kernel
theorem dX0_placeOf_44 : decode cX0_placeOf 44 = .ok (.ifnull 47, 3) := by decide +kernel
theorem dX0_placeOf_47 : decode cX0_placeOf 47 = .ok (.aload 5, 2) := by decide +kernel
theorem dX0_placeOf_49 : decode cX0_placeOf 49 = .ok (.getfield 82, 3) := by decide +kernel
theorem dX0_placeOf_52 : decode cX0_placeOf 52 = .ok (.ifCond .eq 6, 3) := by decide +kernel
theorem dX0_placeOf_55 : decode cX0_placeOf 55 = .ok (.goto 36, 3) := by decide +kernel
theorem dX0_placeOf_58 : decode cX0_placeOf 58 = .ok (.aload 5, 2) := by decide +kernel
theorem dX0_placeOf_60 : decode cX0_placeOf 60 = .ok (.getfield 165, 3) := by decide +kernel
theorem dX0_placeOf_63 : decode cX0_placeOf 63 = .ok (.aload_n 2, 1) := by decide +kernel
theorem dX0_placeOf_64 : decode cX0_placeOf 64 = .ok (.getfield 165, 3) := by decide +kernel
theorem dX0_placeOf_67 : decode cX0_placeOf 67 = .ok (.if_icmp .lt 21, 3) := by decide +kernel
theorem dX0_placeOf_70 : decode cX0_placeOf 70 = .ok (.aload 5, 2) := by decide +kernel
theorem dX0_placeOf_72 : decode cX0_placeOf 72 = .ok (.getfield 165, 3) := by decide +kernel
theorem dX0_placeOf_75 : decode cX0_placeOf 75 = .ok (.aload_n 2, 1) := by decide +kernel
theorem dX0_placeOf_76 : decode cX0_placeOf 76 = .ok (.getfield 165, 3) := by decide +kernel
theorem dX0_placeOf_79 : decode cX0_placeOf 79 = .ok (.if_icmp .ne 12, 3) := by decide +kernel
theorem dX0_placeOf_82 : decode cX0_placeOf 82 = .ok (.iload 4, 2) := by decide +kernel
theorem dX0_placeOf_84 : decode cX0_placeOf 84 = .ok (.iload_n 1, 1) := by decide +kernel
theorem dX0_placeOf_85 : decode cX0_placeOf 85 = .ok (.if_icmp .ge 6, 3) := by decide +kernel
theorem dX0_placeOf_88 : decode cX0_placeOf 88 = .ok (.iinc 3 1, 3) := by decide +kernel
theorem dX0_placeOf_91 : decode cX0_placeOf 91 = .ok (.iinc 4 1, 3) := by decide +kernel
theorem dX0_placeOf_94 : decode cX0_placeOf 94 = .ok (.goto (-69), 3) := by decide +kernel
theorem dX0_placeOf_97 : decode cX0_placeOf 97 = .ok (.iload_n 3, 1) := by decide +kernel
theorem dX0_placeOf_98 : decode cX0_placeOf 98 = .ok (.ireturn, 1) := by decide +kernel
theorem dX0_thingsThatAre_0 : decode cX0_thingsThatAre 0 = .ok (.iconst 0, 1) := by decide +kernel
theorem dX0_thingsThatAre_1 : decode cX0_thingsThatAre 1 = .ok (.istore_n 2, 1) := by decide +kernel
theorem dX0_thingsThatAre_2 : decode cX0_thingsThatAre 2 = .ok (.iconst 0, 1) := by decide +kernel
theorem dX0_thingsThatAre_3 : decode cX0_thingsThatAre 3 = .ok (.istore_n 3, 1) := by decide +kernel
theorem dX0_thingsThatAre_4 : decode cX0_thingsThatAre 4 = .ok (.iload_n 3, 1) := by decide +kernel
theorem dX0_thingsThatAre_5 : decode cX0_thingsThatAre 5 = .ok (.aload_n 0, 1) := by decide +kernel
theorem dX0_thingsThatAre_6 : decode cX0_thingsThatAre 6 = .ok (.getfield 15, 3) := by decide +kernel
theorem dX0_thingsThatAre_9 : decode cX0_thingsThatAre 9 = .ok (.if_icmp .ge 33, 3) := by decide +kernel
theorem dX0_thingsThatAre_12 : decode cX0_thingsThatAre 12 = .ok (.aload_n 0, 1) := by decide +kernel
theorem dX0_thingsThatAre_13 : decode cX0_thingsThatAre 13 = .ok (.iload_n 3, 1) := by decide +kernel
theorem dX0_thingsThatAre_14 : decode cX0_thingsThatAre 14 = .ok (.invokevirtual 42, 3) := by decide +kernel
theorem dX0_thingsThatAre_17 : decode cX0_thingsThatAre 17 = .ok (.astore 4, 2) := by decide +kernel
theorem dX0_thingsThatAre_19 : decode cX0_thingsThatAre 19 = .ok (.aload 4, 2) := by decide +kernel
theorem dX0_thingsThatAre_21 : decode cX0_thingsThatAre 21 = .ok (.ifnull 15, 3) := by decide +kernel
theorem dX0_thingsThatAre_24 : decode cX0_thingsThatAre 24 = .ok (.aload 4, 2) := by decide +kernel
theorem dX0_thingsThatAre_26 : decode cX0_thingsThatAre 26 = .ok (.getfield 82, 3) := by decide +kernel
theorem dX0_thingsThatAre_29 : decode cX0_thingsThatAre 29 = .ok (.iload_n 1, 1) := by decide +kernel
theorem dX0_thingsThatAre_30 : decode cX0_thingsThatAre 30 = .ok (.if_icmp .ne 6, 3) := by decide +kernel
theorem dX0_thingsThatAre_33 : decode cX0_thingsThatAre 33 = .ok (.iinc 2 1, 3) := by decide +kernel
theorem dX0_thingsThatAre_36 : decode cX0_thingsThatAre 36 = .ok (.iinc 3 1, 3) := by decide +kernel
theorem dX0_thingsThatAre_39 : decode cX0_thingsThatAre 39 = .ok (.goto (-35), 3) := by decide +kernel
theorem dX0_thingsThatAre_42 : decode cX0_thingsThatAre 42 = .ok (.iload_n 2, 1) := by decide +kernel
theorem dX0_thingsThatAre_43 : decode cX0_thingsThatAre 43 = .ok (.ireturn, 1) := by decide +kernel
theorem dX0_brokenOnes_0 : decode cX0_brokenOnes 0 = .ok (.iconst 0, 1) := by decide +kernel
theorem dX0_brokenOnes_1 : decode cX0_brokenOnes 1 = .ok (.istore_n 2, 1) := by decide +kernel
theorem dX0_brokenOnes_2 : decode cX0_brokenOnes 2 = .ok (.iconst 0, 1) := by decide +kernel
theorem dX0_brokenOnes_3 : decode cX0_brokenOnes 3 = .ok (.istore_n 3, 1) := by decide +kernel
theorem dX0_brokenOnes_4 : decode cX0_brokenOnes 4 = .ok (.iload_n 3, 1) := by decide +kernel
theorem dX0_brokenOnes_5 : decode cX0_brokenOnes 5 = .ok (.aload_n 0, 1) := by decide +kernel
theorem dX0_brokenOnes_6 : decode cX0_brokenOnes 6 = .ok (.getfield 15, 3) := by decide +kernel
theorem dX0_brokenOnes_9 : decode cX0_brokenOnes 9 = .ok (.if_icmp .ge 44, 3) := by decide +kernel
theorem dX0_brokenOnes_12 : decode cX0_brokenOnes 12 = .ok (.aload_n 0, 1) := by decide +kernel
theorem dX0_brokenOnes_13 : decode cX0_brokenOnes 13 = .ok (.iload_n 3, 1) := by decide +kernel
theorem dX0_brokenOnes_14 : decode cX0_brokenOnes 14 = .ok (.invokevirtual 42, 3) := by decide +kernel
theorem dX0_brokenOnes_17 : decode cX0_brokenOnes 17 = .ok (.astore 4, 2) := by decide +kernel
theorem dX0_brokenOnes_19 : decode cX0_brokenOnes 19 = .ok (.aload 4, 2) := by decide +kernel
theorem dX0_brokenOnes_21 : decode cX0_brokenOnes 21 = .ok (.ifnull 26, 3) := by decide +kernel
theorem dX0_brokenOnes_24 : decode cX0_brokenOnes 24 = .ok (.aload 4, 2) := by decide +kernel
theorem dX0_brokenOnes_26 : decode cX0_brokenOnes 26 = .ok (.invokevirtual 168, 3) := by decide +kernel
theorem dX0_brokenOnes_29 : decode cX0_brokenOnes 29 = .ok (.ifCond .eq 18, 3) := by decide +kernel
theorem dX0_brokenOnes_32 : decode cX0_brokenOnes 32 = .ok (.aload 4, 2) := by decide +kernel
theorem dX0_brokenOnes_34 : decode cX0_brokenOnes 34 = .ok (.getfield 125, 3) := by decide +kernel
theorem dX0_brokenOnes_37 : decode cX0_brokenOnes 37 = .ok (.iload_n 1, 1) := by decide +kernel
theorem dX0_brokenOnes_38 : decode cX0_brokenOnes 38 = .ok (.invokestatic 150, 3) := by decide +kernel
theorem dX0_brokenOnes_41 : decode cX0_brokenOnes 41 = .ok (.ifCond .eq 6, 3) := by decide +kernel
theorem dX0_brokenOnes_44 : decode cX0_brokenOnes 44 = .ok (.iinc 2 1, 3) := by decide +kernel
theorem dX0_brokenOnes_47 : decode cX0_brokenOnes 47 = .ok (.iinc 3 1, 3) := by decide +kernel
theorem dX0_brokenOnes_50 : decode cX0_brokenOnes 50 = .ok (.goto (-46), 3) := by decide +kernel
theorem dX0_brokenOnes_53 : decode cX0_brokenOnes 53 = .ok (.iload_n 2, 1) := by decide +kernel
theorem dX0_brokenOnes_54 : decode cX0_brokenOnes 54 = .ok (.ireturn, 1) := by decide +kernel
theorem dX0_missingOnes_0 : decode cX0_missingOnes 0 = .ok (.aload_n 0, 1) := by decide +kernel
theorem dX0_missingOnes_1 : decode cX0_missingOnes 1 = .ok (.iload_n 1, 1) := by decide +kernel
theorem dX0_missingOnes_2 : decode cX0_missingOnes 2 = .ok (.invokevirtual 57, 3) := by decide +kernel
theorem dX0_missingOnes_5 : decode cX0_missingOnes 5 = .ok (.astore_n 2, 1) := by decide +kernel
theorem dX0_missingOnes_6 : decode cX0_missingOnes 6 = .ok (.aload_n 2, 1) := by decide +kernel
theorem dX0_missingOnes_7 : decode cX0_missingOnes 7 = .ok (.ifnonnull 7, 3) := by decide +kernel
theorem dX0_missingOnes_10 : decode cX0_missingOnes 10 = .ok (.iconst 0, 1) := by decide +kernel
theorem dX0_missingOnes_11 : decode cX0_missingOnes 11 = .ok (.goto 13, 3) := by decide +kernel
theorem dX0_missingOnes_14 : decode cX0_missingOnes 14 = .ok (.aload_n 0, 1) := by decide +kernel
theorem dX0_missingOnes_15 : decode cX0_missingOnes 15 = .ok (.iload_n 1, 1) := by decide +kernel
theorem dX0_missingOnes_16 : decode cX0_missingOnes 16 = .ok (.invokevirtual 171, 3) := by decide +kernel
theorem dX0_missingOnes_19 : decode cX0_missingOnes 19 = .ok (.aload_n 2, 1) := by decide +kernel
theorem dX0_missingOnes_20 : decode cX0_missingOnes 20 = .ok (.getfield 79, 3) := by decide +kernel
theorem dX0_missingOnes_23 : decode cX0_missingOnes 23 = .ok (.isub, 1) := by decide +kernel
theorem dX0_missingOnes_24 : decode cX0_missingOnes 24 = .ok (.ireturn, 1) := by decide +kernel
theorem dX1_init_0 : decode cX1_init 0 = .ok (.aload_n 0, 1) := by decide +kernel
theorem dX1_init_1 : decode cX1_init 1 = .ok (.invokespecial 3, 3) := by decide +kernel
theorem dX1_init_4 : decode cX1_init 4 = .ok (.aload_n 0, 1) := by decide +kernel
theorem dX1_init_5 : decode cX1_init 5 = .ok (.iconst 0, 1) := by decide +kernel
theorem dX1_init_6 : decode cX1_init 6 = .ok (.putfield 9, 3) := by decide +kernel
theorem dX1_init_9 : decode cX1_init 9 = .ok (.aload_n 0, 1) := by decide +kernel
theorem dX1_init_10 : decode cX1_init 10 = .ok (.iconst 0, 1) := by decide +kernel
theorem dX1_init_11 : decode cX1_init 11 = .ok (.putfield 15, 3) := by decide +kernel
theorem dX1_init_14 : decode cX1_init 14 = .ok (.aload_n 0, 1) := by decide +kernel
theorem dX1_init_15 : decode cX1_init 15 = .ok (.bipush (-6), 2) := by decide +kernel
theorem dX1_init_17 : decode cX1_init 17 = .ok (.putfield 18, 3) := by decide +kernel
theorem dX1_init_20 : decode cX1_init 20 = .ok (.aload_n 0, 1) := by decide +kernel
theorem dX1_init_21 : decode cX1_init 21 = .ok (.iconst 0, 1) := by decide +kernel
theorem dX1_init_22 : decode cX1_init 22 = .ok (.putfield 21, 3) := by decide +kernel
theorem dX1_init_25 : decode cX1_init 25 = .ok (.aload_n 0, 1) := by decide +kernel
theorem dX1_init_26 : decode cX1_init 26 = .ok (.iconst 0, 1) := by decide +kernel
theorem dX1_init_27 : decode cX1_init 27 = .ok (.putfield 24, 3) := by decide +kernel
theorem dX1_init_30 : decode cX1_init 30 = .ok (.aload_n 0, 1) := by decide +kernel
theorem dX1_init_31 : decode cX1_init 31 = .ok (.iconst 0, 1) := by decide +kernel
theorem dX1_init_32 : decode cX1_init 32 = .ok (.putfield 27, 3) := by decide +kernel
theorem dX1_init_35 : decode cX1_init 35 = .ok (.return_, 1) := by decide +kernel
theorem dX1_come_0 : decode cX1_come 0 = .ok (.aload_n 0, 1) := by decide +kernel
theorem dX1_come_1 : decode cX1_come 1 = .ok (.iload_n 1, 1) := by decide +kernel
theorem dX1_come_2 : decode cX1_come 2 = .ok (.putfield 9, 3) := by decide +kernel
theorem dX1_come_5 : decode cX1_come 5 = .ok (.aload_n 0, 1) := by decide +kernel
theorem dX1_come_6 : decode cX1_come 6 = .ok (.iload_n 2, 1) := by decide +kernel
theorem dX1_come_7 : decode cX1_come 7 = .ok (.putfield 15, 3) := by decide +kernel
theorem dX1_come_10 : decode cX1_come 10 = .ok (.aload_n 0, 1) := by decide +kernel
theorem dX1_come_11 : decode cX1_come 11 = .ok (.bipush (-6), 2) := by decide +kernel
theorem dX1_come_13 : decode cX1_come 13 = .ok (.putfield 18, 3) := by decide +kernel
theorem dX1_come_16 : decode cX1_come 16 = .ok (.aload_n 0, 1) := by decide +kernel
theorem dX1_come_17 : decode cX1_come 17 = .ok (.iconst 0, 1) := by decide +kernel
theorem dX1_come_18 : decode cX1_come 18 = .ok (.putfield 21, 3) := by decide +kernel
theorem dX1_come_21 : decode cX1_come 21 = .ok (.aload_n 0, 1) := by decide +kernel
theorem dX1_come_22 : decode cX1_come 22 = .ok (.iconst 0, 1) := by decide +kernel
theorem dX1_come_23 : decode cX1_come 23 = .ok (.putfield 24, 3) := by decide +kernel
theorem dX1_come_26 : decode cX1_come 26 = .ok (.aload_n 0, 1) := by decide +kernel
theorem dX1_come_27 : decode cX1_come 27 = .ok (.iconst 0, 1) := by decide +kernel
theorem dX1_come_28 : decode cX1_come 28 = .ok (.putfield 27, 3) := by decide +kernel
theorem dX1_come_31 : decode cX1_come 31 = .ok (.return_, 1) := by decide +kernel
theorem dX1_copyFrom_0 : decode cX1_copyFrom 0 = .ok (.aload_n 1, 1) := by decide +kernel
theorem dX1_copyFrom_1 : decode cX1_copyFrom 1 = .ok (.ifnonnull 4, 3) := by decide +kernel
theorem dX1_copyFrom_4 : decode cX1_copyFrom 4 = .ok (.return_, 1) := by decide +kernel
theorem dX1_copyFrom_5 : decode cX1_copyFrom 5 = .ok (.aload_n 0, 1) := by decide +kernel
theorem dX1_copyFrom_6 : decode cX1_copyFrom 6 = .ok (.aload_n 1, 1) := by decide +kernel
theorem dX1_copyFrom_7 : decode cX1_copyFrom 7 = .ok (.getfield 9, 3) := by decide +kernel
theorem dX1_copyFrom_10 : decode cX1_copyFrom 10 = .ok (.putfield 9, 3) := by decide +kernel
theorem dX1_copyFrom_13 : decode cX1_copyFrom 13 = .ok (.aload_n 0, 1) := by decide +kernel
theorem dX1_copyFrom_14 : decode cX1_copyFrom 14 = .ok (.aload_n 1, 1) := by decide +kernel
theorem dX1_copyFrom_15 : decode cX1_copyFrom 15 = .ok (.getfield 15, 3) := by decide +kernel
theorem dX1_copyFrom_18 : decode cX1_copyFrom 18 = .ok (.putfield 15, 3) := by decide +kernel
theorem dX1_copyFrom_21 : decode cX1_copyFrom 21 = .ok (.aload_n 0, 1) := by decide +kernel
theorem dX1_copyFrom_22 : decode cX1_copyFrom 22 = .ok (.aload_n 1, 1) := by decide +kernel
theorem dX1_copyFrom_23 : decode cX1_copyFrom 23 = .ok (.getfield 18, 3) := by decide +kernel
theorem dX1_copyFrom_26 : decode cX1_copyFrom 26 = .ok (.putfield 18, 3) := by decide +kernel
theorem dX1_copyFrom_29 : decode cX1_copyFrom 29 = .ok (.aload_n 0, 1) := by decide +kernel
theorem dX1_copyFrom_30 : decode cX1_copyFrom 30 = .ok (.aload_n 1, 1) := by decide +kernel
theorem dX1_copyFrom_31 : decode cX1_copyFrom 31 = .ok (.getfield 21, 3) := by decide +kernel
theorem dX1_copyFrom_34 : decode cX1_copyFrom 34 = .ok (.putfield 21, 3) := by decide +kernel
theorem dX1_copyFrom_37 : decode cX1_copyFrom 37 = .ok (.aload_n 0, 1) := by decide +kernel
theorem dX1_copyFrom_38 : decode cX1_copyFrom 38 = .ok (.aload_n 1, 1) := by decide +kernel
theorem dX1_copyFrom_39 : decode cX1_copyFrom 39 = .ok (.getfield 24, 3) := by decide +kernel
theorem dX1_copyFrom_42 : decode cX1_copyFrom 42 = .ok (.putfield 24, 3) := by decide +kernel
theorem dX1_copyFrom_45 : decode cX1_copyFrom 45 = .ok (.aload_n 0, 1) := by decide +kernel
theorem dX1_copyFrom_46 : decode cX1_copyFrom 46 = .ok (.aload_n 1, 1) := by decide +kernel
theorem dX1_copyFrom_47 : decode cX1_copyFrom 47 = .ok (.getfield 27, 3) := by decide +kernel
theorem dX1_copyFrom_50 : decode cX1_copyFrom 50 = .ok (.putfield 27, 3) := by decide +kernel
theorem dX1_copyFrom_53 : decode cX1_copyFrom 53 = .ok (.return_, 1) := by decide +kernel
theorem dX2_init_0 : decode cX2_init 0 = .ok (.aload_n 0, 1) := by decide +kernel
theorem dX2_init_1 : decode cX2_init 1 = .ok (.invokespecial 3, 3) := by decide +kernel
theorem dX2_init_4 : decode cX2_init 4 = .ok (.aload_n 0, 1) := by decide +kernel
theorem dX2_init_5 : decode cX2_init 5 = .ok (.iconst 0, 1) := by decide +kernel
theorem dX2_init_6 : decode cX2_init 6 = .ok (.putfield 9, 3) := by decide +kernel
theorem dX2_init_9 : decode cX2_init 9 = .ok (.aload_n 0, 1) := by decide +kernel
theorem dX2_init_10 : decode cX2_init 10 = .ok (.iconst 0, 1) := by decide +kernel
theorem dX2_init_11 : decode cX2_init 11 = .ok (.putfield 15, 3) := by decide +kernel
theorem dX2_init_14 : decode cX2_init 14 = .ok (.aload_n 0, 1) := by decide +kernel
theorem dX2_init_15 : decode cX2_init 15 = .ok (.iconst 0, 1) := by decide +kernel
theorem dX2_init_16 : decode cX2_init 16 = .ok (.putfield 18, 3) := by decide +kernel
theorem dX2_init_19 : decode cX2_init 19 = .ok (.aload_n 0, 1) := by decide +kernel
theorem dX2_init_20 : decode cX2_init 20 = .ok (.iconst 0, 1) := by decide +kernel
theorem dX2_init_21 : decode cX2_init 21 = .ok (.putfield 21, 3) := by decide +kernel
theorem dX2_init_24 : decode cX2_init 24 = .ok (.aload_n 0, 1) := by decide +kernel
theorem dX2_init_25 : decode cX2_init 25 = .ok (.iconst 0, 1) := by decide +kernel
theorem dX2_init_26 : decode cX2_init 26 = .ok (.putfield 24, 3) := by decide +kernel
theorem dX2_init_29 : decode cX2_init 29 = .ok (.aload_n 0, 1) := by decide +kernel
theorem dX2_init_30 : decode cX2_init 30 = .ok (.iconst 0, 1) := by decide +kernel
theorem dX2_init_31 : decode cX2_init 31 = .ok (.putfield 27, 3) := by decide +kernel
theorem dX2_init_34 : decode cX2_init 34 = .ok (.aload_n 0, 1) := by decide +kernel
theorem dX2_init_35 : decode cX2_init 35 = .ok (.iconst 0, 1) := by decide +kernel
theorem dX2_init_36 : decode cX2_init 36 = .ok (.putfield 30, 3) := by decide +kernel
theorem dX2_init_39 : decode cX2_init 39 = .ok (.aload_n 0, 1) := by decide +kernel
theorem dX2_init_40 : decode cX2_init 40 = .ok (.bipush 80, 2) := by decide +kernel
theorem dX2_init_42 : decode cX2_init 42 = .ok (.newarray .char, 2) := by decide +kernel
theorem dX2_init_44 : decode cX2_init 44 = .ok (.putfield 33, 3) := by decide +kernel
theorem dX2_init_47 : decode cX2_init 47 = .ok (.return_, 1) := by decide +kernel
theorem dX2_append_0 : decode cX2_append 0 = .ok (.aload_n 0, 1) := by decide +kernel
theorem dX2_append_1 : decode cX2_append 1 = .ok (.getfield 9, 3) := by decide +kernel
theorem dX2_append_4 : decode cX2_append 4 = .ok (.ifCond .lt 36, 3) := by decide +kernel
theorem dX2_append_7 : decode cX2_append 7 = .ok (.aload_n 0, 1) := by decide +kernel
theorem dX2_append_8 : decode cX2_append 8 = .ok (.getfield 9, 3) := by decide +kernel
theorem dX2_append_11 : decode cX2_append 11 = .ok (.aload_n 0, 1) := by decide +kernel
theorem dX2_append_12 : decode cX2_append 12 = .ok (.getfield 33, 3) := by decide +kernel
theorem dX2_append_15 : decode cX2_append 15 = .ok (.arraylength, 1) := by decide +kernel
theorem dX2_append_16 : decode cX2_append 16 = .ok (.if_icmp .ge 24, 3) := by decide +kernel
theorem dX2_append_19 : decode cX2_append 19 = .ok (.aload_n 0, 1) := by decide +kernel
theorem dX2_append_20 : decode cX2_append 20 = .ok (.getfield 33, 3) := by decide +kernel
theorem dX2_append_23 : decode cX2_append 23 = .ok (.aload_n 0, 1) := by decide +kernel
theorem dX2_append_24 : decode cX2_append 24 = .ok (.getfield 9, 3) := by decide +kernel
theorem dX2_append_27 : decode cX2_append 27 = .ok (.iload_n 1, 1) := by decide +kernel
theorem dX2_append_28 : decode cX2_append 28 = .ok (.i2c, 1) := by decide +kernel
theorem dX2_append_29 : decode cX2_append 29 = .ok (.castore, 1) := by decide +kernel
theorem dX2_append_30 : decode cX2_append 30 = .ok (.aload_n 0, 1) := by decide +kernel
theorem dX2_append_31 : decode cX2_append 31 = .ok (.dup, 1) := by decide +kernel
theorem dX2_append_32 : decode cX2_append 32 = .ok (.getfield 9, 3) := by decide +kernel
theorem dX2_append_35 : decode cX2_append 35 = .ok (.iconst 1, 1) := by decide +kernel
theorem dX2_append_36 : decode cX2_append 36 = .ok (.iadd, 1) := by decide +kernel
theorem dX2_append_37 : decode cX2_append 37 = .ok (.putfield 9, 3) := by decide +kernel
theorem dX2_append_40 : decode cX2_append 40 = .ok (.return_, 1) := by decide +kernel
theorem dX2_sign_0 : decode cX2_sign 0 = .ok (.aload_n 0, 1) := by decide +kernel
theorem dX2_sign_1 : decode cX2_sign 1 = .ok (.getfield 15, 3) := by decide +kernel
theorem dX2_sign_4 : decode cX2_sign 4 = .ok (.ifCond .lt 38, 3) := by decide +kernel
theorem dX2_sign_7 : decode cX2_sign 7 = .ok (.aload_n 0, 1) := by decide +kernel
theorem dX2_sign_8 : decode cX2_sign 8 = .ok (.getfield 15, 3) := by decide +kernel
theorem dX2_sign_11 : decode cX2_sign 11 = .ok (.aload_n 0, 1) := by decide +kernel
theorem dX2_sign_12 : decode cX2_sign 12 = .ok (.getfield 9, 3) := by decide +kernel
theorem dX2_sign_15 : decode cX2_sign 15 = .ok (.if_icmp .ge 27, 3) := by decide +kernel
theorem dX2_sign_18 : decode cX2_sign 18 = .ok (.aload_n 0, 1) := by decide +kernel
theorem dX2_sign_19 : decode cX2_sign 19 = .ok (.getfield 15, 3) := by decide +kernel
theorem dX2_sign_22 : decode cX2_sign 22 = .ok (.aload_n 0, 1) := by decide +kernel
theorem dX2_sign_23 : decode cX2_sign 23 = .ok (.getfield 33, 3) := by decide +kernel
theorem dX2_sign_26 : decode cX2_sign 26 = .ok (.arraylength, 1) := by decide +kernel
theorem dX2_sign_27 : decode cX2_sign 27 = .ok (.if_icmp .ge 15, 3) := by decide +kernel
theorem dX2_sign_30 : decode cX2_sign 30 = .ok (.aload_n 0, 1) := by decide +kernel
theorem dX2_sign_31 : decode cX2_sign 31 = .ok (.getfield 33, 3) := by decide +kernel
theorem dX2_sign_34 : decode cX2_sign 34 = .ok (.aload_n 0, 1) := by decide +kernel
theorem dX2_sign_35 : decode cX2_sign 35 = .ok (.getfield 15, 3) := by decide +kernel
theorem dX2_sign_38 : decode cX2_sign 38 = .ok (.caload, 1) := by decide +kernel
theorem dX2_sign_39 : decode cX2_sign 39 = .ok (.goto 4, 3) := by decide +kernel
theorem dX2_sign_42 : decode cX2_sign 42 = .ok (.iconst 0, 1) := by decide +kernel
theorem dX2_sign_43 : decode cX2_sign 43 = .ok (.ireturn, 1) := by decide +kernel
theorem dX2_begin_0 : decode cX2_begin 0 = .ok (.aload_n 0, 1) := by decide +kernel
theorem dX2_begin_1 : decode cX2_begin 1 = .ok (.iconst 0, 1) := by decide +kernel
theorem dX2_begin_2 : decode cX2_begin 2 = .ok (.putfield 15, 3) := by decide +kernel
theorem dX2_begin_5 : decode cX2_begin 5 = .ok (.return_, 1) := by decide +kernel
theorem dX2_isAtEnd_0 : decode cX2_isAtEnd 0 = .ok (.aload_n 0, 1) := by decide +kernel
theorem dX2_isAtEnd_1 : decode cX2_isAtEnd 1 = .ok (.getfield 15, 3) := by decide +kernel
theorem dX2_isAtEnd_4 : decode cX2_isAtEnd 4 = .ok (.aload_n 0, 1) := by decide +kernel
theorem dX2_isAtEnd_5 : decode cX2_isAtEnd 5 = .ok (.getfield 9, 3) := by decide +kernel
theorem dX2_isAtEnd_8 : decode cX2_isAtEnd 8 = .ok (.if_icmp .lt 7, 3) := by decide +kernel
theorem dX2_isAtEnd_11 : decode cX2_isAtEnd 11 = .ok (.iconst 1, 1) := by decide +kernel
theorem dX2_isAtEnd_12 : decode cX2_isAtEnd 12 = .ok (.goto 4, 3) := by decide +kernel
theorem dX2_isAtEnd_15 : decode cX2_isAtEnd 15 = .ok (.iconst 0, 1) := by decide +kernel
theorem dX2_isAtEnd_16 : decode cX2_isAtEnd 16 = .ok (.ireturn, 1) := by decide +kernel
theorem dX2_readOrder_0 : decode cX2_readOrder 0 = .ok (.aload_n 0, 1) := by decide +kernel
theorem dX2_readOrder_1 : decode cX2_readOrder 1 = .ok (.aload_n 0, 1) := by decide +kernel
theorem dX2_readOrder_2 : decode cX2_readOrder 2 = .ok (.invokevirtual 37, 3) := by decide +kernel
theorem dX2_readOrder_5 : decode cX2_readOrder 5 = .ok (.putfield 18, 3) := by decide +kernel
theorem dX2_readOrder_8 : decode cX2_readOrder 8 = .ok (.aload_n 0, 1) := by decide +kernel
theorem dX2_readOrder_9 : decode cX2_readOrder 9 = .ok (.iconst 0, 1) := by decide +kernel
theorem dX2_readOrder_10 : decode cX2_readOrder 10 = .ok (.putfield 21, 3) := by decide +kernel
theorem dX2_readOrder_13 : decode cX2_readOrder 13 = .ok (.aload_n 0, 1) := by decide +kernel
theorem dX2_readOrder_14 : decode cX2_readOrder 14 = .ok (.iconst 0, 1) := by decide +kernel
theorem dX2_readOrder_15 : decode cX2_readOrder 15 = .ok (.putfield 24, 3) := by decide +kernel
theorem dX2_readOrder_18 : decode cX2_readOrder 18 = .ok (.aload_n 0, 1) := by decide +kernel
theorem dX2_readOrder_19 : decode cX2_readOrder 19 = .ok (.iconst 0, 1) := by decide +kernel
theorem dX2_readOrder_20 : decode cX2_readOrder 20 = .ok (.putfield 27, 3) := by decide +kernel
theorem dX2_readOrder_23 : decode cX2_readOrder 23 = .ok (.aload_n 0, 1) := by decide +kernel
theorem dX2_readOrder_24 : decode cX2_readOrder 24 = .ok (.iconst 0, 1) := by decide +kernel
theorem dX2_readOrder_25 : decode cX2_readOrder 25 = .ok (.putfield 30, 3) := by decide +kernel
theorem dX2_readOrder_28 : decode cX2_readOrder 28 = .ok (.aload_n 0, 1) := by decide +kernel
theorem dX2_readOrder_29 : decode cX2_readOrder 29 = .ok (.getfield 18, 3) := by decide +kernel
theorem dX2_readOrder_32 : decode cX2_readOrder 32 = .ok (.lookupswitch 169 #[(43, 44), (100, 107), (102, 66), (116, 147)], 44) := by decide +kernel
theorem dX2_readOrder_76 : decode cX2_readOrder 76 = .ok (.aload_n 0, 1) := by decide +kernel
theorem dX2_readOrder_77 : decode cX2_readOrder 77 = .ok (.bipush 43, 2) := by decide +kernel
theorem dX2_readOrder_79 : decode cX2_readOrder 79 = .ok (.invokevirtual 41, 3) := by decide +kernel
theorem dX2_readOrder_82 : decode cX2_readOrder 82 = .ok (.ifCond .eq 14, 3) := by decide +kernel
theorem dX2_readOrder_85 : decode cX2_readOrder 85 = .ok (.aload_n 0, 1) := by decide +kernel
theorem dX2_readOrder_86 : decode cX2_readOrder 86 = .ok (.invokevirtual 45, 3) := by decide +kernel
theorem dX2_readOrder_89 : decode cX2_readOrder 89 = .ok (.ifCond .eq 7, 3) := by decide +kernel
theorem dX2_readOrder_92 : decode cX2_readOrder 92 = .ok (.iconst 1, 1) := by decide +kernel
theorem dX2_readOrder_93 : decode cX2_readOrder 93 = .ok (.goto 4, 3) := by decide +kernel
theorem dX2_readOrder_96 : decode cX2_readOrder 96 = .ok (.iconst 0, 1) := by decide +kernel
theorem dX2_readOrder_97 : decode cX2_readOrder 97 = .ok (.ireturn, 1) := by decide +kernel
theorem dX2_readOrder_98 : decode cX2_readOrder 98 = .ok (.aload_n 0, 1) := by decide +kernel
theorem dX2_readOrder_99 : decode cX2_readOrder 99 = .ok (.bipush 102, 2) := by decide +kernel
theorem dX2_readOrder_101 : decode cX2_readOrder 101 = .ok (.invokevirtual 41, 3) := by decide +kernel
theorem dX2_readOrder_104 : decode cX2_readOrder 104 = .ok (.ifCond .eq 33, 3) := by decide +kernel
theorem dX2_readOrder_107 : decode cX2_readOrder 107 = .ok (.aload_n 0, 1) := by decide +kernel
theorem dX2_readOrder_108 : decode cX2_readOrder 108 = .ok (.iconst 5, 1) := by decide +kernel
theorem dX2_readOrder_109 : decode cX2_readOrder 109 = .ok (.invokevirtual 49, 3) := by decide +kernel
theorem dX2_readOrder_112 : decode cX2_readOrder 112 = .ok (.ifCond .eq 25, 3) := by decide +kernel
theorem dX2_readOrder_115 : decode cX2_readOrder 115 = .ok (.aload_n 0, 1) := by decide +kernel
theorem dX2_readOrder_116 : decode cX2_readOrder 116 = .ok (.bipush 94, 2) := by decide +kernel
theorem dX2_readOrder_118 : decode cX2_readOrder 118 = .ok (.invokevirtual 41, 3) := by decide +kernel
theorem dX2_readOrder_121 : decode cX2_readOrder 121 = .ok (.ifCond .eq 16, 3) := by decide +kernel
theorem dX2_readOrder_124 : decode cX2_readOrder 124 = .ok (.aload_n 0, 1) := by decide +kernel
theorem dX2_readOrder_125 : decode cX2_readOrder 125 = .ok (.bipush 9, 2) := by decide +kernel
theorem dX2_readOrder_127 : decode cX2_readOrder 127 = .ok (.invokevirtual 52, 3) := by decide +kernel
theorem dX2_readOrder_130 : decode cX2_readOrder 130 = .ok (.ifCond .eq 7, 3) := by decide +kernel
theorem dX2_readOrder_133 : decode cX2_readOrder 133 = .ok (.iconst 1, 1) := by decide +kernel
theorem dX2_readOrder_134 : decode cX2_readOrder 134 = .ok (.goto 4, 3) := by decide +kernel
theorem dX2_readOrder_137 : decode cX2_readOrder 137 = .ok (.iconst 0, 1) := by decide +kernel
theorem dX2_readOrder_138 : decode cX2_readOrder 138 = .ok (.ireturn, 1) := by decide +kernel
theorem dX2_readOrder_139 : decode cX2_readOrder 139 = .ok (.aload_n 0, 1) := by decide +kernel
theorem dX2_readOrder_140 : decode cX2_readOrder 140 = .ok (.bipush 100, 2) := by decide +kernel
theorem dX2_readOrder_142 : decode cX2_readOrder 142 = .ok (.invokevirtual 41, 3) := by decide +kernel
theorem dX2_readOrder_145 : decode cX2_readOrder 145 = .ok (.ifCond .eq 32, 3) := by decide +kernel
theorem dX2_readOrder_148 : decode cX2_readOrder 148 = .ok (.aload_n 0, 1) := by decide +kernel
theorem dX2_readOrder_149 : decode cX2_readOrder 149 = .ok (.bipush 7, 2) := by decide +kernel
theorem dX2_readOrder_151 : decode cX2_readOrder 151 = .ok (.invokevirtual 55, 3) := by decide +kernel
theorem dX2_readOrder_154 : decode cX2_readOrder 154 = .ok (.ifCond .eq 23, 3) := by decide +kernel
theorem dX2_readOrder_157 : decode cX2_readOrder 157 = .ok (.aload_n 0, 1) := by decide +kernel
theorem dX2_readOrder_158 : decode cX2_readOrder 158 = .ok (.bipush 61, 2) := by decide +kernel
theorem dX2_readOrder_160 : decode cX2_readOrder 160 = .ok (.invokevirtual 41, 3) := by decide +kernel
theorem dX2_readOrder_163 : decode cX2_readOrder 163 = .ok (.ifCond .eq 14, 3) := by decide +kernel
theorem dX2_readOrder_166 : decode cX2_readOrder 166 = .ok (.aload_n 0, 1) := by decide +kernel
theorem dX2_readOrder_167 : decode cX2_readOrder 167 = .ok (.invokevirtual 58, 3) := by decide +kernel
theorem dX2_readOrder_170 : decode cX2_readOrder 170 = .ok (.ifCond .eq 7, 3) := by decide +kernel
theorem dX2_readOrder_173 : decode cX2_readOrder 173 = .ok (.iconst 1, 1) := by decide +kernel
theorem dX2_readOrder_174 : decode cX2_readOrder 174 = .ok (.goto 4, 3) := by decide +kernel
theorem dX2_readOrder_177 : decode cX2_readOrder 177 = .ok (.iconst 0, 1) := by decide +kernel
theorem dX2_readOrder_178 : decode cX2_readOrder 178 = .ok (.ireturn, 1) := by decide +kernel
theorem dX2_readOrder_179 : decode cX2_readOrder 179 = .ok (.aload_n 0, 1) := by decide +kernel
theorem dX2_readOrder_180 : decode cX2_readOrder 180 = .ok (.bipush 116, 2) := by decide +kernel
theorem dX2_readOrder_182 : decode cX2_readOrder 182 = .ok (.invokevirtual 41, 3) := by decide +kernel
theorem dX2_readOrder_185 : decode cX2_readOrder 185 = .ok (.ifCond .eq 14, 3) := by decide +kernel
theorem dX2_readOrder_188 : decode cX2_readOrder 188 = .ok (.aload_n 0, 1) := by decide +kernel
theorem dX2_readOrder_189 : decode cX2_readOrder 189 = .ok (.invokevirtual 58, 3) := by decide +kernel
theorem dX2_readOrder_192 : decode cX2_readOrder 192 = .ok (.ifCond .eq 7, 3) := by decide +kernel
theorem dX2_readOrder_195 : decode cX2_readOrder 195 = .ok (.iconst 1, 1) := by decide +kernel
theorem dX2_readOrder_196 : decode cX2_readOrder 196 = .ok (.goto 4, 3) := by decide +kernel
theorem dX2_readOrder_199 : decode cX2_readOrder 199 = .ok (.iconst 0, 1) := by decide +kernel
theorem dX2_readOrder_200 : decode cX2_readOrder 200 = .ok (.ireturn, 1) := by decide +kernel
theorem dX2_readOrder_201 : decode cX2_readOrder 201 = .ok (.iconst 0, 1) := by decide +kernel
theorem dX2_readOrder_202 : decode cX2_readOrder 202 = .ok (.ireturn, 1) := by decide +kernel
theorem dX2_readSign_0 : decode cX2_readSign 0 = .ok (.aload_n 0, 1) := by decide +kernel
theorem dX2_readSign_1 : decode cX2_readSign 1 = .ok (.invokevirtual 37, 3) := by decide +kernel
theorem dX2_readSign_4 : decode cX2_readSign 4 = .ok (.iload_n 1, 1) := by decide +kernel
theorem dX2_readSign_5 : decode cX2_readSign 5 = .ok (.if_icmp .eq 5, 3) := by decide +kernel
theorem dX2_readSign_8 : decode cX2_readSign 8 = .ok (.iconst 0, 1) := by decide +kernel
theorem dX2_readSign_9 : decode cX2_readSign 9 = .ok (.ireturn, 1) := by decide +kernel
theorem dX2_readSign_10 : decode cX2_readSign 10 = .ok (.aload_n 0, 1) := by decide +kernel
theorem dX2_readSign_11 : decode cX2_readSign 11 = .ok (.dup, 1) := by decide +kernel
theorem dX2_readSign_12 : decode cX2_readSign 12 = .ok (.getfield 15, 3) := by decide +kernel
theorem dX2_readSign_15 : decode cX2_readSign 15 = .ok (.iconst 1, 1) := by decide +kernel
theorem dX2_readSign_16 : decode cX2_readSign 16 = .ok (.iadd, 1) := by decide +kernel
theorem dX2_readSign_17 : decode cX2_readSign 17 = .ok (.putfield 15, 3) := by decide +kernel
theorem dX2_readSign_20 : decode cX2_readSign 20 = .ok (.iconst 1, 1) := by decide +kernel
theorem dX2_readSign_21 : decode cX2_readSign 21 = .ok (.ireturn, 1) := by decide +kernel
theorem dX2_readThing_0 : decode cX2_readThing 0 = .ok (.aload_n 0, 1) := by decide +kernel
theorem dX2_readThing_1 : decode cX2_readThing 1 = .ok (.iconst 5, 1) := by decide +kernel
theorem dX2_readThing_2 : decode cX2_readThing 2 = .ok (.invokevirtual 55, 3) := by decide +kernel
theorem dX2_readThing_5 : decode cX2_readThing 5 = .ok (.ifCond .ne 5, 3) := by decide +kernel
theorem dX2_readThing_8 : decode cX2_readThing 8 = .ok (.iconst 0, 1) := by decide +kernel
theorem dX2_readThing_9 : decode cX2_readThing 9 = .ok (.ireturn, 1) := by decide +kernel
theorem dX2_readThing_10 : decode cX2_readThing 10 = .ok (.aload_n 0, 1) := by decide +kernel
theorem dX2_readThing_11 : decode cX2_readThing 11 = .ok (.bipush 58, 2) := by decide +kernel
theorem dX2_readThing_13 : decode cX2_readThing 13 = .ok (.invokevirtual 41, 3) := by decide +kernel
theorem dX2_readThing_16 : decode cX2_readThing 16 = .ok (.ifCond .eq 14, 3) := by decide +kernel
theorem dX2_readThing_19 : decode cX2_readThing 19 = .ok (.aload_n 0, 1) := by decide +kernel
theorem dX2_readThing_20 : decode cX2_readThing 20 = .ok (.bipush 7, 2) := by decide +kernel
theorem dX2_readThing_22 : decode cX2_readThing 22 = .ok (.invokevirtual 49, 3) := by decide +kernel
theorem dX2_readThing_25 : decode cX2_readThing 25 = .ok (.ifCond .ne 5, 3) := by decide +kernel
theorem dX2_readThing_28 : decode cX2_readThing 28 = .ok (.iconst 0, 1) := by decide +kernel
theorem dX2_readThing_29 : decode cX2_readThing 29 = .ok (.ireturn, 1) := by decide +kernel
theorem dX2_readThing_30 : decode cX2_readThing 30 = .ok (.aload_n 0, 1) := by decide +kernel
theorem dX2_readThing_31 : decode cX2_readThing 31 = .ok (.bipush 33, 2) := by decide +kernel
theorem dX2_readThing_33 : decode cX2_readThing 33 = .ok (.invokevirtual 41, 3) := by decide +kernel
theorem dX2_readThing_36 : decode cX2_readThing 36 = .ok (.ifCond .eq 10, 3) := by decide +kernel
theorem dX2_readThing_39 : decode cX2_readThing 39 = .ok (.aload_n 0, 1) := by decide +kernel
theorem dX2_readThing_40 : decode cX2_readThing 40 = .ok (.invokevirtual 58, 3) := by decide +kernel
theorem dX2_readThing_43 : decode cX2_readThing 43 = .ok (.ifCond .ne 5, 3) := by decide +kernel
theorem dX2_readThing_46 : decode cX2_readThing 46 = .ok (.iconst 0, 1) := by decide +kernel
theorem dX2_readThing_47 : decode cX2_readThing 47 = .ok (.ireturn, 1) := by decide +kernel
theorem dX2_readThing_48 : decode cX2_readThing 48 = .ok (.aload_n 0, 1) := by decide +kernel
theorem dX2_readThing_49 : decode cX2_readThing 49 = .ok (.bipush 63, 2) := by decide +kernel
theorem dX2_readThing_51 : decode cX2_readThing 51 = .ok (.invokevirtual 41, 3) := by decide +kernel
theorem dX2_readThing_54 : decode cX2_readThing 54 = .ok (.ifCond .eq 12, 3) := by decide +kernel
theorem dX2_readThing_57 : decode cX2_readThing 57 = .ok (.aload_n 0, 1) := by decide +kernel
theorem dX2_readThing_58 : decode cX2_readThing 58 = .ok (.bipush 7, 2) := by decide +kernel
theorem dX2_readThing_60 : decode cX2_readThing 60 = .ok (.invokevirtual 52, 3) := by decide +kernel
theorem dX2_readThing_63 : decode cX2_readThing 63 = .ok (.ifCond .eq 7, 3) := by decide +kernel
theorem dX2_readThing_66 : decode cX2_readThing 66 = .ok (.iconst 1, 1) := by decide +kernel
theorem dX2_readThing_67 : decode cX2_readThing 67 = .ok (.goto 4, 3) := by decide +kernel
theorem dX2_readThing_70 : decode cX2_readThing 70 = .ok (.iconst 0, 1) := by decide +kernel
theorem dX2_readThing_71 : decode cX2_readThing 71 = .ok (.ireturn, 1) := by decide +kernel
theorem dX2_readDigit_0 : decode cX2_readDigit 0 = .ok (.aload_n 0, 1) := by decide +kernel
theorem dX2_readDigit_1 : decode cX2_readDigit 1 = .ok (.iload_n 1, 1) := by decide +kernel
theorem dX2_readDigit_2 : decode cX2_readDigit 2 = .ok (.invokevirtual 61, 3) := by decide +kernel
theorem dX2_readDigit_5 : decode cX2_readDigit 5 = .ok (.istore_n 2, 1) := by decide +kernel
theorem dX2_readDigit_6 : decode cX2_readDigit 6 = .ok (.iload_n 2, 1) := by decide +kernel
theorem dX2_readDigit_7 : decode cX2_readDigit 7 = .ok (.ifCond .ge 5, 3) := by decide +kernel
theorem dX2_readDigit_10 : decode cX2_readDigit 10 = .ok (.iconst 0, 1) := by decide +kernel
theorem dX2_readDigit_11 : decode cX2_readDigit 11 = .ok (.ireturn, 1) := by decide +kernel
theorem dX2_readDigit_12 : decode cX2_readDigit 12 = .ok (.aload_n 0, 1) := by decide +kernel
theorem dX2_readDigit_13 : decode cX2_readDigit 13 = .ok (.iload_n 2, 1) := by decide +kernel
theorem dX2_readDigit_14 : decode cX2_readDigit 14 = .ok (.putfield 21, 3) := by decide +kernel
theorem dX2_readDigit_17 : decode cX2_readDigit 17 = .ok (.iconst 1, 1) := by decide +kernel
theorem dX2_readDigit_18 : decode cX2_readDigit 18 = .ok (.ireturn, 1) := by decide +kernel
theorem dX2_readLast_0 : decode cX2_readLast 0 = .ok (.aload_n 0, 1) := by decide +kernel
theorem dX2_readLast_1 : decode cX2_readLast 1 = .ok (.iload_n 1, 1) := by decide +kernel
theorem dX2_readLast_2 : decode cX2_readLast 2 = .ok (.invokevirtual 61, 3) := by decide +kernel
theorem dX2_readLast_5 : decode cX2_readLast 5 = .ok (.istore_n 2, 1) := by decide +kernel
theorem dX2_readLast_6 : decode cX2_readLast 6 = .ok (.iload_n 2, 1) := by decide +kernel
theorem dX2_readLast_7 : decode cX2_readLast 7 = .ok (.ifCond .ge 5, 3) := by decide +kernel
theorem dX2_readLast_10 : decode cX2_readLast 10 = .ok (.iconst 0, 1) := by decide +kernel
theorem dX2_readLast_11 : decode cX2_readLast 11 = .ok (.ireturn, 1) := by decide +kernel
theorem dX2_readLast_12 : decode cX2_readLast 12 = .ok (.aload_n 0, 1) := by decide +kernel
theorem dX2_readLast_13 : decode cX2_readLast 13 = .ok (.iload_n 2, 1) := by decide +kernel
theorem dX2_readLast_14 : decode cX2_readLast 14 = .ok (.putfield 30, 3) := by decide +kernel
theorem dX2_readLast_17 : decode cX2_readLast 17 = .ok (.iconst 1, 1) := by decide +kernel
theorem dX2_readLast_18 : decode cX2_readLast 18 = .ok (.ireturn, 1) := by decide +kernel
theorem dX2_readSet_0 : decode cX2_readSet 0 = .ok (.iconst 0, 1) := by decide +kernel
theorem dX2_readSet_1 : decode cX2_readSet 1 = .ok (.istore_n 2, 1) := by decide +kernel
theorem dX2_readSet_2 : decode cX2_readSet 2 = .ok (.iload_n 2, 1) := by decide +kernel
theorem dX2_readSet_3 : decode cX2_readSet 3 = .ok (.bipush 80, 2) := by decide +kernel
theorem dX2_readSet_5 : decode cX2_readSet 5 = .ok (.if_icmp .ge 34, 3) := by decide +kernel
theorem dX2_readSet_8 : decode cX2_readSet 8 = .ok (.aload_n 0, 1) := by decide +kernel
theorem dX2_readSet_9 : decode cX2_readSet 9 = .ok (.iload_n 1, 1) := by decide +kernel
theorem dX2_readSet_10 : decode cX2_readSet 10 = .ok (.invokevirtual 61, 3) := by decide +kernel
theorem dX2_readSet_13 : decode cX2_readSet 13 = .ok (.istore_n 3, 1) := by decide +kernel
theorem dX2_readSet_14 : decode cX2_readSet 14 = .ok (.iload_n 3, 1) := by decide +kernel
theorem dX2_readSet_15 : decode cX2_readSet 15 = .ok (.ifCond .ge 6, 3) := by decide +kernel
theorem dX2_readSet_18 : decode cX2_readSet 18 = .ok (.goto 21, 3) := by decide +kernel
theorem dX2_readSet_21 : decode cX2_readSet 21 = .ok (.aload_n 0, 1) := by decide +kernel
theorem dX2_readSet_22 : decode cX2_readSet 22 = .ok (.dup, 1) := by decide +kernel
theorem dX2_readSet_23 : decode cX2_readSet 23 = .ok (.getfield 24, 3) := by decide +kernel
theorem dX2_readSet_26 : decode cX2_readSet 26 = .ok (.iconst 1, 1) := by decide +kernel
theorem dX2_readSet_27 : decode cX2_readSet 27 = .ok (.iload_n 3, 1) := by decide +kernel
theorem dX2_readSet_28 : decode cX2_readSet 28 = .ok (.ishl, 1) := by decide +kernel
theorem dX2_readSet_29 : decode cX2_readSet 29 = .ok (.ior, 1) := by decide +kernel
theorem dX2_readSet_30 : decode cX2_readSet 30 = .ok (.putfield 24, 3) := by decide +kernel
theorem dX2_readSet_33 : decode cX2_readSet 33 = .ok (.iinc 2 1, 3) := by decide +kernel
theorem dX2_readSet_36 : decode cX2_readSet 36 = .ok (.goto (-34), 3) := by decide +kernel
theorem dX2_readSet_39 : decode cX2_readSet 39 = .ok (.aload_n 0, 1) := by decide +kernel
theorem dX2_readSet_40 : decode cX2_readSet 40 = .ok (.getfield 24, 3) := by decide +kernel
theorem dX2_readSet_43 : decode cX2_readSet 43 = .ok (.ifCond .eq 7, 3) := by decide +kernel
theorem dX2_readSet_46 : decode cX2_readSet 46 = .ok (.iconst 1, 1) := by decide +kernel
theorem dX2_readSet_47 : decode cX2_readSet 47 = .ok (.goto 4, 3) := by decide +kernel
theorem dX2_readSet_50 : decode cX2_readSet 50 = .ok (.iconst 0, 1) := by decide +kernel
theorem dX2_readSet_51 : decode cX2_readSet 51 = .ok (.ireturn, 1) := by decide +kernel
theorem dX2_readNumber_0 : decode cX2_readNumber 0 = .ok (.aload_n 0, 1) := by decide +kernel
theorem dX2_readNumber_1 : decode cX2_readNumber 1 = .ok (.bipush 9, 2) := by decide +kernel
theorem dX2_readNumber_3 : decode cX2_readNumber 3 = .ok (.invokevirtual 61, 3) := by decide +kernel
theorem dX2_readNumber_6 : decode cX2_readNumber 6 = .ok (.istore_n 1, 1) := by decide +kernel
theorem dX2_readNumber_7 : decode cX2_readNumber 7 = .ok (.iload_n 1, 1) := by decide +kernel
theorem dX2_readNumber_8 : decode cX2_readNumber 8 = .ok (.ifCond .ge 5, 3) := by decide +kernel
theorem dX2_readNumber_11 : decode cX2_readNumber 11 = .ok (.iconst 0, 1) := by decide +kernel
theorem dX2_readNumber_12 : decode cX2_readNumber 12 = .ok (.ireturn, 1) := by decide +kernel
theorem dX2_readNumber_13 : decode cX2_readNumber 13 = .ok (.iload_n 1, 1) := by decide +kernel
theorem dX2_readNumber_14 : decode cX2_readNumber 14 = .ok (.ifCond .ne 7, 3) := by decide +kernel
theorem dX2_readNumber_17 : decode cX2_readNumber 17 = .ok (.iconst (-1), 1) := by decide +kernel
theorem dX2_readNumber_18 : decode cX2_readNumber 18 = .ok (.goto 9, 3) := by decide +kernel
theorem dX2_readNumber_21 : decode cX2_readNumber 21 = .ok (.aload_n 0, 1) := by decide +kernel
theorem dX2_readNumber_22 : decode cX2_readNumber 22 = .ok (.bipush 9, 2) := by decide +kernel
theorem dX2_readNumber_24 : decode cX2_readNumber 24 = .ok (.invokevirtual 61, 3) := by decide +kernel
theorem dX2_readNumber_27 : decode cX2_readNumber 27 = .ok (.istore_n 2, 1) := by decide +kernel
theorem dX2_readNumber_28 : decode cX2_readNumber 28 = .ok (.aload_n 0, 1) := by decide +kernel
theorem dX2_readNumber_29 : decode cX2_readNumber 29 = .ok (.iload_n 2, 1) := by decide +kernel
theorem dX2_readNumber_30 : decode cX2_readNumber 30 = .ok (.ifCond .ge 7, 3) := by decide +kernel
theorem dX2_readNumber_33 : decode cX2_readNumber 33 = .ok (.iload_n 1, 1) := by decide +kernel
theorem dX2_readNumber_34 : decode cX2_readNumber 34 = .ok (.goto 9, 3) := by decide +kernel
theorem dX2_readNumber_37 : decode cX2_readNumber 37 = .ok (.bipush 10, 2) := by decide +kernel
theorem dX2_readNumber_39 : decode cX2_readNumber 39 = .ok (.iload_n 1, 1) := by decide +kernel
theorem dX2_readNumber_40 : decode cX2_readNumber 40 = .ok (.imul, 1) := by decide +kernel
theorem dX2_readNumber_41 : decode cX2_readNumber 41 = .ok (.iload_n 2, 1) := by decide +kernel
theorem dX2_readNumber_42 : decode cX2_readNumber 42 = .ok (.iadd, 1) := by decide +kernel
theorem dX2_readNumber_43 : decode cX2_readNumber 43 = .ok (.putfield 27, 3) := by decide +kernel
theorem dX2_readNumber_46 : decode cX2_readNumber 46 = .ok (.iconst 1, 1) := by decide +kernel
theorem dX2_readNumber_47 : decode cX2_readNumber 47 = .ok (.ireturn, 1) := by decide +kernel
theorem dX2_digitAtMost_0 : decode cX2_digitAtMost 0 = .ok (.aload_n 0, 1) := by decide +kernel
theorem dX2_digitAtMost_1 : decode cX2_digitAtMost 1 = .ok (.invokevirtual 37, 3) := by decide +kernel
theorem dX2_digitAtMost_4 : decode cX2_digitAtMost 4 = .ok (.bipush 48, 2) := by decide +kernel
theorem dX2_digitAtMost_6 : decode cX2_digitAtMost 6 = .ok (.isub, 1) := by decide +kernel
theorem dX2_digitAtMost_7 : decode cX2_digitAtMost 7 = .ok (.istore_n 2, 1) := by decide +kernel
theorem dX2_digitAtMost_8 : decode cX2_digitAtMost 8 = .ok (.iload_n 2, 1) := by decide +kernel
theorem dX2_digitAtMost_9 : decode cX2_digitAtMost 9 = .ok (.ifCond .lt 8, 3) := by decide +kernel
theorem dX2_digitAtMost_12 : decode cX2_digitAtMost 12 = .ok (.iload_n 2, 1) := by decide +kernel
theorem dX2_digitAtMost_13 : decode cX2_digitAtMost 13 = .ok (.iload_n 1, 1) := by decide +kernel
theorem dX2_digitAtMost_14 : decode cX2_digitAtMost 14 = .ok (.if_icmp .le 5, 3) := by decide +kernel
theorem dX2_digitAtMost_17 : decode cX2_digitAtMost 17 = .ok (.iconst (-1), 1) := by decide +kernel
theorem dX2_digitAtMost_18 : decode cX2_digitAtMost 18 = .ok (.ireturn, 1) := by decide +kernel
theorem dX2_digitAtMost_19 : decode cX2_digitAtMost 19 = .ok (.aload_n 0, 1) := by decide +kernel
theorem dX2_digitAtMost_20 : decode cX2_digitAtMost 20 = .ok (.dup, 1) := by decide +kernel
theorem dX2_digitAtMost_21 : decode cX2_digitAtMost 21 = .ok (.getfield 15, 3) := by decide +kernel
theorem dX2_digitAtMost_24 : decode cX2_digitAtMost 24 = .ok (.iconst 1, 1) := by decide +kernel
theorem dX2_digitAtMost_25 : decode cX2_digitAtMost 25 = .ok (.iadd, 1) := by decide +kernel
theorem dX2_digitAtMost_26 : decode cX2_digitAtMost 26 = .ok (.putfield 15, 3) := by decide +kernel
theorem dX2_digitAtMost_29 : decode cX2_digitAtMost 29 = .ok (.iload_n 2, 1) := by decide +kernel
theorem dX2_digitAtMost_30 : decode cX2_digitAtMost 30 = .ok (.ireturn, 1) := by decide +kernel
theorem dX3_init_0 : decode cX3_init 0 = .ok (.aload_n 0, 1) := by decide +kernel
theorem dX3_init_1 : decode cX3_init 1 = .ok (.invokespecial 3, 3) := by decide +kernel
theorem dX3_init_4 : decode cX3_init 4 = .ok (.aload_n 0, 1) := by decide +kernel
theorem dX3_init_5 : decode cX3_init 5 = .ok (.iconst 1, 1) := by decide +kernel
theorem dX3_init_6 : decode cX3_init 6 = .ok (.putfield 9, 3) := by decide +kernel
theorem dX3_init_9 : decode cX3_init 9 = .ok (.aload_n 0, 1) := by decide +kernel
theorem dX3_init_10 : decode cX3_init 10 = .ok (.iconst 0, 1) := by decide +kernel
theorem dX3_init_11 : decode cX3_init 11 = .ok (.putfield 15, 3) := by decide +kernel
theorem dX3_init_14 : decode cX3_init 14 = .ok (.aload_n 0, 1) := by decide +kernel
theorem dX3_init_15 : decode cX3_init 15 = .ok (.iconst 0, 1) := by decide +kernel
theorem dX3_init_16 : decode cX3_init 16 = .ok (.putfield 18, 3) := by decide +kernel
theorem dX3_init_19 : decode cX3_init 19 = .ok (.return_, 1) := by decide +kernel
theorem dX3_copyFrom_0 : decode cX3_copyFrom 0 = .ok (.aload_n 1, 1) := by decide +kernel
theorem dX3_copyFrom_1 : decode cX3_copyFrom 1 = .ok (.ifnonnull 4, 3) := by decide +kernel
theorem dX3_copyFrom_4 : decode cX3_copyFrom 4 = .ok (.return_, 1) := by decide +kernel
theorem dX3_copyFrom_5 : decode cX3_copyFrom 5 = .ok (.aload_n 0, 1) := by decide +kernel
theorem dX3_copyFrom_6 : decode cX3_copyFrom 6 = .ok (.aload_n 1, 1) := by decide +kernel
theorem dX3_copyFrom_7 : decode cX3_copyFrom 7 = .ok (.getfield 9, 3) := by decide +kernel
theorem dX3_copyFrom_10 : decode cX3_copyFrom 10 = .ok (.putfield 9, 3) := by decide +kernel
theorem dX3_copyFrom_13 : decode cX3_copyFrom 13 = .ok (.aload_n 0, 1) := by decide +kernel
theorem dX3_copyFrom_14 : decode cX3_copyFrom 14 = .ok (.aload_n 1, 1) := by decide +kernel
theorem dX3_copyFrom_15 : decode cX3_copyFrom 15 = .ok (.getfield 15, 3) := by decide +kernel
theorem dX3_copyFrom_18 : decode cX3_copyFrom 18 = .ok (.putfield 15, 3) := by decide +kernel
theorem dX3_copyFrom_21 : decode cX3_copyFrom 21 = .ok (.aload_n 0, 1) := by decide +kernel
theorem dX3_copyFrom_22 : decode cX3_copyFrom 22 = .ok (.aload_n 1, 1) := by decide +kernel
theorem dX3_copyFrom_23 : decode cX3_copyFrom 23 = .ok (.getfield 18, 3) := by decide +kernel
theorem dX3_copyFrom_26 : decode cX3_copyFrom 26 = .ok (.putfield 18, 3) := by decide +kernel
theorem dX3_copyFrom_29 : decode cX3_copyFrom 29 = .ok (.return_, 1) := by decide +kernel
theorem dX3_takeIn_0 : decode cX3_takeIn 0 = .ok (.aload_n 0, 1) := by decide +kernel
theorem dX3_takeIn_1 : decode cX3_takeIn 1 = .ok (.dup, 1) := by decide +kernel
theorem dX3_takeIn_2 : decode cX3_takeIn 2 = .ok (.getfield 18, 3) := by decide +kernel
theorem dX3_takeIn_5 : decode cX3_takeIn 5 = .ok (.iconst 1, 1) := by decide +kernel
theorem dX3_takeIn_6 : decode cX3_takeIn 6 = .ok (.iadd, 1) := by decide +kernel
theorem dX3_takeIn_7 : decode cX3_takeIn 7 = .ok (.putfield 18, 3) := by decide +kernel
theorem dX3_takeIn_10 : decode cX3_takeIn 10 = .ok (.aload_n 0, 1) := by decide +kernel
theorem dX3_takeIn_11 : decode cX3_takeIn 11 = .ok (.getfield 9, 3) := by decide +kernel
theorem dX3_takeIn_14 : decode cX3_takeIn 14 = .ok (.bipush 99, 2) := by decide +kernel
theorem dX3_takeIn_16 : decode cX3_takeIn 16 = .ok (.if_icmp .lt 5, 3) := by decide +kernel
theorem dX3_takeIn_19 : decode cX3_takeIn 19 = .ok (.iconst 0, 1) := by decide +kernel
theorem dX3_takeIn_20 : decode cX3_takeIn 20 = .ok (.ireturn, 1) := by decide +kernel
theorem dX3_takeIn_21 : decode cX3_takeIn 21 = .ok (.aload_n 0, 1) := by decide +kernel
theorem dX3_takeIn_22 : decode cX3_takeIn 22 = .ok (.dup, 1) := by decide +kernel
theorem dX3_takeIn_23 : decode cX3_takeIn 23 = .ok (.getfield 9, 3) := by decide +kernel
theorem dX3_takeIn_26 : decode cX3_takeIn 26 = .ok (.iconst 1, 1) := by decide +kernel
theorem dX3_takeIn_27 : decode cX3_takeIn 27 = .ok (.iadd, 1) := by decide +kernel
theorem dX3_takeIn_28 : decode cX3_takeIn 28 = .ok (.putfield 9, 3) := by decide +kernel
theorem dX3_takeIn_31 : decode cX3_takeIn 31 = .ok (.iconst 1, 1) := by decide +kernel
theorem dX3_takeIn_32 : decode cX3_takeIn 32 = .ok (.ireturn, 1) := by decide +kernel
theorem dX3_handOut_0 : decode cX3_handOut 0 = .ok (.aload_n 0, 1) := by decide +kernel
theorem dX3_handOut_1 : decode cX3_handOut 1 = .ok (.getfield 9, 3) := by decide +kernel
theorem dX3_handOut_4 : decode cX3_handOut 4 = .ok (.ifCond .gt 5, 3) := by decide +kernel
theorem dX3_handOut_7 : decode cX3_handOut 7 = .ok (.iconst 0, 1) := by decide +kernel
theorem dX3_handOut_8 : decode cX3_handOut 8 = .ok (.ireturn, 1) := by decide +kernel
theorem dX3_handOut_9 : decode cX3_handOut 9 = .ok (.aload_n 0, 1) := by decide +kernel
theorem dX3_handOut_10 : decode cX3_handOut 10 = .ok (.dup, 1) := by decide +kernel
theorem dX3_handOut_11 : decode cX3_handOut 11 = .ok (.getfield 9, 3) := by decide +kernel
theorem dX3_handOut_14 : decode cX3_handOut 14 = .ok (.iconst 1, 1) := by decide +kernel
theorem dX3_handOut_15 : decode cX3_handOut 15 = .ok (.isub, 1) := by decide +kernel
theorem dX3_handOut_16 : decode cX3_handOut 16 = .ok (.putfield 9, 3) := by decide +kernel
theorem dX3_handOut_19 : decode cX3_handOut 19 = .ok (.aload_n 0, 1) := by decide +kernel
theorem dX3_handOut_20 : decode cX3_handOut 20 = .ok (.dup, 1) := by decide +kernel
theorem dX3_handOut_21 : decode cX3_handOut 21 = .ok (.getfield 15, 3) := by decide +kernel
theorem dX3_handOut_24 : decode cX3_handOut 24 = .ok (.iconst 1, 1) := by decide +kernel
theorem dX3_handOut_25 : decode cX3_handOut 25 = .ok (.iadd, 1) := by decide +kernel
theorem dX3_handOut_26 : decode cX3_handOut 26 = .ok (.putfield 15, 3) := by decide +kernel
theorem dX3_handOut_29 : decode cX3_handOut 29 = .ok (.iconst 1, 1) := by decide +kernel
theorem dX3_handOut_30 : decode cX3_handOut 30 = .ok (.ireturn, 1) := by decide +kernel
theorem dX4_init_0 : decode cX4_init 0 = .ok (.aload_n 0, 1) := by decide +kernel
theorem dX4_init_1 : decode cX4_init 1 = .ok (.invokespecial 3, 3) := by decide +kernel
theorem dX4_init_4 : decode cX4_init 4 = .ok (.aload_n 0, 1) := by decide +kernel
theorem dX4_init_5 : decode cX4_init 5 = .ok (.iconst 0, 1) := by decide +kernel
theorem dX4_init_6 : decode cX4_init 6 = .ok (.putfield 9, 3) := by decide +kernel
theorem dX4_init_9 : decode cX4_init 9 = .ok (.aload_n 0, 1) := by decide +kernel
theorem dX4_init_10 : decode cX4_init 10 = .ok (.iconst 0, 1) := by decide +kernel
theorem dX4_init_11 : decode cX4_init 11 = .ok (.putfield 15, 3) := by decide +kernel
theorem dX4_init_14 : decode cX4_init 14 = .ok (.aload_n 0, 1) := by decide +kernel
theorem dX4_init_15 : decode cX4_init 15 = .ok (.bipush 7, 2) := by decide +kernel
theorem dX4_init_17 : decode cX4_init 17 = .ok (.anewarray 18, 3) := by decide +kernel
theorem dX4_init_20 : decode cX4_init 20 = .ok (.putfield 20, 3) := by decide +kernel
theorem dX4_init_23 : decode cX4_init 23 = .ok (.iconst 0, 1) := by decide +kernel
theorem dX4_init_24 : decode cX4_init 24 = .ok (.istore_n 1, 1) := by decide +kernel
theorem dX4_init_25 : decode cX4_init 25 = .ok (.iload_n 1, 1) := by decide +kernel
theorem dX4_init_26 : decode cX4_init 26 = .ok (.aload_n 0, 1) := by decide +kernel
theorem dX4_init_27 : decode cX4_init 27 = .ok (.getfield 20, 3) := by decide +kernel
theorem dX4_init_30 : decode cX4_init 30 = .ok (.arraylength, 1) := by decide +kernel
theorem dX4_init_31 : decode cX4_init 31 = .ok (.if_icmp .ge 22, 3) := by decide +kernel
theorem dX4_init_34 : decode cX4_init 34 = .ok (.aload_n 0, 1) := by decide +kernel
theorem dX4_init_35 : decode cX4_init 35 = .ok (.getfield 20, 3) := by decide +kernel
theorem dX4_init_38 : decode cX4_init 38 = .ok (.iload_n 1, 1) := by decide +kernel
theorem dX4_init_39 : decode cX4_init 39 = .ok (.new 18, 3) := by decide +kernel
theorem dX4_init_42 : decode cX4_init 42 = .ok (.dup, 1) := by decide +kernel
theorem dX4_init_43 : decode cX4_init 43 = .ok (.invokespecial 24, 3) := by decide +kernel
theorem dX4_init_46 : decode cX4_init 46 = .ok (.aastore, 1) := by decide +kernel
theorem dX4_init_47 : decode cX4_init 47 = .ok (.iinc 1 1, 3) := by decide +kernel
theorem dX4_init_50 : decode cX4_init 50 = .ok (.goto (-25), 3) := by decide +kernel
theorem dX4_init_53 : decode cX4_init 53 = .ok (.return_, 1) := by decide +kernel
theorem dX4_note_0 : decode cX4_note 0 = .ok (.aload_n 0, 1) := by decide +kernel
theorem dX4_note_1 : decode cX4_note 1 = .ok (.invokevirtual 25, 3) := by decide +kernel
theorem dX4_note_4 : decode cX4_note 4 = .ok (.astore_n 2, 1) := by decide +kernel
theorem dX4_note_5 : decode cX4_note 5 = .ok (.aload_n 2, 1) := by decide +kernel
theorem dX4_note_6 : decode cX4_note 6 = .ok (.ifnull 8, 3) := by decide +kernel
theorem dX4_note_9 : decode cX4_note 9 = .ok (.aload_n 2, 1) := by decide +kernel
theorem dX4_note_10 : decode cX4_note 10 = .ok (.aload_n 1, 1) := by decide +kernel
theorem dX4_note_11 : decode cX4_note 11 = .ok (.invokevirtual 29, 3) := by decide +kernel
theorem dX4_note_14 : decode cX4_note 14 = .ok (.return_, 1) := by decide +kernel
theorem dX4_keep_0 : decode cX4_keep 0 = .ok (.aload_n 0, 1) := by decide +kernel
theorem dX4_keep_1 : decode cX4_keep 1 = .ok (.aload_n 0, 1) := by decide +kernel
theorem dX4_keep_2 : decode cX4_keep 2 = .ok (.getfield 15, 3) := by decide +kernel
theorem dX4_keep_5 : decode cX4_keep 5 = .ok (.iconst 1, 1) := by decide +kernel
theorem dX4_keep_6 : decode cX4_keep 6 = .ok (.iadd, 1) := by decide +kernel
theorem dX4_keep_7 : decode cX4_keep 7 = .ok (.bipush 7, 2) := by decide +kernel
theorem dX4_keep_9 : decode cX4_keep 9 = .ok (.irem, 1) := by decide +kernel
theorem dX4_keep_10 : decode cX4_keep 10 = .ok (.putfield 15, 3) := by decide +kernel
theorem dX4_keep_13 : decode cX4_keep 13 = .ok (.aload_n 0, 1) := by decide +kernel
theorem dX4_keep_14 : decode cX4_keep 14 = .ok (.aload_n 0, 1) := by decide +kernel
theorem dX4_keep_15 : decode cX4_keep 15 = .ok (.getfield 9, 3) := by decide +kernel
theorem dX4_keep_18 : decode cX4_keep 18 = .ok (.iconst 1, 1) := by decide +kernel
theorem dX4_keep_19 : decode cX4_keep 19 = .ok (.iadd, 1) := by decide +kernel
theorem dX4_keep_20 : decode cX4_keep 20 = .ok (.bipush 6, 2) := by decide +kernel
theorem dX4_keep_22 : decode cX4_keep 22 = .ok (.invokestatic 33, 3) := by decide +kernel
theorem dX4_keep_25 : decode cX4_keep 25 = .ok (.putfield 9, 3) := by decide +kernel
theorem dX4_keep_28 : decode cX4_keep 28 = .ok (.return_, 1) := by decide +kernel
theorem dX4_takeBack_0 : decode cX4_takeBack 0 = .ok (.aload_n 0, 1) := by decide +kernel
theorem dX4_takeBack_1 : decode cX4_takeBack 1 = .ok (.aload_n 0, 1) := by decide +kernel
theorem dX4_takeBack_2 : decode cX4_takeBack 2 = .ok (.getfield 15, 3) := by decide +kernel
theorem dX4_takeBack_5 : decode cX4_takeBack 5 = .ok (.bipush 6, 2) := by decide +kernel
theorem dX4_takeBack_7 : decode cX4_takeBack 7 = .ok (.iadd, 1) := by decide +kernel
theorem dX4_takeBack_8 : decode cX4_takeBack 8 = .ok (.bipush 7, 2) := by decide +kernel
theorem dX4_takeBack_10 : decode cX4_takeBack 10 = .ok (.irem, 1) := by decide +kernel
theorem dX4_takeBack_11 : decode cX4_takeBack 11 = .ok (.putfield 15, 3) := by decide +kernel
theorem dX4_takeBack_14 : decode cX4_takeBack 14 = .ok (.aload_n 0, 1) := by decide +kernel
theorem dX4_takeBack_15 : decode cX4_takeBack 15 = .ok (.dup, 1) := by decide +kernel
theorem dX4_takeBack_16 : decode cX4_takeBack 16 = .ok (.getfield 9, 3) := by decide +kernel
theorem dX4_takeBack_19 : decode cX4_takeBack 19 = .ok (.iconst 1, 1) := by decide +kernel
theorem dX4_takeBack_20 : decode cX4_takeBack 20 = .ok (.isub, 1) := by decide +kernel
theorem dX4_takeBack_21 : decode cX4_takeBack 21 = .ok (.putfield 9, 3) := by decide +kernel
theorem dX4_takeBack_24 : decode cX4_takeBack 24 = .ok (.aload_n 0, 1) := by decide +kernel
theorem dX4_takeBack_25 : decode cX4_takeBack 25 = .ok (.invokevirtual 25, 3) := by decide +kernel
theorem dX4_takeBack_28 : decode cX4_takeBack 28 = .ok (.astore_n 2, 1) := by decide +kernel
theorem dX4_takeBack_29 : decode cX4_takeBack 29 = .ok (.aload_n 2, 1) := by decide +kernel
theorem dX4_takeBack_30 : decode cX4_takeBack 30 = .ok (.ifnull 8, 3) := by decide +kernel
theorem dX4_takeBack_33 : decode cX4_takeBack 33 = .ok (.aload_n 1, 1) := by decide +kernel
theorem dX4_takeBack_34 : decode cX4_takeBack 34 = .ok (.aload_n 2, 1) := by decide +kernel
theorem dX4_takeBack_35 : decode cX4_takeBack 35 = .ok (.invokevirtual 29, 3) := by decide +kernel
theorem dX4_takeBack_38 : decode cX4_takeBack 38 = .ok (.return_, 1) := by decide +kernel
theorem dX4_nextPlace_0 : decode cX4_nextPlace 0 = .ok (.aload_n 0, 1) := by decide +kernel
theorem dX4_nextPlace_1 : decode cX4_nextPlace 1 = .ok (.getfield 15, 3) := by decide +kernel
theorem dX4_nextPlace_4 : decode cX4_nextPlace 4 = .ok (.ifCond .lt 27, 3) := by decide +kernel
theorem dX4_nextPlace_7 : decode cX4_nextPlace 7 = .ok (.aload_n 0, 1) := by decide +kernel
theorem dX4_nextPlace_8 : decode cX4_nextPlace 8 = .ok (.getfield 15, 3) := by decide +kernel
theorem dX4_nextPlace_11 : decode cX4_nextPlace 11 = .ok (.aload_n 0, 1) := by decide +kernel
theorem dX4_nextPlace_12 : decode cX4_nextPlace 12 = .ok (.getfield 20, 3) := by decide +kernel
theorem dX4_nextPlace_15 : decode cX4_nextPlace 15 = .ok (.arraylength, 1) := by decide +kernel
theorem dX4_nextPlace_16 : decode cX4_nextPlace 16 = .ok (.if_icmp .ge 15, 3) := by decide +kernel
theorem dX4_nextPlace_19 : decode cX4_nextPlace 19 = .ok (.aload_n 0, 1) := by decide +kernel
theorem dX4_nextPlace_20 : decode cX4_nextPlace 20 = .ok (.getfield 20, 3) := by decide +kernel
theorem dX4_nextPlace_23 : decode cX4_nextPlace 23 = .ok (.aload_n 0, 1) := by decide +kernel
theorem dX4_nextPlace_24 : decode cX4_nextPlace 24 = .ok (.getfield 15, 3) := by decide +kernel
theorem dX4_nextPlace_27 : decode cX4_nextPlace 27 = .ok (.aaload, 1) := by decide +kernel
theorem dX4_nextPlace_28 : decode cX4_nextPlace 28 = .ok (.goto 4, 3) := by decide +kernel
theorem dX4_nextPlace_31 : decode cX4_nextPlace 31 = .ok (.aconst_null, 1) := by decide +kernel
theorem dX4_nextPlace_32 : decode cX4_nextPlace 32 = .ok (.areturn, 1) := by decide +kernel
theorem dX5_init_0 : decode cX5_init 0 = .ok (.aload_n 0, 1) := by decide +kernel
theorem dX5_init_1 : decode cX5_init 1 = .ok (.invokespecial 3, 3) := by decide +kernel
theorem dX5_init_4 : decode cX5_init 4 = .ok (.aload_n 0, 1) := by decide +kernel
theorem dX5_init_5 : decode cX5_init 5 = .ok (.iconst 0, 1) := by decide +kernel
theorem dX5_init_6 : decode cX5_init 6 = .ok (.putfield 9, 3) := by decide +kernel
theorem dX5_init_9 : decode cX5_init 9 = .ok (.aload_n 0, 1) := by decide +kernel
theorem dX5_init_10 : decode cX5_init 10 = .ok (.iconst 0, 1) := by decide +kernel
theorem dX5_init_11 : decode cX5_init 11 = .ok (.putfield 15, 3) := by decide +kernel
theorem dX5_init_14 : decode cX5_init 14 = .ok (.aload_n 0, 1) := by decide +kernel
theorem dX5_init_15 : decode cX5_init 15 = .ok (.iconst 0, 1) := by decide +kernel
theorem dX5_init_16 : decode cX5_init 16 = .ok (.putfield 18, 3) := by decide +kernel
theorem dX5_init_19 : decode cX5_init 19 = .ok (.aload_n 0, 1) := by decide +kernel
theorem dX5_init_20 : decode cX5_init 20 = .ok (.iconst 0, 1) := by decide +kernel
theorem dX5_init_21 : decode cX5_init 21 = .ok (.putfield 21, 3) := by decide +kernel
theorem dX5_init_24 : decode cX5_init 24 = .ok (.aload_n 0, 1) := by decide +kernel
theorem dX5_init_25 : decode cX5_init 25 = .ok (.iconst 0, 1) := by decide +kernel
theorem dX5_init_26 : decode cX5_init 26 = .ok (.putfield 24, 3) := by decide +kernel
theorem dX5_init_29 : decode cX5_init 29 = .ok (.aload_n 0, 1) := by decide +kernel
theorem dX5_init_30 : decode cX5_init 30 = .ok (.bipush (-6), 2) := by decide +kernel
theorem dX5_init_32 : decode cX5_init 32 = .ok (.putfield 27, 3) := by decide +kernel
theorem dX5_init_35 : decode cX5_init 35 = .ok (.aload_n 0, 1) := by decide +kernel
theorem dX5_init_36 : decode cX5_init 36 = .ok (.iconst 0, 1) := by decide +kernel
theorem dX5_init_37 : decode cX5_init 37 = .ok (.putfield 30, 3) := by decide +kernel
theorem dX5_init_40 : decode cX5_init 40 = .ok (.aload_n 0, 1) := by decide +kernel
theorem dX5_init_41 : decode cX5_init 41 = .ok (.iconst 0, 1) := by decide +kernel
theorem dX5_init_42 : decode cX5_init 42 = .ok (.putfield 33, 3) := by decide +kernel
theorem dX5_init_45 : decode cX5_init 45 = .ok (.return_, 1) := by decide +kernel
theorem dX5_come_0 : decode cX5_come 0 = .ok (.aload_n 0, 1) := by decide +kernel
theorem dX5_come_1 : decode cX5_come 1 = .ok (.iload_n 1, 1) := by decide +kernel
theorem dX5_come_2 : decode cX5_come 2 = .ok (.putfield 9, 3) := by decide +kernel
theorem dX5_come_5 : decode cX5_come 5 = .ok (.aload_n 0, 1) := by decide +kernel
theorem dX5_come_6 : decode cX5_come 6 = .ok (.iload_n 2, 1) := by decide +kernel
theorem dX5_come_7 : decode cX5_come 7 = .ok (.putfield 15, 3) := by decide +kernel
theorem dX5_come_10 : decode cX5_come 10 = .ok (.aload_n 0, 1) := by decide +kernel
theorem dX5_come_11 : decode cX5_come 11 = .ok (.iload_n 3, 1) := by decide +kernel
theorem dX5_come_12 : decode cX5_come 12 = .ok (.putfield 18, 3) := by decide +kernel
theorem dX5_come_15 : decode cX5_come 15 = .ok (.aload_n 0, 1) := by decide +kernel
theorem dX5_come_16 : decode cX5_come 16 = .ok (.iload 4, 2) := by decide +kernel
theorem dX5_come_18 : decode cX5_come 18 = .ok (.putfield 21, 3) := by decide +kernel
theorem dX5_come_21 : decode cX5_come 21 = .ok (.aload_n 0, 1) := by decide +kernel
theorem dX5_come_22 : decode cX5_come 22 = .ok (.iconst 0, 1) := by decide +kernel
theorem dX5_come_23 : decode cX5_come 23 = .ok (.putfield 24, 3) := by decide +kernel
theorem dX5_come_26 : decode cX5_come 26 = .ok (.aload_n 0, 1) := by decide +kernel
theorem dX5_come_27 : decode cX5_come 27 = .ok (.bipush (-6), 2) := by decide +kernel
theorem dX5_come_29 : decode cX5_come 29 = .ok (.putfield 27, 3) := by decide +kernel
theorem dX5_come_32 : decode cX5_come 32 = .ok (.aload_n 0, 1) := by decide +kernel
theorem dX5_come_33 : decode cX5_come 33 = .ok (.iconst 0, 1) := by decide +kernel
theorem dX5_come_34 : decode cX5_come 34 = .ok (.putfield 30, 3) := by decide +kernel
theorem dX5_come_37 : decode cX5_come 37 = .ok (.aload_n 0, 1) := by decide +kernel
theorem dX5_come_38 : decode cX5_come 38 = .ok (.iconst 0, 1) := by decide +kernel
theorem dX5_come_39 : decode cX5_come 39 = .ok (.putfield 33, 3) := by decide +kernel
theorem dX5_come_42 : decode cX5_come 42 = .ok (.return_, 1) := by decide +kernel
theorem dX5_copyFrom_0 : decode cX5_copyFrom 0 = .ok (.aload_n 1, 1) := by decide +kernel
theorem dX5_copyFrom_1 : decode cX5_copyFrom 1 = .ok (.ifnonnull 4, 3) := by decide +kernel
theorem dX5_copyFrom_4 : decode cX5_copyFrom 4 = .ok (.return_, 1) := by decide +kernel
theorem dX5_copyFrom_5 : decode cX5_copyFrom 5 = .ok (.aload_n 0, 1) := by decide +kernel
theorem dX5_copyFrom_6 : decode cX5_copyFrom 6 = .ok (.aload_n 1, 1) := by decide +kernel
theorem dX5_copyFrom_7 : decode cX5_copyFrom 7 = .ok (.getfield 9, 3) := by decide +kernel
theorem dX5_copyFrom_10 : decode cX5_copyFrom 10 = .ok (.putfield 9, 3) := by decide +kernel
theorem dX5_copyFrom_13 : decode cX5_copyFrom 13 = .ok (.aload_n 0, 1) := by decide +kernel
theorem dX5_copyFrom_14 : decode cX5_copyFrom 14 = .ok (.aload_n 1, 1) := by decide +kernel
theorem dX5_copyFrom_15 : decode cX5_copyFrom 15 = .ok (.getfield 15, 3) := by decide +kernel
theorem dX5_copyFrom_18 : decode cX5_copyFrom 18 = .ok (.putfield 15, 3) := by decide +kernel
theorem dX5_copyFrom_21 : decode cX5_copyFrom 21 = .ok (.aload_n 0, 1) := by decide +kernel
theorem dX5_copyFrom_22 : decode cX5_copyFrom 22 = .ok (.aload_n 1, 1) := by decide +kernel
theorem dX5_copyFrom_23 : decode cX5_copyFrom 23 = .ok (.getfield 18, 3) := by decide +kernel
theorem dX5_copyFrom_26 : decode cX5_copyFrom 26 = .ok (.putfield 18, 3) := by decide +kernel
theorem dX5_copyFrom_29 : decode cX5_copyFrom 29 = .ok (.aload_n 0, 1) := by decide +kernel
theorem dX5_copyFrom_30 : decode cX5_copyFrom 30 = .ok (.aload_n 1, 1) := by decide +kernel
theorem dX5_copyFrom_31 : decode cX5_copyFrom 31 = .ok (.getfield 21, 3) := by decide +kernel
theorem dX5_copyFrom_34 : decode cX5_copyFrom 34 = .ok (.putfield 21, 3) := by decide +kernel
theorem dX5_copyFrom_37 : decode cX5_copyFrom 37 = .ok (.aload_n 0, 1) := by decide +kernel
theorem dX5_copyFrom_38 : decode cX5_copyFrom 38 = .ok (.aload_n 1, 1) := by decide +kernel
theorem dX5_copyFrom_39 : decode cX5_copyFrom 39 = .ok (.getfield 24, 3) := by decide +kernel
theorem dX5_copyFrom_42 : decode cX5_copyFrom 42 = .ok (.putfield 24, 3) := by decide +kernel
theorem dX5_copyFrom_45 : decode cX5_copyFrom 45 = .ok (.aload_n 0, 1) := by decide +kernel
theorem dX5_copyFrom_46 : decode cX5_copyFrom 46 = .ok (.aload_n 1, 1) := by decide +kernel
theorem dX5_copyFrom_47 : decode cX5_copyFrom 47 = .ok (.getfield 27, 3) := by decide +kernel
theorem dX5_copyFrom_50 : decode cX5_copyFrom 50 = .ok (.putfield 27, 3) := by decide +kernel
theorem dX5_copyFrom_53 : decode cX5_copyFrom 53 = .ok (.aload_n 0, 1) := by decide +kernel
theorem dX5_copyFrom_54 : decode cX5_copyFrom 54 = .ok (.aload_n 1, 1) := by decide +kernel
theorem dX5_copyFrom_55 : decode cX5_copyFrom 55 = .ok (.getfield 30, 3) := by decide +kernel
theorem dX5_copyFrom_58 : decode cX5_copyFrom 58 = .ok (.putfield 30, 3) := by decide +kernel
theorem dX5_copyFrom_61 : decode cX5_copyFrom 61 = .ok (.aload_n 0, 1) := by decide +kernel
theorem dX5_copyFrom_62 : decode cX5_copyFrom 62 = .ok (.aload_n 1, 1) := by decide +kernel
theorem dX5_copyFrom_63 : decode cX5_copyFrom 63 = .ok (.getfield 33, 3) := by decide +kernel
theorem dX5_copyFrom_66 : decode cX5_copyFrom 66 = .ok (.putfield 33, 3) := by decide +kernel
theorem dX5_copyFrom_69 : decode cX5_copyFrom 69 = .ok (.return_, 1) := by decide +kernel
theorem dX5_isHere_0 : decode cX5_isHere 0 = .ok (.aload_n 0, 1) := by decide +kernel
theorem dX5_isHere_1 : decode cX5_isHere 1 = .ok (.getfield 24, 3) := by decide +kernel
theorem dX5_isHere_4 : decode cX5_isHere 4 = .ok (.ifCond .eq 11, 3) := by decide +kernel
theorem dX5_isHere_7 : decode cX5_isHere 7 = .ok (.aload_n 0, 1) := by decide +kernel
theorem dX5_isHere_8 : decode cX5_isHere 8 = .ok (.getfield 24, 3) := by decide +kernel
theorem dX5_isHere_11 : decode cX5_isHere 11 = .ok (.iconst 1, 1) := by decide +kernel
theorem dX5_isHere_12 : decode cX5_isHere 12 = .ok (.if_icmp .ne 7, 3) := by decide +kernel
theorem dX5_isHere_15 : decode cX5_isHere 15 = .ok (.iconst 1, 1) := by decide +kernel
theorem dX5_isHere_16 : decode cX5_isHere 16 = .ok (.goto 4, 3) := by decide +kernel
theorem dX5_isHere_19 : decode cX5_isHere 19 = .ok (.iconst 0, 1) := by decide +kernel
theorem dX5_isHere_20 : decode cX5_isHere 20 = .ok (.ireturn, 1) := by decide +kernel
theorem dX5_end_0 : decode cX5_end 0 = .ok (.aload_n 0, 1) := by decide +kernel
theorem dX5_end_1 : decode cX5_end 1 = .ok (.iload_n 1, 1) := by decide +kernel
theorem dX5_end_2 : decode cX5_end 2 = .ok (.putfield 24, 3) := by decide +kernel
theorem dX5_end_5 : decode cX5_end 5 = .ok (.aload_n 0, 1) := by decide +kernel
theorem dX5_end_6 : decode cX5_end 6 = .ok (.bipush (-6), 2) := by decide +kernel
theorem dX5_end_8 : decode cX5_end 8 = .ok (.putfield 27, 3) := by decide +kernel
theorem dX5_end_11 : decode cX5_end 11 = .ok (.return_, 1) := by decide +kernel
theorem dX5_tryTest_0 : decode cX5_tryTest 0 = .ok (.aload_n 0, 1) := by decide +kernel
theorem dX5_tryTest_1 : decode cX5_tryTest 1 = .ok (.getfield 21, 3) := by decide +kernel
theorem dX5_tryTest_4 : decode cX5_tryTest 4 = .ok (.ifCond .ne 5, 3) := by decide +kernel
theorem dX5_tryTest_7 : decode cX5_tryTest 7 = .ok (.iconst 1, 1) := by decide +kernel
theorem dX5_tryTest_8 : decode cX5_tryTest 8 = .ok (.ireturn, 1) := by decide +kernel
theorem dX5_tryTest_9 : decode cX5_tryTest 9 = .ok (.iload_n 1, 1) := by decide +kernel
theorem dX5_tryTest_10 : decode cX5_tryTest 10 = .ok (.iload_n 2, 1) := by decide +kernel
theorem dX5_tryTest_11 : decode cX5_tryTest 11 = .ok (.iadd, 1) := by decide +kernel
theorem dX5_tryTest_12 : decode cX5_tryTest 12 = .ok (.aload_n 0, 1) := by decide +kernel
theorem dX5_tryTest_13 : decode cX5_tryTest 13 = .ok (.getfield 9, 3) := by decide +kernel
theorem dX5_tryTest_16 : decode cX5_tryTest 16 = .ok (.iadd, 1) := by decide +kernel
theorem dX5_tryTest_17 : decode cX5_tryTest 17 = .ok (.iconst 3, 1) := by decide +kernel
theorem dX5_tryTest_18 : decode cX5_tryTest 18 = .ok (.irem, 1) := by decide +kernel
theorem dX5_tryTest_19 : decode cX5_tryTest 19 = .ok (.ifCond .eq 20, 3) := by decide +kernel
theorem dX5_tryTest_22 : decode cX5_tryTest 22 = .ok (.aload_n 0, 1) := by decide +kernel
theorem dX5_tryTest_23 : decode cX5_tryTest 23 = .ok (.dup, 1) := by decide +kernel
theorem dX5_tryTest_24 : decode cX5_tryTest 24 = .ok (.getfield 21, 3) := by decide +kernel
theorem dX5_tryTest_27 : decode cX5_tryTest 27 = .ok (.aload_n 0, 1) := by decide +kernel
theorem dX5_tryTest_28 : decode cX5_tryTest 28 = .ok (.getfield 21, 3) := by decide +kernel
theorem dX5_tryTest_31 : decode cX5_tryTest 31 = .ok (.iconst 1, 1) := by decide +kernel
theorem dX5_tryTest_32 : decode cX5_tryTest 32 = .ok (.isub, 1) := by decide +kernel
theorem dX5_tryTest_33 : decode cX5_tryTest 33 = .ok (.iand, 1) := by decide +kernel
theorem dX5_tryTest_34 : decode cX5_tryTest 34 = .ok (.putfield 21, 3) := by decide +kernel
theorem dX5_tryTest_37 : decode cX5_tryTest 37 = .ok (.iconst 1, 1) := by decide +kernel
theorem dX5_tryTest_38 : decode cX5_tryTest 38 = .ok (.ireturn, 1) := by decide +kernel
theorem dX5_tryTest_39 : decode cX5_tryTest 39 = .ok (.aload_n 0, 1) := by decide +kernel
theorem dX5_tryTest_40 : decode cX5_tryTest 40 = .ok (.dup, 1) := by decide +kernel
theorem dX5_tryTest_41 : decode cX5_tryTest 41 = .ok (.getfield 15, 3) := by decide +kernel
theorem dX5_tryTest_44 : decode cX5_tryTest 44 = .ok (.iconst 1, 1) := by decide +kernel
theorem dX5_tryTest_45 : decode cX5_tryTest 45 = .ok (.aload_n 0, 1) := by decide +kernel
theorem dX5_tryTest_46 : decode cX5_tryTest 46 = .ok (.getfield 9, 3) := by decide +kernel
theorem dX5_tryTest_49 : decode cX5_tryTest 49 = .ok (.ishl, 1) := by decide +kernel
theorem dX5_tryTest_50 : decode cX5_tryTest 50 = .ok (.ior, 1) := by decide +kernel
theorem dX5_tryTest_51 : decode cX5_tryTest 51 = .ok (.putfield 15, 3) := by decide +kernel
theorem dX5_tryTest_54 : decode cX5_tryTest 54 = .ok (.aload_n 0, 1) := by decide +kernel
theorem dX5_tryTest_55 : decode cX5_tryTest 55 = .ok (.dup, 1) := by decide +kernel
theorem dX5_tryTest_56 : decode cX5_tryTest 56 = .ok (.getfield 30, 3) := by decide +kernel
theorem dX5_tryTest_59 : decode cX5_tryTest 59 = .ok (.iconst 1, 1) := by decide +kernel
theorem dX5_tryTest_60 : decode cX5_tryTest 60 = .ok (.iadd, 1) := by decide +kernel
theorem dX5_tryTest_61 : decode cX5_tryTest 61 = .ok (.putfield 30, 3) := by decide +kernel
theorem dX5_tryTest_64 : decode cX5_tryTest 64 = .ok (.aload_n 0, 1) := by decide +kernel
theorem dX5_tryTest_65 : decode cX5_tryTest 65 = .ok (.getfield 30, 3) := by decide +kernel
theorem dX5_tryTest_68 : decode cX5_tryTest 68 = .ok (.iconst 3, 1) := by decide +kernel
theorem dX5_tryTest_69 : decode cX5_tryTest 69 = .ok (.if_icmp .ge 7, 3) := by decide +kernel
theorem dX5_tryTest_72 : decode cX5_tryTest 72 = .ok (.iconst 1, 1) := by decide +kernel
theorem dX5_tryTest_73 : decode cX5_tryTest 73 = .ok (.goto 4, 3) := by decide +kernel
theorem dX5_tryTest_76 : decode cX5_tryTest 76 = .ok (.iconst 0, 1) := by decide +kernel
theorem dX5_tryTest_77 : decode cX5_tryTest 77 = .ok (.ireturn, 1) := by decide +kernel
theorem dX6_init_0 : decode cX6_init 0 = .ok (.aload_n 0, 1) := by decide +kernel
theorem dX6_init_1 : decode cX6_init 1 = .ok (.invokespecial 1, 3) := by decide +kernel
theorem dX6_init_4 : decode cX6_init 4 = .ok (.aload_n 0, 1) := by decide +kernel
theorem dX6_init_5 : decode cX6_init 5 = .ok (.new 7, 3) := by decide +kernel
theorem dX6_init_8 : decode cX6_init 8 = .ok (.dup, 1) := by decide +kernel
theorem dX6_init_9 : decode cX6_init 9 = .ok (.invokespecial 9, 3) := by decide +kernel
theorem dX6_init_12 : decode cX6_init 12 = .ok (.putfield 10, 3) := by decide +kernel
theorem dX6_init_15 : decode cX6_init 15 = .ok (.aload_n 0, 1) := by decide +kernel
theorem dX6_init_16 : decode cX6_init 16 = .ok (.new 7, 3) := by decide +kernel
theorem dX6_init_19 : decode cX6_init 19 = .ok (.dup, 1) := by decide +kernel
theorem dX6_init_20 : decode cX6_init 20 = .ok (.invokespecial 9, 3) := by decide +kernel
theorem dX6_init_23 : decode cX6_init 23 = .ok (.putfield 16, 3) := by decide +kernel
theorem dX6_init_26 : decode cX6_init 26 = .ok (.aload_n 0, 1) := by decide +kernel
theorem dX6_init_27 : decode cX6_init 27 = .ok (.new 19, 3) := by decide +kernel
theorem dX6_init_30 : decode cX6_init 30 = .ok (.dup, 1) := by decide +kernel
theorem dX6_init_31 : decode cX6_init 31 = .ok (.invokespecial 21, 3) := by decide +kernel
theorem dX6_init_34 : decode cX6_init 34 = .ok (.putfield 22, 3) := by decide +kernel
theorem dX6_init_37 : decode cX6_init 37 = .ok (.aload_n 0, 1) := by decide +kernel
theorem dX6_init_38 : decode cX6_init 38 = .ok (.iconst 2, 1) := by decide +kernel
theorem dX6_init_39 : decode cX6_init 39 = .ok (.anewarray 7, 3) := by decide +kernel
theorem dX6_init_42 : decode cX6_init 42 = .ok (.putfield 26, 3) := by decide +kernel
theorem dX6_init_45 : decode cX6_init 45 = .ok (.aload_n 0, 1) := by decide +kernel
theorem dX6_init_46 : decode cX6_init 46 = .ok (.new 30, 3) := by decide +kernel
theorem dX6_init_49 : decode cX6_init 49 = .ok (.dup, 1) := by decide +kernel
theorem dX6_init_50 : decode cX6_init 50 = .ok (.invokespecial 32, 3) := by decide +kernel
theorem dX6_init_53 : decode cX6_init 53 = .ok (.putfield 33, 3) := by decide +kernel
theorem dX6_init_56 : decode cX6_init 56 = .ok (.return_, 1) := by decide +kernel
theorem dX6_thing_0 : decode cX6_thing 0 = .ok (.aload_n 0, 1) := by decide +kernel
theorem dX6_thing_1 : decode cX6_thing 1 = .ok (.getfield 22, 3) := by decide +kernel
theorem dX6_thing_4 : decode cX6_thing 4 = .ok (.aload_n 0, 1) := by decide +kernel
theorem dX6_thing_5 : decode cX6_thing 5 = .ok (.getfield 10, 3) := by decide +kernel
theorem dX6_thing_8 : decode cX6_thing 8 = .ok (.invokevirtual 37, 3) := by decide +kernel
theorem dX6_thing_11 : decode cX6_thing 11 = .ok (.aload_n 0, 1) := by decide +kernel
theorem dX6_thing_12 : decode cX6_thing 12 = .ok (.aload_n 0, 1) := by decide +kernel
theorem dX6_thing_13 : decode cX6_thing 13 = .ok (.getfield 10, 3) := by decide +kernel
theorem dX6_thing_16 : decode cX6_thing 16 = .ok (.iload_n 1, 1) := by decide +kernel
theorem dX6_thing_17 : decode cX6_thing 17 = .ok (.iload_n 2, 1) := by decide +kernel
theorem dX6_thing_18 : decode cX6_thing 18 = .ok (.iload_n 3, 1) := by decide +kernel
theorem dX6_thing_19 : decode cX6_thing 19 = .ok (.iload 4, 2) := by decide +kernel
theorem dX6_thing_21 : decode cX6_thing 21 = .ok (.invokevirtual 41, 3) := by decide +kernel
theorem dX6_thing_24 : decode cX6_thing 24 = .ok (.invokevirtual 45, 3) := by decide +kernel
theorem dX6_thing_27 : decode cX6_thing 27 = .ok (.ireturn, 1) := by decide +kernel
theorem dX6_fixer_0 : decode cX6_fixer 0 = .ok (.aload_n 0, 1) := by decide +kernel
theorem dX6_fixer_1 : decode cX6_fixer 1 = .ok (.getfield 22, 3) := by decide +kernel
theorem dX6_fixer_4 : decode cX6_fixer 4 = .ok (.aload_n 0, 1) := by decide +kernel
theorem dX6_fixer_5 : decode cX6_fixer 5 = .ok (.getfield 10, 3) := by decide +kernel
theorem dX6_fixer_8 : decode cX6_fixer 8 = .ok (.invokevirtual 37, 3) := by decide +kernel
theorem dX6_fixer_11 : decode cX6_fixer 11 = .ok (.aload_n 0, 1) := by decide +kernel
theorem dX6_fixer_12 : decode cX6_fixer 12 = .ok (.aload_n 0, 1) := by decide +kernel
theorem dX6_fixer_13 : decode cX6_fixer 13 = .ok (.getfield 10, 3) := by decide +kernel
theorem dX6_fixer_16 : decode cX6_fixer 16 = .ok (.iload_n 1, 1) := by decide +kernel
theorem dX6_fixer_17 : decode cX6_fixer 17 = .ok (.iload_n 2, 1) := by decide +kernel
theorem dX6_fixer_18 : decode cX6_fixer 18 = .ok (.invokevirtual 49, 3) := by decide +kernel
theorem dX6_fixer_21 : decode cX6_fixer 21 = .ok (.invokevirtual 45, 3) := by decide +kernel
theorem dX6_fixer_24 : decode cX6_fixer 24 = .ok (.ireturn, 1) := by decide +kernel
theorem dX6_drawer_0 : decode cX6_drawer 0 = .ok (.aload_n 0, 1) := by decide +kernel
theorem dX6_drawer_1 : decode cX6_drawer 1 = .ok (.getfield 22, 3) := by decide +kernel
theorem dX6_drawer_4 : decode cX6_drawer 4 = .ok (.aload_n 0, 1) := by decide +kernel
theorem dX6_drawer_5 : decode cX6_drawer 5 = .ok (.getfield 10, 3) := by decide +kernel
theorem dX6_drawer_8 : decode cX6_drawer 8 = .ok (.invokevirtual 37, 3) := by decide +kernel
theorem dX6_drawer_11 : decode cX6_drawer 11 = .ok (.aload_n 0, 1) := by decide +kernel
theorem dX6_drawer_12 : decode cX6_drawer 12 = .ok (.aload_n 0, 1) := by decide +kernel
theorem dX6_drawer_13 : decode cX6_drawer 13 = .ok (.getfield 10, 3) := by decide +kernel
theorem dX6_drawer_16 : decode cX6_drawer 16 = .ok (.iload_n 1, 1) := by decide +kernel
theorem dX6_drawer_17 : decode cX6_drawer 17 = .ok (.iload_n 2, 1) := by decide +kernel
theorem dX6_drawer_18 : decode cX6_drawer 18 = .ok (.invokevirtual 53, 3) := by decide +kernel
theorem dX6_drawer_21 : decode cX6_drawer 21 = .ok (.invokevirtual 45, 3) := by decide +kernel
theorem dX6_drawer_24 : decode cX6_drawer 24 = .ok (.ireturn, 1) := by decide +kernel
theorem dX6_giveUp_0 : decode cX6_giveUp 0 = .ok (.aload_n 0, 1) := by decide +kernel
theorem dX6_giveUp_1 : decode cX6_giveUp 1 = .ok (.getfield 22, 3) := by decide +kernel
theorem dX6_giveUp_4 : decode cX6_giveUp 4 = .ok (.aload_n 0, 1) := by decide +kernel
theorem dX6_giveUp_5 : decode cX6_giveUp 5 = .ok (.getfield 10, 3) := by decide +kernel
theorem dX6_giveUp_8 : decode cX6_giveUp 8 = .ok (.invokevirtual 37, 3) := by decide +kernel
theorem dX6_giveUp_11 : decode cX6_giveUp 11 = .ok (.aload_n 0, 1) := by decide +kernel
theorem dX6_giveUp_12 : decode cX6_giveUp 12 = .ok (.aload_n 0, 1) := by decide +kernel
theorem dX6_giveUp_13 : decode cX6_giveUp 13 = .ok (.getfield 10, 3) := by decide +kernel
theorem dX6_giveUp_16 : decode cX6_giveUp 16 = .ok (.iload_n 1, 1) := by decide +kernel
theorem dX6_giveUp_17 : decode cX6_giveUp 17 = .ok (.invokevirtual 56, 3) := by decide +kernel
theorem dX6_giveUp_20 : decode cX6_giveUp 20 = .ok (.invokevirtual 45, 3) := by decide +kernel
theorem dX6_giveUp_23 : decode cX6_giveUp 23 = .ok (.ireturn, 1) := by decide +kernel
theorem dX6_pass_0 : decode cX6_pass 0 = .ok (.aload_n 0, 1) := by decide +kernel
theorem dX6_pass_1 : decode cX6_pass 1 = .ok (.getfield 22, 3) := by decide +kernel
theorem dX6_pass_4 : decode cX6_pass 4 = .ok (.aload_n 0, 1) := by decide +kernel
theorem dX6_pass_5 : decode cX6_pass 5 = .ok (.getfield 10, 3) := by decide +kernel
theorem dX6_pass_8 : decode cX6_pass 8 = .ok (.invokevirtual 37, 3) := by decide +kernel
theorem dX6_pass_11 : decode cX6_pass 11 = .ok (.aload_n 0, 1) := by decide +kernel
theorem dX6_pass_12 : decode cX6_pass 12 = .ok (.aload_n 0, 1) := by decide +kernel
theorem dX6_pass_13 : decode cX6_pass 13 = .ok (.getfield 10, 3) := by decide +kernel
theorem dX6_pass_16 : decode cX6_pass 16 = .ok (.iload_n 1, 1) := by decide +kernel
theorem dX6_pass_17 : decode cX6_pass 17 = .ok (.invokevirtual 59, 3) := by decide +kernel
theorem dX6_pass_20 : decode cX6_pass 20 = .ok (.invokevirtual 45, 3) := by decide +kernel
theorem dX6_pass_23 : decode cX6_pass 23 = .ok (.ireturn, 1) := by decide +kernel
theorem dX6_ofThing_0 : decode cX6_ofThing 0 = .ok (.aload_n 0, 1) := by decide +kernel
theorem dX6_ofThing_1 : decode cX6_ofThing 1 = .ok (.getfield 10, 3) := by decide +kernel
theorem dX6_ofThing_4 : decode cX6_ofThing 4 = .ok (.iload_n 1, 1) := by decide +kernel
theorem dX6_ofThing_5 : decode cX6_ofThing 5 = .ok (.invokevirtual 62, 3) := by decide +kernel
theorem dX6_ofThing_8 : decode cX6_ofThing 8 = .ok (.astore_n 3, 1) := by decide +kernel
theorem dX6_ofThing_9 : decode cX6_ofThing 9 = .ok (.aload_n 3, 1) := by decide +kernel
theorem dX6_ofThing_10 : decode cX6_ofThing 10 = .ok (.ifnonnull 5, 3) := by decide +kernel
theorem dX6_ofThing_13 : decode cX6_ofThing 13 = .ok (.iconst (-1), 1) := by decide +kernel
theorem dX6_ofThing_14 : decode cX6_ofThing 14 = .ok (.ireturn, 1) := by decide +kernel
theorem dX6_ofThing_15 : decode cX6_ofThing 15 = .ok (.iload_n 2, 1) := by decide +kernel
theorem dX6_ofThing_16 : decode cX6_ofThing 16 = .ok (.tableswitch 101 0 8 #[52, 57, 62, 67, 72, 77, 82, 87, 92], 52) := by decide +kernel
theorem dX6_ofThing_68 : decode cX6_ofThing 68 = .ok (.aload_n 3, 1) := by decide +kernel
theorem dX6_ofThing_69 : decode cX6_ofThing 69 = .ok (.getfield 66, 3) := by decide +kernel
theorem dX6_ofThing_72 : decode cX6_ofThing 72 = .ok (.ireturn, 1) := by decide +kernel
theorem dX6_ofThing_73 : decode cX6_ofThing 73 = .ok (.aload_n 3, 1) := by decide +kernel
theorem dX6_ofThing_74 : decode cX6_ofThing 74 = .ok (.getfield 72, 3) := by decide +kernel
theorem dX6_ofThing_77 : decode cX6_ofThing 77 = .ok (.ireturn, 1) := by decide +kernel
theorem dX6_ofThing_78 : decode cX6_ofThing 78 = .ok (.aload_n 3, 1) := by decide +kernel
theorem dX6_ofThing_79 : decode cX6_ofThing 79 = .ok (.getfield 75, 3) := by decide +kernel
theorem dX6_ofThing_82 : decode cX6_ofThing 82 = .ok (.ireturn, 1) := by decide +kernel
theorem dX6_ofThing_83 : decode cX6_ofThing 83 = .ok (.aload_n 3, 1) := by decide +kernel
theorem dX6_ofThing_84 : decode cX6_ofThing 84 = .ok (.getfield 78, 3) := by decide +kernel
theorem dX6_ofThing_87 : decode cX6_ofThing 87 = .ok (.ireturn, 1) := by decide +kernel
theorem dX6_ofThing_88 : decode cX6_ofThing 88 = .ok (.aload_n 3, 1) := by decide +kernel
theorem dX6_ofThing_89 : decode cX6_ofThing 89 = .ok (.getfield 81, 3) := by decide +kernel
theorem dX6_ofThing_92 : decode cX6_ofThing 92 = .ok (.ireturn, 1) := by decide +kernel
theorem dX6_ofThing_93 : decode cX6_ofThing 93 = .ok (.aload_n 3, 1) := by decide +kernel
theorem dX6_ofThing_94 : decode cX6_ofThing 94 = .ok (.getfield 84, 3) := by decide +kernel
theorem dX6_ofThing_97 : decode cX6_ofThing 97 = .ok (.ireturn, 1) := by decide +kernel
theorem dX6_ofThing_98 : decode cX6_ofThing 98 = .ok (.aload_n 3, 1) := by decide +kernel
theorem dX6_ofThing_99 : decode cX6_ofThing 99 = .ok (.getfield 87, 3) := by decide +kernel
theorem dX6_ofThing_102 : decode cX6_ofThing 102 = .ok (.ireturn, 1) := by decide +kernel
theorem dX6_ofThing_103 : decode cX6_ofThing 103 = .ok (.aload_n 3, 1) := by decide +kernel
theorem dX6_ofThing_104 : decode cX6_ofThing 104 = .ok (.getfield 90, 3) := by decide +kernel
theorem dX6_ofThing_107 : decode cX6_ofThing 107 = .ok (.ireturn, 1) := by decide +kernel
theorem dX6_ofThing_108 : decode cX6_ofThing 108 = .ok (.aload_n 0, 1) := by decide +kernel
theorem dX6_ofThing_109 : decode cX6_ofThing 109 = .ok (.getfield 10, 3) := by decide +kernel
theorem dX6_ofThing_112 : decode cX6_ofThing 112 = .ok (.iload_n 1, 1) := by decide +kernel
theorem dX6_ofThing_113 : decode cX6_ofThing 113 = .ok (.invokevirtual 93, 3) := by decide +kernel
theorem dX6_ofThing_116 : decode cX6_ofThing 116 = .ok (.ireturn, 1) := by decide +kernel
theorem dX6_ofThing_117 : decode cX6_ofThing 117 = .ok (.bipush (-2), 2) := by decide +kernel
theorem dX6_ofThing_119 : decode cX6_ofThing 119 = .ok (.ireturn, 1) := by decide +kernel
theorem dX6_ofFixer_0 : decode cX6_ofFixer 0 = .ok (.aload_n 0, 1) := by decide +kernel
theorem dX6_ofFixer_1 : decode cX6_ofFixer 1 = .ok (.getfield 10, 3) := by decide +kernel
theorem dX6_ofFixer_4 : decode cX6_ofFixer 4 = .ok (.iload_n 1, 1) := by decide +kernel
theorem dX6_ofFixer_5 : decode cX6_ofFixer 5 = .ok (.invokevirtual 96, 3) := by decide +kernel
theorem dX6_ofFixer_8 : decode cX6_ofFixer 8 = .ok (.astore_n 3, 1) := by decide +kernel
theorem dX6_ofFixer_9 : decode cX6_ofFixer 9 = .ok (.aload_n 3, 1) := by decide +kernel
theorem dX6_ofFixer_10 : decode cX6_ofFixer 10 = .ok (.ifnonnull 5, 3) := by decide +kernel
theorem dX6_ofFixer_13 : decode cX6_ofFixer 13 = .ok (.iconst (-1), 1) := by decide +kernel
theorem dX6_ofFixer_14 : decode cX6_ofFixer 14 = .ok (.ireturn, 1) := by decide +kernel
theorem dX6_ofFixer_15 : decode cX6_ofFixer 15 = .ok (.iload_n 2, 1) := by decide +kernel
theorem dX6_ofFixer_16 : decode cX6_ofFixer 16 = .ok (.tableswitch 86 0 6 #[44, 49, 54, 59, 64, 69, 74], 44) := by decide +kernel
theorem dX6_ofFixer_60 : decode cX6_ofFixer 60 = .ok (.aload_n 3, 1) := by decide +kernel
theorem dX6_ofFixer_61 : decode cX6_ofFixer 61 = .ok (.getfield 100, 3) := by decide +kernel
theorem dX6_ofFixer_64 : decode cX6_ofFixer 64 = .ok (.ireturn, 1) := by decide +kernel
theorem dX6_ofFixer_65 : decode cX6_ofFixer 65 = .ok (.aload_n 3, 1) := by decide +kernel
theorem dX6_ofFixer_66 : decode cX6_ofFixer 66 = .ok (.getfield 105, 3) := by decide +kernel
theorem dX6_ofFixer_69 : decode cX6_ofFixer 69 = .ok (.ireturn, 1) := by decide +kernel
theorem dX6_ofFixer_70 : decode cX6_ofFixer 70 = .ok (.aload_n 3, 1) := by decide +kernel
theorem dX6_ofFixer_71 : decode cX6_ofFixer 71 = .ok (.getfield 108, 3) := by decide +kernel
theorem dX6_ofFixer_74 : decode cX6_ofFixer 74 = .ok (.ireturn, 1) := by decide +kernel
theorem dX6_ofFixer_75 : decode cX6_ofFixer 75 = .ok (.aload_n 3, 1) := by decide +kernel
theorem dX6_ofFixer_76 : decode cX6_ofFixer 76 = .ok (.getfield 111, 3) := by decide +kernel
theorem dX6_ofFixer_79 : decode cX6_ofFixer 79 = .ok (.ireturn, 1) := by decide +kernel
theorem dX6_ofFixer_80 : decode cX6_ofFixer 80 = .ok (.aload_n 3, 1) := by decide +kernel
theorem dX6_ofFixer_81 : decode cX6_ofFixer 81 = .ok (.getfield 114, 3) := by decide +kernel
theorem dX6_ofFixer_84 : decode cX6_ofFixer 84 = .ok (.ireturn, 1) := by decide +kernel
theorem dX6_ofFixer_85 : decode cX6_ofFixer 85 = .ok (.aload_n 3, 1) := by decide +kernel
theorem dX6_ofFixer_86 : decode cX6_ofFixer 86 = .ok (.getfield 117, 3) := by decide +kernel
theorem dX6_ofFixer_89 : decode cX6_ofFixer 89 = .ok (.ireturn, 1) := by decide +kernel
theorem dX6_ofFixer_90 : decode cX6_ofFixer 90 = .ok (.aload_n 0, 1) := by decide +kernel
theorem dX6_ofFixer_91 : decode cX6_ofFixer 91 = .ok (.getfield 10, 3) := by decide +kernel
theorem dX6_ofFixer_94 : decode cX6_ofFixer 94 = .ok (.aload_n 3, 1) := by decide +kernel
theorem dX6_ofFixer_95 : decode cX6_ofFixer 95 = .ok (.getfield 100, 3) := by decide +kernel
theorem dX6_ofFixer_98 : decode cX6_ofFixer 98 = .ok (.invokevirtual 120, 3) := by decide +kernel
theorem dX6_ofFixer_101 : decode cX6_ofFixer 101 = .ok (.ireturn, 1) := by decide +kernel
theorem dX6_ofFixer_102 : decode cX6_ofFixer 102 = .ok (.bipush (-2), 2) := by decide +kernel
theorem dX6_ofFixer_104 : decode cX6_ofFixer 104 = .ok (.ireturn, 1) := by decide +kernel
theorem dX6_ofPart_0 : decode cX6_ofPart 0 = .ok (.aload_n 0, 1) := by decide +kernel
theorem dX6_ofPart_1 : decode cX6_ofPart 1 = .ok (.getfield 10, 3) := by decide +kernel
theorem dX6_ofPart_4 : decode cX6_ofPart 4 = .ok (.iload_n 1, 1) := by decide +kernel
theorem dX6_ofPart_5 : decode cX6_ofPart 5 = .ok (.invokevirtual 123, 3) := by decide +kernel
theorem dX6_ofPart_8 : decode cX6_ofPart 8 = .ok (.astore_n 3, 1) := by decide +kernel
theorem dX6_ofPart_9 : decode cX6_ofPart 9 = .ok (.aload_n 3, 1) := by decide +kernel
theorem dX6_ofPart_10 : decode cX6_ofPart 10 = .ok (.ifnonnull 5, 3) := by decide +kernel
theorem dX6_ofPart_13 : decode cX6_ofPart 13 = .ok (.iconst (-1), 1) := by decide +kernel
theorem dX6_ofPart_14 : decode cX6_ofPart 14 = .ok (.ireturn, 1) := by decide +kernel
theorem dX6_ofPart_15 : decode cX6_ofPart 15 = .ok (.iload_n 2, 1) := by decide +kernel
theorem dX6_ofPart_16 : decode cX6_ofPart 16 = .ok (.tableswitch 56 0 3 #[32, 37, 46, 51], 32) := by decide +kernel
theorem dX6_ofPart_48 : decode cX6_ofPart 48 = .ok (.aload_n 3, 1) := by decide +kernel
theorem dX6_ofPart_49 : decode cX6_ofPart 49 = .ok (.getfield 127, 3) := by decide +kernel
theorem dX6_ofPart_52 : decode cX6_ofPart 52 = .ok (.ireturn, 1) := by decide +kernel
theorem dX6_ofPart_53 : decode cX6_ofPart 53 = .ok (.aload_n 0, 1) := by decide +kernel
theorem dX6_ofPart_54 : decode cX6_ofPart 54 = .ok (.getfield 10, 3) := by decide +kernel
theorem dX6_ofPart_57 : decode cX6_ofPart 57 = .ok (.iload_n 1, 1) := by decide +kernel
theorem dX6_ofPart_58 : decode cX6_ofPart 58 = .ok (.invokevirtual 132, 3) := by decide +kernel
theorem dX6_ofPart_61 : decode cX6_ofPart 61 = .ok (.ireturn, 1) := by decide +kernel
theorem dX6_ofPart_62 : decode cX6_ofPart 62 = .ok (.aload_n 3, 1) := by decide +kernel
theorem dX6_ofPart_63 : decode cX6_ofPart 63 = .ok (.getfield 135, 3) := by decide +kernel
theorem dX6_ofPart_66 : decode cX6_ofPart 66 = .ok (.ireturn, 1) := by decide +kernel
theorem dX6_ofPart_67 : decode cX6_ofPart 67 = .ok (.aload_n 3, 1) := by decide +kernel
theorem dX6_ofPart_68 : decode cX6_ofPart 68 = .ok (.getfield 136, 3) := by decide +kernel
theorem dX6_ofPart_71 : decode cX6_ofPart 71 = .ok (.ireturn, 1) := by decide +kernel
theorem dX6_ofPart_72 : decode cX6_ofPart 72 = .ok (.bipush (-2), 2) := by decide +kernel
theorem dX6_ofPart_74 : decode cX6_ofPart 74 = .ok (.ireturn, 1) := by decide +kernel
theorem dX6_count_0 : decode cX6_count 0 = .ok (.iload_n 1, 1) := by decide +kernel
theorem dX6_count_1 : decode cX6_count 1 = .ok (.tableswitch 140 0 9 #[55, 63, 71, 79, 88, 97, 106, 115, 124, 132], 55) := by decide +kernel
theorem dX6_count_56 : decode cX6_count 56 = .ok (.aload_n 0, 1) := by decide +kernel
theorem dX6_count_57 : decode cX6_count 57 = .ok (.getfield 10, 3) := by decide +kernel
theorem dX6_count_60 : decode cX6_count 60 = .ok (.getfield 139, 3) := by decide +kernel
theorem dX6_count_63 : decode cX6_count 63 = .ok (.ireturn, 1) := by decide +kernel
theorem dX6_count_64 : decode cX6_count 64 = .ok (.aload_n 0, 1) := by decide +kernel
theorem dX6_count_65 : decode cX6_count 65 = .ok (.getfield 10, 3) := by decide +kernel
theorem dX6_count_68 : decode cX6_count 68 = .ok (.getfield 142, 3) := by decide +kernel
theorem dX6_count_71 : decode cX6_count 71 = .ok (.ireturn, 1) := by decide +kernel
theorem dX6_count_72 : decode cX6_count 72 = .ok (.aload_n 0, 1) := by decide +kernel
theorem dX6_count_73 : decode cX6_count 73 = .ok (.getfield 10, 3) := by decide +kernel
theorem dX6_count_76 : decode cX6_count 76 = .ok (.getfield 145, 3) := by decide +kernel
theorem dX6_count_79 : decode cX6_count 79 = .ok (.ireturn, 1) := by decide +kernel
theorem dX6_count_80 : decode cX6_count 80 = .ok (.aload_n 0, 1) := by decide +kernel
theorem dX6_count_81 : decode cX6_count 81 = .ok (.getfield 10, 3) := by decide +kernel
theorem dX6_count_84 : decode cX6_count 84 = .ok (.iconst 0, 1) := by decide +kernel
theorem dX6_count_85 : decode cX6_count 85 = .ok (.invokevirtual 148, 3) := by decide +kernel
theorem dX6_count_88 : decode cX6_count 88 = .ok (.ireturn, 1) := by decide +kernel
theorem dX6_count_89 : decode cX6_count 89 = .ok (.aload_n 0, 1) := by decide +kernel
theorem dX6_count_90 : decode cX6_count 90 = .ok (.getfield 10, 3) := by decide +kernel
theorem dX6_count_93 : decode cX6_count 93 = .ok (.iconst 1, 1) := by decide +kernel
theorem dX6_count_94 : decode cX6_count 94 = .ok (.invokevirtual 148, 3) := by decide +kernel
theorem dX6_count_97 : decode cX6_count 97 = .ok (.ireturn, 1) := by decide +kernel
theorem dX6_count_98 : decode cX6_count 98 = .ok (.aload_n 0, 1) := by decide +kernel
theorem dX6_count_99 : decode cX6_count 99 = .ok (.getfield 10, 3) := by decide +kernel
theorem dX6_count_102 : decode cX6_count 102 = .ok (.iconst 2, 1) := by decide +kernel
theorem dX6_count_103 : decode cX6_count 103 = .ok (.invokevirtual 148, 3) := by decide +kernel
theorem dX6_count_106 : decode cX6_count 106 = .ok (.ireturn, 1) := by decide +kernel
theorem dX6_count_107 : decode cX6_count 107 = .ok (.aload_n 0, 1) := by decide +kernel
theorem dX6_count_108 : decode cX6_count 108 = .ok (.getfield 10, 3) := by decide +kernel
theorem dX6_count_111 : decode cX6_count 111 = .ok (.iconst 3, 1) := by decide +kernel
theorem dX6_count_112 : decode cX6_count 112 = .ok (.invokevirtual 148, 3) := by decide +kernel
theorem dX6_count_115 : decode cX6_count 115 = .ok (.ireturn, 1) := by decide +kernel
theorem dX6_count_116 : decode cX6_count 116 = .ok (.aload_n 0, 1) := by decide +kernel
theorem dX6_count_117 : decode cX6_count 117 = .ok (.getfield 10, 3) := by decide +kernel
theorem dX6_count_120 : decode cX6_count 120 = .ok (.iconst 4, 1) := by decide +kernel
theorem dX6_count_121 : decode cX6_count 121 = .ok (.invokevirtual 148, 3) := by decide +kernel
theorem dX6_count_124 : decode cX6_count 124 = .ok (.ireturn, 1) := by decide +kernel
theorem dX6_count_125 : decode cX6_count 125 = .ok (.aload_n 0, 1) := by decide +kernel
theorem dX6_count_126 : decode cX6_count 126 = .ok (.getfield 33, 3) := by decide +kernel
theorem dX6_count_129 : decode cX6_count 129 = .ok (.getfield 151, 3) := by decide +kernel
theorem dX6_count_132 : decode cX6_count 132 = .ok (.ireturn, 1) := by decide +kernel
theorem dX6_count_133 : decode cX6_count 133 = .ok (.aload_n 0, 1) := by decide +kernel
theorem dX6_count_134 : decode cX6_count 134 = .ok (.getfield 22, 3) := by decide +kernel
theorem dX6_count_137 : decode cX6_count 137 = .ok (.getfield 154, 3) := by decide +kernel
theorem dX6_count_140 : decode cX6_count 140 = .ok (.ireturn, 1) := by decide +kernel
theorem dX6_count_141 : decode cX6_count 141 = .ok (.bipush (-2), 2) := by decide +kernel
theorem dX6_count_143 : decode cX6_count 143 = .ok (.ireturn, 1) := by decide +kernel
theorem dX6_scarcest_0 : decode cX6_scarcest 0 = .ok (.bipush (-6), 2) := by decide +kernel
theorem dX6_scarcest_2 : decode cX6_scarcest 2 = .ok (.istore_n 1, 1) := by decide +kernel
theorem dX6_scarcest_3 : decode cX6_scarcest 3 = .ok (.iconst 0, 1) := by decide +kernel
theorem dX6_scarcest_4 : decode cX6_scarcest 4 = .ok (.istore_n 2, 1) := by decide +kernel
theorem dX6_scarcest_5 : decode cX6_scarcest 5 = .ok (.iconst 0, 1) := by decide +kernel
theorem dX6_scarcest_6 : decode cX6_scarcest 6 = .ok (.istore_n 3, 1) := by decide +kernel
theorem dX6_scarcest_7 : decode cX6_scarcest 7 = .ok (.iload_n 3, 1) := by decide +kernel
theorem dX6_scarcest_8 : decode cX6_scarcest 8 = .ok (.bipush 8, 2) := by decide +kernel
theorem dX6_scarcest_10 : decode cX6_scarcest 10 = .ok (.if_icmp .ge 30, 3) := by decide +kernel
theorem dX6_scarcest_13 : decode cX6_scarcest 13 = .ok (.aload_n 0, 1) := by decide +kernel
theorem dX6_scarcest_14 : decode cX6_scarcest 14 = .ok (.getfield 10, 3) := by decide +kernel
theorem dX6_scarcest_17 : decode cX6_scarcest 17 = .ok (.iload_n 3, 1) := by decide +kernel
theorem dX6_scarcest_18 : decode cX6_scarcest 18 = .ok (.invokevirtual 157, 3) := by decide +kernel
theorem dX6_scarcest_21 : decode cX6_scarcest 21 = .ok (.istore 4, 2) := by decide +kernel
theorem dX6_scarcest_23 : decode cX6_scarcest 23 = .ok (.iload 4, 2) := by decide +kernel
theorem dX6_scarcest_25 : decode cX6_scarcest 25 = .ok (.iload_n 2, 1) := by decide +kernel
theorem dX6_scarcest_26 : decode cX6_scarcest 26 = .ok (.if_icmp .le 8, 3) := by decide +kernel
theorem dX6_scarcest_29 : decode cX6_scarcest 29 = .ok (.iload 4, 2) := by decide +kernel
theorem dX6_scarcest_31 : decode cX6_scarcest 31 = .ok (.istore_n 2, 1) := by decide +kernel
theorem dX6_scarcest_32 : decode cX6_scarcest 32 = .ok (.iload_n 3, 1) := by decide +kernel
theorem dX6_scarcest_33 : decode cX6_scarcest 33 = .ok (.istore_n 1, 1) := by decide +kernel
theorem dX6_scarcest_34 : decode cX6_scarcest 34 = .ok (.iinc 3 1, 3) := by decide +kernel
theorem dX6_scarcest_37 : decode cX6_scarcest 37 = .ok (.goto (-30), 3) := by decide +kernel
theorem dX6_scarcest_40 : decode cX6_scarcest 40 = .ok (.iload_n 1, 1) := by decide +kernel
theorem dX6_scarcest_41 : decode cX6_scarcest 41 = .ok (.ireturn, 1) := by decide +kernel
theorem dX6_doneIn_0 : decode cX6_doneIn 0 = .ok (.aload_n 0, 1) := by decide +kernel
theorem dX6_doneIn_1 : decode cX6_doneIn 1 = .ok (.getfield 16, 3) := by decide +kernel
theorem dX6_doneIn_4 : decode cX6_doneIn 4 = .ok (.aload_n 0, 1) := by decide +kernel
theorem dX6_doneIn_5 : decode cX6_doneIn 5 = .ok (.getfield 10, 3) := by decide +kernel
theorem dX6_doneIn_8 : decode cX6_doneIn 8 = .ok (.invokevirtual 160, 3) := by decide +kernel
theorem dX6_doneIn_11 : decode cX6_doneIn 11 = .ok (.aload_n 0, 1) := by decide +kernel
theorem dX6_doneIn_12 : decode cX6_doneIn 12 = .ok (.getfield 16, 3) := by decide +kernel
theorem dX6_doneIn_15 : decode cX6_doneIn 15 = .ok (.iload_n 1, 1) := by decide +kernel
theorem dX6_doneIn_16 : decode cX6_doneIn 16 = .ok (.invokevirtual 62, 3) := by decide +kernel
theorem dX6_doneIn_19 : decode cX6_doneIn 19 = .ok (.astore_n 2, 1) := by decide +kernel
theorem dX6_doneIn_20 : decode cX6_doneIn 20 = .ok (.aload_n 2, 1) := by decide +kernel
theorem dX6_doneIn_21 : decode cX6_doneIn 21 = .ok (.ifnonnull 5, 3) := by decide +kernel
theorem dX6_doneIn_24 : decode cX6_doneIn 24 = .ok (.iconst (-1), 1) := by decide +kernel
theorem dX6_doneIn_25 : decode cX6_doneIn 25 = .ok (.ireturn, 1) := by decide +kernel
theorem dX6_doneIn_26 : decode cX6_doneIn 26 = .ok (.iconst 0, 1) := by decide +kernel
theorem dX6_doneIn_27 : decode cX6_doneIn 27 = .ok (.istore_n 3, 1) := by decide +kernel
theorem dX6_doneIn_28 : decode cX6_doneIn 28 = .ok (.iload_n 3, 1) := by decide +kernel
theorem dX6_doneIn_29 : decode cX6_doneIn 29 = .ok (.sipush 500, 3) := by decide +kernel
theorem dX6_doneIn_32 : decode cX6_doneIn 32 = .ok (.if_icmp .gt 26, 3) := by decide +kernel
theorem dX6_doneIn_35 : decode cX6_doneIn 35 = .ok (.aload_n 2, 1) := by decide +kernel
theorem dX6_doneIn_36 : decode cX6_doneIn 36 = .ok (.invokevirtual 163, 3) := by decide +kernel
theorem dX6_doneIn_39 : decode cX6_doneIn 39 = .ok (.ifCond .ne 5, 3) := by decide +kernel
theorem dX6_doneIn_42 : decode cX6_doneIn 42 = .ok (.iload_n 3, 1) := by decide +kernel
theorem dX6_doneIn_43 : decode cX6_doneIn 43 = .ok (.ireturn, 1) := by decide +kernel
theorem dX6_doneIn_44 : decode cX6_doneIn 44 = .ok (.aload_n 0, 1) := by decide +kernel
theorem dX6_doneIn_45 : decode cX6_doneIn 45 = .ok (.getfield 16, 3) := by decide +kernel
theorem dX6_doneIn_48 : decode cX6_doneIn 48 = .ok (.invokevirtual 167, 3) := by decide +kernel
theorem dX6_doneIn_51 : decode cX6_doneIn 51 = .ok (.pop, 1) := by decide +kernel
theorem dX6_doneIn_52 : decode cX6_doneIn 52 = .ok (.iinc 3 1, 3) := by decide +kernel
theorem dX6_doneIn_55 : decode cX6_doneIn 55 = .ok (.goto (-27), 3) := by decide +kernel
theorem dX6_doneIn_58 : decode cX6_doneIn 58 = .ok (.bipush (-6), 2) := by decide +kernel
theorem dX6_doneIn_60 : decode cX6_doneIn 60 = .ok (.ireturn, 1) := by decide +kernel
theorem dX6_withFixer_0 : decode cX6_withFixer 0 = .ok (.iload_n 1, 1) := by decide +kernel
theorem dX6_withFixer_1 : decode cX6_withFixer 1 = .ok (.iload_n 2, 1) := by decide +kernel
theorem dX6_withFixer_2 : decode cX6_withFixer 2 = .ok (.invokestatic 171, 3) := by decide +kernel
theorem dX6_withFixer_5 : decode cX6_withFixer 5 = .ok (.ifCond .eq 10, 3) := by decide +kernel
theorem dX6_withFixer_8 : decode cX6_withFixer 8 = .ok (.iload_n 3, 1) := by decide +kernel
theorem dX6_withFixer_9 : decode cX6_withFixer 9 = .ok (.invokestatic 175, 3) := by decide +kernel
theorem dX6_withFixer_12 : decode cX6_withFixer 12 = .ok (.ifCond .ne 6, 3) := by decide +kernel
theorem dX6_withFixer_15 : decode cX6_withFixer 15 = .ok (.bipush (-2), 2) := by decide +kernel
theorem dX6_withFixer_17 : decode cX6_withFixer 17 = .ok (.ireturn, 1) := by decide +kernel
theorem dX6_withFixer_18 : decode cX6_withFixer 18 = .ok (.aload_n 0, 1) := by decide +kernel
theorem dX6_withFixer_19 : decode cX6_withFixer 19 = .ok (.getfield 10, 3) := by decide +kernel
theorem dX6_withFixer_22 : decode cX6_withFixer 22 = .ok (.getfield 145, 3) := by decide +kernel
theorem dX6_withFixer_25 : decode cX6_withFixer 25 = .ok (.iconst 5, 1) := by decide +kernel
theorem dX6_withFixer_26 : decode cX6_withFixer 26 = .ok (.if_icmp .lt 6, 3) := by decide +kernel
theorem dX6_withFixer_29 : decode cX6_withFixer 29 = .ok (.bipush (-4), 2) := by decide +kernel
theorem dX6_withFixer_31 : decode cX6_withFixer 31 = .ok (.ireturn, 1) := by decide +kernel
theorem dX6_withFixer_32 : decode cX6_withFixer 32 = .ok (.aload_n 0, 1) := by decide +kernel
theorem dX6_withFixer_33 : decode cX6_withFixer 33 = .ok (.iload_n 1, 1) := by decide +kernel
theorem dX6_withFixer_34 : decode cX6_withFixer 34 = .ok (.iload_n 2, 1) := by decide +kernel
theorem dX6_withFixer_35 : decode cX6_withFixer 35 = .ok (.iload_n 3, 1) := by decide +kernel
theorem dX6_withFixer_36 : decode cX6_withFixer 36 = .ok (.invokevirtual 179, 3) := by decide +kernel
theorem dX6_withFixer_39 : decode cX6_withFixer 39 = .ok (.ireturn, 1) := by decide +kernel
theorem dX6_bestCare_0 : decode cX6_bestCare 0 = .ok (.iload_n 1, 1) := by decide +kernel
theorem dX6_bestCare_1 : decode cX6_bestCare 1 = .ok (.invokestatic 175, 3) := by decide +kernel
theorem dX6_bestCare_4 : decode cX6_bestCare 4 = .ok (.ifCond .ne 6, 3) := by decide +kernel
theorem dX6_bestCare_7 : decode cX6_bestCare 7 = .ok (.bipush (-2), 2) := by decide +kernel
theorem dX6_bestCare_9 : decode cX6_bestCare 9 = .ok (.ireturn, 1) := by decide +kernel
theorem dX6_bestCare_10 : decode cX6_bestCare 10 = .ok (.aload_n 0, 1) := by decide +kernel
theorem dX6_bestCare_11 : decode cX6_bestCare 11 = .ok (.getfield 10, 3) := by decide +kernel
theorem dX6_bestCare_14 : decode cX6_bestCare 14 = .ok (.getfield 145, 3) := by decide +kernel
theorem dX6_bestCare_17 : decode cX6_bestCare 17 = .ok (.iconst 5, 1) := by decide +kernel
theorem dX6_bestCare_18 : decode cX6_bestCare 18 = .ok (.if_icmp .lt 6, 3) := by decide +kernel
theorem dX6_bestCare_21 : decode cX6_bestCare 21 = .ok (.bipush (-4), 2) := by decide +kernel
theorem dX6_bestCare_23 : decode cX6_bestCare 23 = .ok (.ireturn, 1) := by decide +kernel
theorem dX6_bestCare_24 : decode cX6_bestCare 24 = .ok (.iconst 0, 1) := by decide +kernel
theorem dX6_bestCare_25 : decode cX6_bestCare 25 = .ok (.istore_n 2, 1) := by decide +kernel
theorem dX6_bestCare_26 : decode cX6_bestCare 26 = .ok (.iconst (-1), 1) := by decide +kernel
theorem dX6_bestCare_27 : decode cX6_bestCare 27 = .ok (.istore_n 3, 1) := by decide +kernel
theorem dX6_bestCare_28 : decode cX6_bestCare 28 = .ok (.iconst 0, 1) := by decide +kernel
theorem dX6_bestCare_29 : decode cX6_bestCare 29 = .ok (.istore 4, 2) := by decide +kernel
theorem dX6_bestCare_31 : decode cX6_bestCare 31 = .ok (.iload 4, 2) := by decide +kernel
theorem dX6_bestCare_33 : decode cX6_bestCare 33 = .ok (.bipush 9, 2) := by decide +kernel
theorem dX6_bestCare_35 : decode cX6_bestCare 35 = .ok (.if_icmp .gt 32, 3) := by decide +kernel
theorem dX6_bestCare_38 : decode cX6_bestCare 38 = .ok (.aload_n 0, 1) := by decide +kernel
theorem dX6_bestCare_39 : decode cX6_bestCare 39 = .ok (.bipush 63, 2) := by decide +kernel
theorem dX6_bestCare_41 : decode cX6_bestCare 41 = .ok (.iload 4, 2) := by decide +kernel
theorem dX6_bestCare_43 : decode cX6_bestCare 43 = .ok (.iload_n 1, 1) := by decide +kernel
theorem dX6_bestCare_44 : decode cX6_bestCare 44 = .ok (.invokevirtual 179, 3) := by decide +kernel
theorem dX6_bestCare_47 : decode cX6_bestCare 47 = .ok (.istore 5, 2) := by decide +kernel
theorem dX6_bestCare_49 : decode cX6_bestCare 49 = .ok (.iload 5, 2) := by decide +kernel
theorem dX6_bestCare_51 : decode cX6_bestCare 51 = .ok (.iload_n 3, 1) := by decide +kernel
theorem dX6_bestCare_52 : decode cX6_bestCare 52 = .ok (.if_icmp .le 9, 3) := by decide +kernel
theorem dX6_bestCare_55 : decode cX6_bestCare 55 = .ok (.iload 5, 2) := by decide +kernel
theorem dX6_bestCare_57 : decode cX6_bestCare 57 = .ok (.istore_n 3, 1) := by decide +kernel
theorem dX6_bestCare_58 : decode cX6_bestCare 58 = .ok (.iload 4, 2) := by decide +kernel
theorem dX6_bestCare_60 : decode cX6_bestCare 60 = .ok (.istore_n 2, 1) := by decide +kernel
theorem dX6_bestCare_61 : decode cX6_bestCare 61 = .ok (.iinc 4 1, 3) := by decide +kernel
theorem dX6_bestCare_64 : decode cX6_bestCare 64 = .ok (.goto (-33), 3) := by decide +kernel
theorem dX6_bestCare_67 : decode cX6_bestCare 67 = .ok (.iload_n 2, 1) := by decide +kernel
theorem dX6_bestCare_68 : decode cX6_bestCare 68 = .ok (.ireturn, 1) := by decide +kernel
theorem dX6_put_0 : decode cX6_put 0 = .ok (.lload_n 1, 1) := by decide +kernel
theorem dX6_put_1 : decode cX6_put 1 = .ok (.invokestatic 183, 3) := by decide +kernel
theorem dX6_put_4 : decode cX6_put 4 = .ok (.istore_n 3, 1) := by decide +kernel
theorem dX6_put_5 : decode cX6_put 5 = .ok (.iload_n 3, 1) := by decide +kernel
theorem dX6_put_6 : decode cX6_put 6 = .ok (.ifCond .ne 6, 3) := by decide +kernel
theorem dX6_put_9 : decode cX6_put 9 = .ok (.bipush (-2), 2) := by decide +kernel
theorem dX6_put_11 : decode cX6_put 11 = .ok (.ireturn, 1) := by decide +kernel
theorem dX6_put_12 : decode cX6_put 12 = .ok (.aload_n 0, 1) := by decide +kernel
theorem dX6_put_13 : decode cX6_put 13 = .ok (.getfield 33, 3) := by decide +kernel
theorem dX6_put_16 : decode cX6_put 16 = .ok (.getfield 151, 3) := by decide +kernel
theorem dX6_put_19 : decode cX6_put 19 = .ok (.iload_n 3, 1) := by decide +kernel
theorem dX6_put_20 : decode cX6_put 20 = .ok (.iadd, 1) := by decide +kernel
theorem dX6_put_21 : decode cX6_put 21 = .ok (.bipush 80, 2) := by decide +kernel
theorem dX6_put_23 : decode cX6_put 23 = .ok (.if_icmp .le 6, 3) := by decide +kernel
theorem dX6_put_26 : decode cX6_put 26 = .ok (.bipush (-4), 2) := by decide +kernel
theorem dX6_put_28 : decode cX6_put 28 = .ok (.ireturn, 1) := by decide +kernel
theorem dX6_put_29 : decode cX6_put 29 = .ok (.iload_n 3, 1) := by decide +kernel
theorem dX6_put_30 : decode cX6_put 30 = .ok (.iconst 1, 1) := by decide +kernel
theorem dX6_put_31 : decode cX6_put 31 = .ok (.isub, 1) := by decide +kernel
theorem dX6_put_32 : decode cX6_put 32 = .ok (.istore 4, 2) := by decide +kernel
theorem dX6_put_34 : decode cX6_put 34 = .ok (.iload 4, 2) := by decide +kernel
theorem dX6_put_36 : decode cX6_put 36 = .ok (.ifCond .lt 28, 3) := by decide +kernel
theorem dX6_put_39 : decode cX6_put 39 = .ok (.aload_n 0, 1) := by decide +kernel
theorem dX6_put_40 : decode cX6_put 40 = .ok (.getfield 33, 3) := by decide +kernel
theorem dX6_put_43 : decode cX6_put 43 = .ok (.lload_n 1, 1) := by decide +kernel
theorem dX6_put_44 : decode cX6_put 44 = .ok (.bipush 8, 2) := by decide +kernel
theorem dX6_put_46 : decode cX6_put 46 = .ok (.iload 4, 2) := by decide +kernel
theorem dX6_put_48 : decode cX6_put 48 = .ok (.imul, 1) := by decide +kernel
theorem dX6_put_49 : decode cX6_put 49 = .ok (.lushr, 1) := by decide +kernel
theorem dX6_put_50 : decode cX6_put 50 = .ok (.ldc2_w 187, 3) := by decide +kernel
theorem dX6_put_53 : decode cX6_put 53 = .ok (.land, 1) := by decide +kernel
theorem dX6_put_54 : decode cX6_put 54 = .ok (.l2i, 1) := by decide +kernel
theorem dX6_put_55 : decode cX6_put 55 = .ok (.invokevirtual 189, 3) := by decide +kernel
theorem dX6_put_58 : decode cX6_put 58 = .ok (.iinc 4 (-1), 3) := by decide +kernel
theorem dX6_put_61 : decode cX6_put 61 = .ok (.goto (-27), 3) := by decide +kernel
theorem dX6_put_64 : decode cX6_put 64 = .ok (.aload_n 0, 1) := by decide +kernel
theorem dX6_put_65 : decode cX6_put 65 = .ok (.getfield 33, 3) := by decide +kernel
theorem dX6_put_68 : decode cX6_put 68 = .ok (.getfield 151, 3) := by decide +kernel
theorem dX6_put_71 : decode cX6_put 71 = .ok (.ireturn, 1) := by decide +kernel
theorem dX6_wipe_0 : decode cX6_wipe 0 = .ok (.aload_n 0, 1) := by decide +kernel
theorem dX6_wipe_1 : decode cX6_wipe 1 = .ok (.getfield 33, 3) := by decide +kernel
theorem dX6_wipe_4 : decode cX6_wipe 4 = .ok (.getfield 151, 3) := by decide +kernel
theorem dX6_wipe_7 : decode cX6_wipe 7 = .ok (.istore_n 1, 1) := by decide +kernel
theorem dX6_wipe_8 : decode cX6_wipe 8 = .ok (.aload_n 0, 1) := by decide +kernel
theorem dX6_wipe_9 : decode cX6_wipe 9 = .ok (.getfield 33, 3) := by decide +kernel
theorem dX6_wipe_12 : decode cX6_wipe 12 = .ok (.iconst 0, 1) := by decide +kernel
theorem dX6_wipe_13 : decode cX6_wipe 13 = .ok (.putfield 151, 3) := by decide +kernel
theorem dX6_wipe_16 : decode cX6_wipe 16 = .ok (.iload_n 1, 1) := by decide +kernel
theorem dX6_wipe_17 : decode cX6_wipe 17 = .ok (.ireturn, 1) := by decide +kernel
theorem dX6_fault_0 : decode cX6_fault 0 = .ok (.aload_n 0, 1) := by decide +kernel
theorem dX6_fault_1 : decode cX6_fault 1 = .ok (.getfield 33, 3) := by decide +kernel
theorem dX6_fault_4 : decode cX6_fault 4 = .ok (.invokevirtual 193, 3) := by decide +kernel
theorem dX6_fault_7 : decode cX6_fault 7 = .ok (.iconst 0, 1) := by decide +kernel
theorem dX6_fault_8 : decode cX6_fault 8 = .ok (.istore_n 1, 1) := by decide +kernel
theorem dX6_fault_9 : decode cX6_fault 9 = .ok (.iload_n 1, 1) := by decide +kernel
theorem dX6_fault_10 : decode cX6_fault 10 = .ok (.bipush 80, 2) := by decide +kernel
theorem dX6_fault_12 : decode cX6_fault 12 = .ok (.if_icmp .ge 60, 3) := by decide +kernel
theorem dX6_fault_15 : decode cX6_fault 15 = .ok (.aload_n 0, 1) := by decide +kernel
theorem dX6_fault_16 : decode cX6_fault 16 = .ok (.getfield 33, 3) := by decide +kernel
theorem dX6_fault_19 : decode cX6_fault 19 = .ok (.invokevirtual 196, 3) := by decide +kernel
theorem dX6_fault_22 : decode cX6_fault 22 = .ok (.ifCond .ne 11, 3) := by decide +kernel
theorem dX6_fault_25 : decode cX6_fault 25 = .ok (.aload_n 0, 1) := by decide +kernel
theorem dX6_fault_26 : decode cX6_fault 26 = .ok (.getfield 33, 3) := by decide +kernel
theorem dX6_fault_29 : decode cX6_fault 29 = .ok (.getfield 199, 3) := by decide +kernel
theorem dX6_fault_32 : decode cX6_fault 32 = .ok (.ireturn, 1) := by decide +kernel
theorem dX6_fault_33 : decode cX6_fault 33 = .ok (.aload_n 0, 1) := by decide +kernel
theorem dX6_fault_34 : decode cX6_fault 34 = .ok (.getfield 33, 3) := by decide +kernel
theorem dX6_fault_37 : decode cX6_fault 37 = .ok (.invokevirtual 202, 3) := by decide +kernel
theorem dX6_fault_40 : decode cX6_fault 40 = .ok (.ifCond .eq 6, 3) := by decide +kernel
theorem dX6_fault_43 : decode cX6_fault 43 = .ok (.bipush (-6), 2) := by decide +kernel
theorem dX6_fault_45 : decode cX6_fault 45 = .ok (.ireturn, 1) := by decide +kernel
theorem dX6_fault_46 : decode cX6_fault 46 = .ok (.aload_n 0, 1) := by decide +kernel
theorem dX6_fault_47 : decode cX6_fault 47 = .ok (.getfield 33, 3) := by decide +kernel
theorem dX6_fault_50 : decode cX6_fault 50 = .ok (.bipush 59, 2) := by decide +kernel
theorem dX6_fault_52 : decode cX6_fault 52 = .ok (.invokevirtual 205, 3) := by decide +kernel
theorem dX6_fault_55 : decode cX6_fault 55 = .ok (.ifCond .ne 11, 3) := by decide +kernel
theorem dX6_fault_58 : decode cX6_fault 58 = .ok (.aload_n 0, 1) := by decide +kernel
theorem dX6_fault_59 : decode cX6_fault 59 = .ok (.getfield 33, 3) := by decide +kernel
theorem dX6_fault_62 : decode cX6_fault 62 = .ok (.getfield 199, 3) := by decide +kernel
theorem dX6_fault_65 : decode cX6_fault 65 = .ok (.ireturn, 1) := by decide +kernel
theorem dX6_fault_66 : decode cX6_fault 66 = .ok (.iinc 1 1, 3) := by decide +kernel
theorem dX6_fault_69 : decode cX6_fault 69 = .ok (.goto (-60), 3) := by decide +kernel
theorem dX6_fault_72 : decode cX6_fault 72 = .ok (.aload_n 0, 1) := by decide +kernel
theorem dX6_fault_73 : decode cX6_fault 73 = .ok (.getfield 33, 3) := by decide +kernel
theorem dX6_fault_76 : decode cX6_fault 76 = .ok (.getfield 199, 3) := by decide +kernel
theorem dX6_fault_79 : decode cX6_fault 79 = .ok (.ireturn, 1) := by decide +kernel
theorem dX6_carryOut_0 : decode cX6_carryOut 0 = .ok (.aload_n 0, 1) := by decide +kernel
theorem dX6_carryOut_1 : decode cX6_carryOut 1 = .ok (.invokevirtual 208, 3) := by decide +kernel
theorem dX6_carryOut_4 : decode cX6_carryOut 4 = .ok (.bipush (-6), 2) := by decide +kernel
theorem dX6_carryOut_6 : decode cX6_carryOut 6 = .ok (.if_icmp .eq 6, 3) := by decide +kernel
theorem dX6_carryOut_9 : decode cX6_carryOut 9 = .ok (.bipush (-3), 2) := by decide +kernel
theorem dX6_carryOut_11 : decode cX6_carryOut 11 = .ok (.ireturn, 1) := by decide +kernel
theorem dX6_carryOut_12 : decode cX6_carryOut 12 = .ok (.aload_n 0, 1) := by decide +kernel
theorem dX6_carryOut_13 : decode cX6_carryOut 13 = .ok (.getfield 22, 3) := by decide +kernel
theorem dX6_carryOut_16 : decode cX6_carryOut 16 = .ok (.aload_n 0, 1) := by decide +kernel
theorem dX6_carryOut_17 : decode cX6_carryOut 17 = .ok (.getfield 10, 3) := by decide +kernel
theorem dX6_carryOut_20 : decode cX6_carryOut 20 = .ok (.invokevirtual 37, 3) := by decide +kernel
theorem dX6_carryOut_23 : decode cX6_carryOut 23 = .ok (.aload_n 0, 1) := by decide +kernel
theorem dX6_carryOut_24 : decode cX6_carryOut 24 = .ok (.getfield 22, 3) := by decide +kernel
theorem dX6_carryOut_27 : decode cX6_carryOut 27 = .ok (.invokevirtual 211, 3) := by decide +kernel
theorem dX6_carryOut_30 : decode cX6_carryOut 30 = .ok (.iconst 0, 1) := by decide +kernel
theorem dX6_carryOut_31 : decode cX6_carryOut 31 = .ok (.istore_n 1, 1) := by decide +kernel
theorem dX6_carryOut_32 : decode cX6_carryOut 32 = .ok (.aload_n 0, 1) := by decide +kernel
theorem dX6_carryOut_33 : decode cX6_carryOut 33 = .ok (.getfield 33, 3) := by decide +kernel
theorem dX6_carryOut_36 : decode cX6_carryOut 36 = .ok (.invokevirtual 193, 3) := by decide +kernel
theorem dX6_carryOut_39 : decode cX6_carryOut 39 = .ok (.iload_n 1, 1) := by decide +kernel
theorem dX6_carryOut_40 : decode cX6_carryOut 40 = .ok (.bipush 80, 2) := by decide +kernel
theorem dX6_carryOut_42 : decode cX6_carryOut 42 = .ok (.if_icmp .ge 36, 3) := by decide +kernel
theorem dX6_carryOut_45 : decode cX6_carryOut 45 = .ok (.aload_n 0, 1) := by decide +kernel
theorem dX6_carryOut_46 : decode cX6_carryOut 46 = .ok (.getfield 33, 3) := by decide +kernel
theorem dX6_carryOut_49 : decode cX6_carryOut 49 = .ok (.invokevirtual 196, 3) := by decide +kernel
theorem dX6_carryOut_52 : decode cX6_carryOut 52 = .ok (.ifCond .eq 26, 3) := by decide +kernel
theorem dX6_carryOut_55 : decode cX6_carryOut 55 = .ok (.aload_n 0, 1) := by decide +kernel
theorem dX6_carryOut_56 : decode cX6_carryOut 56 = .ok (.invokevirtual 214, 3) := by decide +kernel
theorem dX6_carryOut_59 : decode cX6_carryOut 59 = .ok (.ifCond .lt 19, 3) := by decide +kernel
theorem dX6_carryOut_62 : decode cX6_carryOut 62 = .ok (.iinc 1 1, 3) := by decide +kernel
theorem dX6_carryOut_65 : decode cX6_carryOut 65 = .ok (.aload_n 0, 1) := by decide +kernel
theorem dX6_carryOut_66 : decode cX6_carryOut 66 = .ok (.getfield 33, 3) := by decide +kernel
theorem dX6_carryOut_69 : decode cX6_carryOut 69 = .ok (.bipush 59, 2) := by decide +kernel
theorem dX6_carryOut_71 : decode cX6_carryOut 71 = .ok (.invokevirtual 205, 3) := by decide +kernel
theorem dX6_carryOut_74 : decode cX6_carryOut 74 = .ok (.pop, 1) := by decide +kernel
theorem dX6_carryOut_75 : decode cX6_carryOut 75 = .ok (.goto (-36), 3) := by decide +kernel
theorem dX6_carryOut_78 : decode cX6_carryOut 78 = .ok (.aload_n 0, 1) := by decide +kernel
theorem dX6_carryOut_79 : decode cX6_carryOut 79 = .ok (.getfield 33, 3) := by decide +kernel
theorem dX6_carryOut_82 : decode cX6_carryOut 82 = .ok (.iconst 0, 1) := by decide +kernel
theorem dX6_carryOut_83 : decode cX6_carryOut 83 = .ok (.putfield 151, 3) := by decide +kernel
theorem dX6_carryOut_86 : decode cX6_carryOut 86 = .ok (.iload_n 1, 1) := by decide +kernel
theorem dX6_carryOut_87 : decode cX6_carryOut 87 = .ok (.ireturn, 1) := by decide +kernel
theorem dX6_undo_0 : decode cX6_undo 0 = .ok (.aload_n 0, 1) := by decide +kernel
theorem dX6_undo_1 : decode cX6_undo 1 = .ok (.getfield 22, 3) := by decide +kernel
theorem dX6_undo_4 : decode cX6_undo 4 = .ok (.getfield 154, 3) := by decide +kernel
theorem dX6_undo_7 : decode cX6_undo 7 = .ok (.ifCond .gt 6, 3) := by decide +kernel
theorem dX6_undo_10 : decode cX6_undo 10 = .ok (.bipush (-5), 2) := by decide +kernel
theorem dX6_undo_12 : decode cX6_undo 12 = .ok (.ireturn, 1) := by decide +kernel
theorem dX6_undo_13 : decode cX6_undo 13 = .ok (.aload_n 0, 1) := by decide +kernel
theorem dX6_undo_14 : decode cX6_undo 14 = .ok (.getfield 22, 3) := by decide +kernel
theorem dX6_undo_17 : decode cX6_undo 17 = .ok (.aload_n 0, 1) := by decide +kernel
theorem dX6_undo_18 : decode cX6_undo 18 = .ok (.getfield 10, 3) := by decide +kernel
theorem dX6_undo_21 : decode cX6_undo 21 = .ok (.invokevirtual 217, 3) := by decide +kernel
theorem dX6_undo_24 : decode cX6_undo 24 = .ok (.aload_n 0, 1) := by decide +kernel
theorem dX6_undo_25 : decode cX6_undo 25 = .ok (.getfield 22, 3) := by decide +kernel
theorem dX6_undo_28 : decode cX6_undo 28 = .ok (.getfield 154, 3) := by decide +kernel
theorem dX6_undo_31 : decode cX6_undo 31 = .ok (.ireturn, 1) := by decide +kernel
theorem dX6_save_0 : decode cX6_save 0 = .ok (.iload_n 1, 1) := by decide +kernel
theorem dX6_save_1 : decode cX6_save 1 = .ok (.ifCond .lt 12, 3) := by decide +kernel
theorem dX6_save_4 : decode cX6_save 4 = .ok (.iload_n 1, 1) := by decide +kernel
theorem dX6_save_5 : decode cX6_save 5 = .ok (.aload_n 0, 1) := by decide +kernel
theorem dX6_save_6 : decode cX6_save 6 = .ok (.getfield 26, 3) := by decide +kernel
theorem dX6_save_9 : decode cX6_save 9 = .ok (.arraylength, 1) := by decide +kernel
theorem dX6_save_10 : decode cX6_save 10 = .ok (.if_icmp .lt 6, 3) := by decide +kernel
theorem dX6_save_13 : decode cX6_save 13 = .ok (.bipush (-2), 2) := by decide +kernel
theorem dX6_save_15 : decode cX6_save 15 = .ok (.ireturn, 1) := by decide +kernel
theorem dX6_save_16 : decode cX6_save 16 = .ok (.aload_n 0, 1) := by decide +kernel
theorem dX6_save_17 : decode cX6_save 17 = .ok (.getfield 26, 3) := by decide +kernel
theorem dX6_save_20 : decode cX6_save 20 = .ok (.iload_n 1, 1) := by decide +kernel
theorem dX6_save_21 : decode cX6_save 21 = .ok (.aaload, 1) := by decide +kernel
theorem dX6_save_22 : decode cX6_save 22 = .ok (.astore_n 2, 1) := by decide +kernel
theorem dX6_save_23 : decode cX6_save 23 = .ok (.aload_n 2, 1) := by decide +kernel
theorem dX6_save_24 : decode cX6_save 24 = .ok (.ifnonnull 18, 3) := by decide +kernel
theorem dX6_save_27 : decode cX6_save 27 = .ok (.new 7, 3) := by decide +kernel
theorem dX6_save_30 : decode cX6_save 30 = .ok (.dup, 1) := by decide +kernel
theorem dX6_save_31 : decode cX6_save 31 = .ok (.invokespecial 9, 3) := by decide +kernel
theorem dX6_save_34 : decode cX6_save 34 = .ok (.astore_n 2, 1) := by decide +kernel
theorem dX6_save_35 : decode cX6_save 35 = .ok (.aload_n 0, 1) := by decide +kernel
theorem dX6_save_36 : decode cX6_save 36 = .ok (.getfield 26, 3) := by decide +kernel
theorem dX6_save_39 : decode cX6_save 39 = .ok (.iload_n 1, 1) := by decide +kernel
theorem dX6_save_40 : decode cX6_save 40 = .ok (.aload_n 2, 1) := by decide +kernel
theorem dX6_save_41 : decode cX6_save 41 = .ok (.aastore, 1) := by decide +kernel
theorem dX6_save_42 : decode cX6_save 42 = .ok (.aload_n 2, 1) := by decide +kernel
theorem dX6_save_43 : decode cX6_save 43 = .ok (.aload_n 0, 1) := by decide +kernel
theorem dX6_save_44 : decode cX6_save 44 = .ok (.getfield 10, 3) := by decide +kernel
theorem dX6_save_47 : decode cX6_save 47 = .ok (.invokevirtual 160, 3) := by decide +kernel
theorem dX6_save_50 : decode cX6_save 50 = .ok (.aload_n 0, 1) := by decide +kernel
theorem dX6_save_51 : decode cX6_save 51 = .ok (.getfield 10, 3) := by decide +kernel
theorem dX6_save_54 : decode cX6_save 54 = .ok (.getfield 142, 3) := by decide +kernel
theorem dX6_save_57 : decode cX6_save 57 = .ok (.ireturn, 1) := by decide +kernel
theorem dX6_restore_0 : decode cX6_restore 0 = .ok (.iload_n 1, 1) := by decide +kernel
theorem dX6_restore_1 : decode cX6_restore 1 = .ok (.ifCond .lt 12, 3) := by decide +kernel
theorem dX6_restore_4 : decode cX6_restore 4 = .ok (.iload_n 1, 1) := by decide +kernel
theorem dX6_restore_5 : decode cX6_restore 5 = .ok (.aload_n 0, 1) := by decide +kernel
theorem dX6_restore_6 : decode cX6_restore 6 = .ok (.getfield 26, 3) := by decide +kernel
theorem dX6_restore_9 : decode cX6_restore 9 = .ok (.arraylength, 1) := by decide +kernel
theorem dX6_restore_10 : decode cX6_restore 10 = .ok (.if_icmp .lt 6, 3) := by decide +kernel
theorem dX6_restore_13 : decode cX6_restore 13 = .ok (.bipush (-2), 2) := by decide +kernel
theorem dX6_restore_15 : decode cX6_restore 15 = .ok (.ireturn, 1) := by decide +kernel
theorem dX6_restore_16 : decode cX6_restore 16 = .ok (.aload_n 0, 1) := by decide +kernel
theorem dX6_restore_17 : decode cX6_restore 17 = .ok (.getfield 26, 3) := by decide +kernel
theorem dX6_restore_20 : decode cX6_restore 20 = .ok (.iload_n 1, 1) := by decide +kernel
theorem dX6_restore_21 : decode cX6_restore 21 = .ok (.aaload, 1) := by decide +kernel
theorem dX6_restore_22 : decode cX6_restore 22 = .ok (.astore_n 2, 1) := by decide +kernel
theorem dX6_restore_23 : decode cX6_restore 23 = .ok (.aload_n 2, 1) := by decide +kernel
theorem dX6_restore_24 : decode cX6_restore 24 = .ok (.ifnonnull 6, 3) := by decide +kernel
theorem dX6_restore_27 : decode cX6_restore 27 = .ok (.bipush (-5), 2) := by decide +kernel
theorem dX6_restore_29 : decode cX6_restore 29 = .ok (.ireturn, 1) := by decide +kernel
theorem dX6_restore_30 : decode cX6_restore 30 = .ok (.aload_n 0, 1) := by decide +kernel
theorem dX6_restore_31 : decode cX6_restore 31 = .ok (.getfield 22, 3) := by decide +kernel
theorem dX6_restore_34 : decode cX6_restore 34 = .ok (.aload_n 0, 1) := by decide +kernel
theorem dX6_restore_35 : decode cX6_restore 35 = .ok (.getfield 10, 3) := by decide +kernel
theorem dX6_restore_38 : decode cX6_restore 38 = .ok (.invokevirtual 37, 3) := by decide +kernel
theorem dX6_restore_41 : decode cX6_restore 41 = .ok (.aload_n 0, 1) := by decide +kernel
theorem dX6_restore_42 : decode cX6_restore 42 = .ok (.getfield 22, 3) := by decide +kernel
theorem dX6_restore_45 : decode cX6_restore 45 = .ok (.invokevirtual 211, 3) := by decide +kernel
theorem dX6_restore_48 : decode cX6_restore 48 = .ok (.aload_n 0, 1) := by decide +kernel
theorem dX6_restore_49 : decode cX6_restore 49 = .ok (.getfield 10, 3) := by decide +kernel
theorem dX6_restore_52 : decode cX6_restore 52 = .ok (.aload_n 2, 1) := by decide +kernel
theorem dX6_restore_53 : decode cX6_restore 53 = .ok (.invokevirtual 160, 3) := by decide +kernel
theorem dX6_restore_56 : decode cX6_restore 56 = .ok (.aload_n 0, 1) := by decide +kernel
theorem dX6_restore_57 : decode cX6_restore 57 = .ok (.getfield 10, 3) := by decide +kernel
theorem dX6_restore_60 : decode cX6_restore 60 = .ok (.getfield 142, 3) := by decide +kernel
theorem dX6_restore_63 : decode cX6_restore 63 = .ok (.ireturn, 1) := by decide +kernel
theorem dX6_kept_0 : decode cX6_kept 0 = .ok (.iload_n 1, 1) := by decide +kernel
theorem dX6_kept_1 : decode cX6_kept 1 = .ok (.ifCond .lt 10, 3) := by decide +kernel
theorem dX6_kept_4 : decode cX6_kept 4 = .ok (.aload_n 0, 1) := by decide +kernel
theorem dX6_kept_5 : decode cX6_kept 5 = .ok (.getfield 22, 3) := by decide +kernel
theorem dX6_kept_8 : decode cX6_kept 8 = .ok (.invokevirtual 211, 3) := by decide +kernel
theorem dX6_kept_11 : decode cX6_kept 11 = .ok (.iload_n 1, 1) := by decide +kernel
theorem dX6_kept_12 : decode cX6_kept 12 = .ok (.ireturn, 1) := by decide +kernel
theorem dX6_repairedWith_0 : decode cX6_repairedWith 0 = .ok (.aload_n 0, 1) := by decide +kernel
theorem dX6_repairedWith_1 : decode cX6_repairedWith 1 = .ok (.getfield 16, 3) := by decide +kernel
theorem dX6_repairedWith_4 : decode cX6_repairedWith 4 = .ok (.aload_n 0, 1) := by decide +kernel
theorem dX6_repairedWith_5 : decode cX6_repairedWith 5 = .ok (.getfield 10, 3) := by decide +kernel
theorem dX6_repairedWith_8 : decode cX6_repairedWith 8 = .ok (.invokevirtual 160, 3) := by decide +kernel
theorem dX6_repairedWith_11 : decode cX6_repairedWith 11 = .ok (.aload_n 0, 1) := by decide +kernel
theorem dX6_repairedWith_12 : decode cX6_repairedWith 12 = .ok (.getfield 16, 3) := by decide +kernel
theorem dX6_repairedWith_15 : decode cX6_repairedWith 15 = .ok (.iload_n 1, 1) := by decide +kernel
theorem dX6_repairedWith_16 : decode cX6_repairedWith 16 = .ok (.iload_n 2, 1) := by decide +kernel
theorem dX6_repairedWith_17 : decode cX6_repairedWith 17 = .ok (.invokevirtual 49, 3) := by decide +kernel
theorem dX6_repairedWith_20 : decode cX6_repairedWith 20 = .ok (.pop, 1) := by decide +kernel
theorem dX6_repairedWith_21 : decode cX6_repairedWith 21 = .ok (.aload_n 0, 1) := by decide +kernel
theorem dX6_repairedWith_22 : decode cX6_repairedWith 22 = .ok (.getfield 16, 3) := by decide +kernel
theorem dX6_repairedWith_25 : decode cX6_repairedWith 25 = .ok (.iload_n 3, 1) := by decide +kernel
theorem dX6_repairedWith_26 : decode cX6_repairedWith 26 = .ok (.invokevirtual 220, 3) := by decide +kernel
theorem dX6_repairedWith_29 : decode cX6_repairedWith 29 = .ok (.ireturn, 1) := by decide +kernel
theorem dX6_carryOrder_0 : decode cX6_carryOrder 0 = .ok (.aload_n 0, 1) := by decide +kernel
theorem dX6_carryOrder_1 : decode cX6_carryOrder 1 = .ok (.getfield 33, 3) := by decide +kernel
theorem dX6_carryOrder_4 : decode cX6_carryOrder 4 = .ok (.getfield 223, 3) := by decide +kernel
theorem dX6_carryOrder_7 : decode cX6_carryOrder 7 = .ok (.lookupswitch 113 #[(43, 33), (100, 91), (102, 69)], 33) := by decide +kernel
theorem dX6_carryOrder_40 : decode cX6_carryOrder 40 = .ok (.aload_n 0, 1) := by decide +kernel
theorem dX6_carryOrder_41 : decode cX6_carryOrder 41 = .ok (.getfield 10, 3) := by decide +kernel
theorem dX6_carryOrder_44 : decode cX6_carryOrder 44 = .ok (.aload_n 0, 1) := by decide +kernel
theorem dX6_carryOrder_45 : decode cX6_carryOrder 45 = .ok (.getfield 33, 3) := by decide +kernel
theorem dX6_carryOrder_48 : decode cX6_carryOrder 48 = .ok (.getfield 226, 3) := by decide +kernel
theorem dX6_carryOrder_51 : decode cX6_carryOrder 51 = .ok (.aload_n 0, 1) := by decide +kernel
theorem dX6_carryOrder_52 : decode cX6_carryOrder 52 = .ok (.getfield 33, 3) := by decide +kernel
theorem dX6_carryOrder_55 : decode cX6_carryOrder 55 = .ok (.getfield 229, 3) := by decide +kernel
theorem dX6_carryOrder_58 : decode cX6_carryOrder 58 = .ok (.aload_n 0, 1) := by decide +kernel
theorem dX6_carryOrder_59 : decode cX6_carryOrder 59 = .ok (.getfield 33, 3) := by decide +kernel
theorem dX6_carryOrder_62 : decode cX6_carryOrder 62 = .ok (.getfield 232, 3) := by decide +kernel
theorem dX6_carryOrder_65 : decode cX6_carryOrder 65 = .ok (.aload_n 0, 1) := by decide +kernel
theorem dX6_carryOrder_66 : decode cX6_carryOrder 66 = .ok (.getfield 33, 3) := by decide +kernel
theorem dX6_carryOrder_69 : decode cX6_carryOrder 69 = .ok (.getfield 235, 3) := by decide +kernel
theorem dX6_carryOrder_72 : decode cX6_carryOrder 72 = .ok (.invokevirtual 41, 3) := by decide +kernel
theorem dX6_carryOrder_75 : decode cX6_carryOrder 75 = .ok (.ireturn, 1) := by decide +kernel
theorem dX6_carryOrder_76 : decode cX6_carryOrder 76 = .ok (.aload_n 0, 1) := by decide +kernel
theorem dX6_carryOrder_77 : decode cX6_carryOrder 77 = .ok (.getfield 10, 3) := by decide +kernel
theorem dX6_carryOrder_80 : decode cX6_carryOrder 80 = .ok (.aload_n 0, 1) := by decide +kernel
theorem dX6_carryOrder_81 : decode cX6_carryOrder 81 = .ok (.getfield 33, 3) := by decide +kernel
theorem dX6_carryOrder_84 : decode cX6_carryOrder 84 = .ok (.getfield 229, 3) := by decide +kernel
theorem dX6_carryOrder_87 : decode cX6_carryOrder 87 = .ok (.aload_n 0, 1) := by decide +kernel
theorem dX6_carryOrder_88 : decode cX6_carryOrder 88 = .ok (.getfield 33, 3) := by decide +kernel
theorem dX6_carryOrder_91 : decode cX6_carryOrder 91 = .ok (.getfield 235, 3) := by decide +kernel
theorem dX6_carryOrder_94 : decode cX6_carryOrder 94 = .ok (.invokevirtual 49, 3) := by decide +kernel
theorem dX6_carryOrder_97 : decode cX6_carryOrder 97 = .ok (.ireturn, 1) := by decide +kernel
theorem dX6_carryOrder_98 : decode cX6_carryOrder 98 = .ok (.aload_n 0, 1) := by decide +kernel
theorem dX6_carryOrder_99 : decode cX6_carryOrder 99 = .ok (.getfield 10, 3) := by decide +kernel
theorem dX6_carryOrder_102 : decode cX6_carryOrder 102 = .ok (.aload_n 0, 1) := by decide +kernel
theorem dX6_carryOrder_103 : decode cX6_carryOrder 103 = .ok (.getfield 33, 3) := by decide +kernel
theorem dX6_carryOrder_106 : decode cX6_carryOrder 106 = .ok (.getfield 226, 3) := by decide +kernel
theorem dX6_carryOrder_109 : decode cX6_carryOrder 109 = .ok (.aload_n 0, 1) := by decide +kernel
theorem dX6_carryOrder_110 : decode cX6_carryOrder 110 = .ok (.getfield 33, 3) := by decide +kernel
theorem dX6_carryOrder_113 : decode cX6_carryOrder 113 = .ok (.getfield 232, 3) := by decide +kernel
theorem dX6_carryOrder_116 : decode cX6_carryOrder 116 = .ok (.invokevirtual 53, 3) := by decide +kernel
theorem dX6_carryOrder_119 : decode cX6_carryOrder 119 = .ok (.ireturn, 1) := by decide +kernel
theorem dX6_carryOrder_120 : decode cX6_carryOrder 120 = .ok (.aload_n 0, 1) := by decide +kernel
theorem dX6_carryOrder_121 : decode cX6_carryOrder 121 = .ok (.getfield 10, 3) := by decide +kernel
theorem dX6_carryOrder_124 : decode cX6_carryOrder 124 = .ok (.aload_n 0, 1) := by decide +kernel
theorem dX6_carryOrder_125 : decode cX6_carryOrder 125 = .ok (.getfield 33, 3) := by decide +kernel
theorem dX6_carryOrder_128 : decode cX6_carryOrder 128 = .ok (.getfield 232, 3) := by decide +kernel
theorem dX6_carryOrder_131 : decode cX6_carryOrder 131 = .ok (.invokevirtual 59, 3) := by decide +kernel
theorem dX6_carryOrder_134 : decode cX6_carryOrder 134 = .ok (.ireturn, 1) := by decide +kernel
theorem dX6_signsIn_0 : decode cX6_signsIn 0 = .ok (.lload_n 0, 1) := by decide +kernel
theorem dX6_signsIn_1 : decode cX6_signsIn 1 = .ok (.lstore_n 2, 1) := by decide +kernel
theorem dX6_signsIn_2 : decode cX6_signsIn 2 = .ok (.iconst 0, 1) := by decide +kernel
theorem dX6_signsIn_3 : decode cX6_signsIn 3 = .ok (.istore 4, 2) := by decide +kernel
theorem dX6_signsIn_5 : decode cX6_signsIn 5 = .ok (.iconst 0, 1) := by decide +kernel
theorem dX6_signsIn_6 : decode cX6_signsIn 6 = .ok (.istore 5, 2) := by decide +kernel
theorem dX6_signsIn_8 : decode cX6_signsIn 8 = .ok (.iload 5, 2) := by decide +kernel
theorem dX6_signsIn_10 : decode cX6_signsIn 10 = .ok (.bipush 8, 2) := by decide +kernel
theorem dX6_signsIn_12 : decode cX6_signsIn 12 = .ok (.if_icmp .ge 47, 3) := by decide +kernel
theorem dX6_signsIn_15 : decode cX6_signsIn 15 = .ok (.lload_n 2, 1) := by decide +kernel
theorem dX6_signsIn_16 : decode cX6_signsIn 16 = .ok (.lconst 0, 1) := by decide +kernel
theorem dX6_signsIn_17 : decode cX6_signsIn 17 = .ok (.lcmp, 1) := by decide +kernel
theorem dX6_signsIn_18 : decode cX6_signsIn 18 = .ok (.ifCond .eq 41, 3) := by decide +kernel
theorem dX6_signsIn_21 : decode cX6_signsIn 21 = .ok (.lload_n 2, 1) := by decide +kernel
theorem dX6_signsIn_22 : decode cX6_signsIn 22 = .ok (.ldc2_w 187, 3) := by decide +kernel
theorem dX6_signsIn_25 : decode cX6_signsIn 25 = .ok (.land, 1) := by decide +kernel
theorem dX6_signsIn_26 : decode cX6_signsIn 26 = .ok (.l2i, 1) := by decide +kernel
theorem dX6_signsIn_27 : decode cX6_signsIn 27 = .ok (.istore 6, 2) := by decide +kernel
theorem dX6_signsIn_29 : decode cX6_signsIn 29 = .ok (.iload 6, 2) := by decide +kernel
theorem dX6_signsIn_31 : decode cX6_signsIn 31 = .ok (.bipush 33, 2) := by decide +kernel
theorem dX6_signsIn_33 : decode cX6_signsIn 33 = .ok (.if_icmp .lt 10, 3) := by decide +kernel
theorem dX6_signsIn_36 : decode cX6_signsIn 36 = .ok (.iload 6, 2) := by decide +kernel
theorem dX6_signsIn_38 : decode cX6_signsIn 38 = .ok (.bipush 126, 2) := by decide +kernel
theorem dX6_signsIn_40 : decode cX6_signsIn 40 = .ok (.if_icmp .le 5, 3) := by decide +kernel
theorem dX6_signsIn_43 : decode cX6_signsIn 43 = .ok (.iconst 0, 1) := by decide +kernel
theorem dX6_signsIn_44 : decode cX6_signsIn 44 = .ok (.ireturn, 1) := by decide +kernel
theorem dX6_signsIn_45 : decode cX6_signsIn 45 = .ok (.lload_n 2, 1) := by decide +kernel
theorem dX6_signsIn_46 : decode cX6_signsIn 46 = .ok (.bipush 8, 2) := by decide +kernel
theorem dX6_signsIn_48 : decode cX6_signsIn 48 = .ok (.lushr, 1) := by decide +kernel
theorem dX6_signsIn_49 : decode cX6_signsIn 49 = .ok (.lstore_n 2, 1) := by decide +kernel
theorem dX6_signsIn_50 : decode cX6_signsIn 50 = .ok (.iinc 4 1, 3) := by decide +kernel
theorem dX6_signsIn_53 : decode cX6_signsIn 53 = .ok (.iinc 5 1, 3) := by decide +kernel
theorem dX6_signsIn_56 : decode cX6_signsIn 56 = .ok (.goto (-48), 3) := by decide +kernel
theorem dX6_signsIn_59 : decode cX6_signsIn 59 = .ok (.iload 4, 2) := by decide +kernel
theorem dX6_signsIn_61 : decode cX6_signsIn 61 = .ok (.ireturn, 1) := by decide +kernel
theorem dX6_isFixer_0 : decode cX6_isFixer 0 = .ok (.iload_n 0, 1) := by decide +kernel
theorem dX6_isFixer_1 : decode cX6_isFixer 1 = .ok (.iconst 1, 1) := by decide +kernel
theorem dX6_isFixer_2 : decode cX6_isFixer 2 = .ok (.if_icmp .lt 23, 3) := by decide +kernel
theorem dX6_isFixer_5 : decode cX6_isFixer 5 = .ok (.iload_n 0, 1) := by decide +kernel
theorem dX6_isFixer_6 : decode cX6_isFixer 6 = .ok (.bipush 63, 2) := by decide +kernel
theorem dX6_isFixer_8 : decode cX6_isFixer 8 = .ok (.if_icmp .gt 17, 3) := by decide +kernel
theorem dX6_isFixer_11 : decode cX6_isFixer 11 = .ok (.iload_n 1, 1) := by decide +kernel
theorem dX6_isFixer_12 : decode cX6_isFixer 12 = .ok (.ifCond .lt 13, 3) := by decide +kernel
theorem dX6_isFixer_15 : decode cX6_isFixer 15 = .ok (.iload_n 1, 1) := by decide +kernel
theorem dX6_isFixer_16 : decode cX6_isFixer 16 = .ok (.bipush 9, 2) := by decide +kernel
theorem dX6_isFixer_18 : decode cX6_isFixer 18 = .ok (.if_icmp .gt 7, 3) := by decide +kernel
theorem dX6_isFixer_21 : decode cX6_isFixer 21 = .ok (.iconst 1, 1) := by decide +kernel
theorem dX6_isFixer_22 : decode cX6_isFixer 22 = .ok (.goto 4, 3) := by decide +kernel
theorem dX6_isFixer_25 : decode cX6_isFixer 25 = .ok (.iconst 0, 1) := by decide +kernel
theorem dX6_isFixer_26 : decode cX6_isFixer 26 = .ok (.ireturn, 1) := by decide +kernel
theorem dX6_isWhatIf_0 : decode cX6_isWhatIf 0 = .ok (.iload_n 0, 1) := by decide +kernel
theorem dX6_isWhatIf_1 : decode cX6_isWhatIf 1 = .ok (.iconst 1, 1) := by decide +kernel
theorem dX6_isWhatIf_2 : decode cX6_isWhatIf 2 = .ok (.if_icmp .lt 14, 3) := by decide +kernel
theorem dX6_isWhatIf_5 : decode cX6_isWhatIf 5 = .ok (.iload_n 0, 1) := by decide +kernel
theorem dX6_isWhatIf_6 : decode cX6_isWhatIf 6 = .ok (.sipush 300, 3) := by decide +kernel
theorem dX6_isWhatIf_9 : decode cX6_isWhatIf 9 = .ok (.if_icmp .gt 7, 3) := by decide +kernel
theorem dX6_isWhatIf_12 : decode cX6_isWhatIf 12 = .ok (.iconst 1, 1) := by decide +kernel
theorem dX6_isWhatIf_13 : decode cX6_isWhatIf 13 = .ok (.goto 4, 3) := by decide +kernel
theorem dX6_isWhatIf_16 : decode cX6_isWhatIf 16 = .ok (.iconst 0, 1) := by decide +kernel
theorem dX6_isWhatIf_17 : decode cX6_isWhatIf 17 = .ok (.ireturn, 1) := by decide +kernel
theorem dX6_isIn_0 : decode cX6_isIn 0 = .ok (.iload_n 0, 1) := by decide +kernel
theorem dX6_isIn_1 : decode cX6_isIn 1 = .ok (.iload_n 1, 1) := by decide +kernel
theorem dX6_isIn_2 : decode cX6_isIn 2 = .ok (.ishr, 1) := by decide +kernel
theorem dX6_isIn_3 : decode cX6_isIn 3 = .ok (.iconst 1, 1) := by decide +kernel
theorem dX6_isIn_4 : decode cX6_isIn 4 = .ok (.iand, 1) := by decide +kernel
theorem dX6_isIn_5 : decode cX6_isIn 5 = .ok (.ifCond .eq 7, 3) := by decide +kernel
theorem dX6_isIn_8 : decode cX6_isIn 8 = .ok (.iconst 1, 1) := by decide +kernel
theorem dX6_isIn_9 : decode cX6_isIn 9 = .ok (.goto 4, 3) := by decide +kernel
theorem dX6_isIn_12 : decode cX6_isIn 12 = .ok (.iconst 0, 1) := by decide +kernel
theorem dX6_isIn_13 : decode cX6_isIn 13 = .ok (.ireturn, 1) := by decide +kernel
theorem dX6_partsOf_0 : decode cX6_partsOf 0 = .ok (.iconst 0, 1) := by decide +kernel
theorem dX6_partsOf_1 : decode cX6_partsOf 1 = .ok (.istore_n 1, 1) := by decide +kernel
theorem dX6_partsOf_2 : decode cX6_partsOf 2 = .ok (.iconst 0, 1) := by decide +kernel
theorem dX6_partsOf_3 : decode cX6_partsOf 3 = .ok (.istore_n 2, 1) := by decide +kernel
theorem dX6_partsOf_4 : decode cX6_partsOf 4 = .ok (.iload_n 2, 1) := by decide +kernel
theorem dX6_partsOf_5 : decode cX6_partsOf 5 = .ok (.iconst 3, 1) := by decide +kernel
theorem dX6_partsOf_6 : decode cX6_partsOf 6 = .ok (.if_icmp .ge 20, 3) := by decide +kernel
theorem dX6_partsOf_9 : decode cX6_partsOf 9 = .ok (.iload_n 1, 1) := by decide +kernel
theorem dX6_partsOf_10 : decode cX6_partsOf 10 = .ok (.iconst 1, 1) := by decide +kernel
theorem dX6_partsOf_11 : decode cX6_partsOf 11 = .ok (.iload_n 0, 1) := by decide +kernel
theorem dX6_partsOf_12 : decode cX6_partsOf 12 = .ok (.iload_n 2, 1) := by decide +kernel
theorem dX6_partsOf_13 : decode cX6_partsOf 13 = .ok (.iadd, 1) := by decide +kernel
theorem dX6_partsOf_14 : decode cX6_partsOf 14 = .ok (.bipush 8, 2) := by decide +kernel
theorem dX6_partsOf_16 : decode cX6_partsOf 16 = .ok (.irem, 1) := by decide +kernel
theorem dX6_partsOf_17 : decode cX6_partsOf 17 = .ok (.ishl, 1) := by decide +kernel
theorem dX6_partsOf_18 : decode cX6_partsOf 18 = .ok (.ior, 1) := by decide +kernel
theorem dX6_partsOf_19 : decode cX6_partsOf 19 = .ok (.istore_n 1, 1) := by decide +kernel
theorem dX6_partsOf_20 : decode cX6_partsOf 20 = .ok (.iinc 2 1, 3) := by decide +kernel
theorem dX6_partsOf_23 : decode cX6_partsOf 23 = .ok (.goto (-19), 3) := by decide +kernel
theorem dX6_partsOf_26 : decode cX6_partsOf 26 = .ok (.iload_n 1, 1) := by decide +kernel
theorem dX6_partsOf_27 : decode cX6_partsOf 27 = .ok (.ireturn, 1) := by decide +kernel
end
section
theorem dX7_init_0 : decode cX7_init 0 = .ok (.aload_n 0, 1) := by decide +kernel
theorem dX7_init_1 : decode cX7_init 1 = .ok (.invokespecial 1, 3) := by decide +kernel
theorem dX7_init_4 : decode cX7_init 4 = .ok (.aload_n 0, 1) := by decide +kernel
theorem dX7_init_5 : decode cX7_init 5 = .ok (.sipush 267, 3) := by decide +kernel
theorem dX7_init_8 : decode cX7_init 8 = .ok (.newarray .int, 2) := by decide +kernel
theorem dX7_init_10 : decode cX7_init 10 = .ok (.putfield 7, 3) := by decide +kernel
theorem dX7_init_13 : decode cX7_init 13 = .ok (.aload_n 0, 1) := by decide +kernel
theorem dX7_init_14 : decode cX7_init 14 = .ok (.sipush 267, 3) := by decide +kernel
theorem dX7_init_17 : decode cX7_init 17 = .ok (.newarray .int, 2) := by decide +kernel
theorem dX7_init_19 : decode cX7_init 19 = .ok (.putfield 13, 3) := by decide +kernel
theorem dX7_init_22 : decode cX7_init 22 = .ok (.aload_n 0, 1) := by decide +kernel
theorem dX7_init_23 : decode cX7_init 23 = .ok (.sipush 1602, 3) := by decide +kernel
theorem dX7_init_26 : decode cX7_init 26 = .ok (.newarray .int, 2) := by decide +kernel
theorem dX7_init_28 : decode cX7_init 28 = .ok (.putfield 16, 3) := by decide +kernel
theorem dX7_init_31 : decode cX7_init 31 = .ok (.aload_n 0, 1) := by decide +kernel
theorem dX7_init_32 : decode cX7_init 32 = .ok (.sipush 534, 3) := by decide +kernel
theorem dX7_init_35 : decode cX7_init 35 = .ok (.newarray .int, 2) := by decide +kernel
theorem dX7_init_37 : decode cX7_init 37 = .ok (.putfield 19, 3) := by decide +kernel
theorem dX7_init_40 : decode cX7_init 40 = .ok (.aload_n 0, 1) := by decide +kernel
theorem dX7_init_41 : decode cX7_init 41 = .ok (.iconst 2, 1) := by decide +kernel
theorem dX7_init_42 : decode cX7_init 42 = .ok (.newarray .boolean, 2) := by decide +kernel
theorem dX7_init_44 : decode cX7_init 44 = .ok (.putfield 22, 3) := by decide +kernel
theorem dX7_init_47 : decode cX7_init 47 = .ok (.aload_n 0, 1) := by decide +kernel
theorem dX7_init_48 : decode cX7_init 48 = .ok (.bipush 80, 2) := by decide +kernel
theorem dX7_init_50 : decode cX7_init 50 = .ok (.newarray .int, 2) := by decide +kernel
theorem dX7_init_52 : decode cX7_init 52 = .ok (.putfield 26, 3) := by decide +kernel
theorem dX7_init_55 : decode cX7_init 55 = .ok (.aload_n 0, 1) := by decide +kernel
theorem dX7_init_56 : decode cX7_init 56 = .ok (.sipush 240, 3) := by decide +kernel
theorem dX7_init_59 : decode cX7_init 59 = .ok (.newarray .int, 2) := by decide +kernel
theorem dX7_init_61 : decode cX7_init 61 = .ok (.putfield 29, 3) := by decide +kernel
theorem dX7_init_64 : decode cX7_init 64 = .ok (.aload_n 0, 1) := by decide +kernel
theorem dX7_init_65 : decode cX7_init 65 = .ok (.iconst 0, 1) := by decide +kernel
theorem dX7_init_66 : decode cX7_init 66 = .ok (.putfield 32, 3) := by decide +kernel
theorem dX7_init_69 : decode cX7_init 69 = .ok (.iconst 0, 1) := by decide +kernel
theorem dX7_init_70 : decode cX7_init 70 = .ok (.istore_n 1, 1) := by decide +kernel
theorem dX7_init_71 : decode cX7_init 71 = .ok (.iload_n 1, 1) := by decide +kernel
theorem dX7_init_72 : decode cX7_init 72 = .ok (.bipush 8, 2) := by decide +kernel
theorem dX7_init_74 : decode cX7_init 74 = .ok (.if_icmp .ge 18, 3) := by decide +kernel
theorem dX7_init_77 : decode cX7_init 77 = .ok (.aload_n 0, 1) := by decide +kernel
theorem dX7_init_78 : decode cX7_init 78 = .ok (.getfield 7, 3) := by decide +kernel
theorem dX7_init_81 : decode cX7_init 81 = .ok (.iconst 3, 1) := by decide +kernel
theorem dX7_init_82 : decode cX7_init 82 = .ok (.iload_n 1, 1) := by decide +kernel
theorem dX7_init_83 : decode cX7_init 83 = .ok (.iadd, 1) := by decide +kernel
theorem dX7_init_84 : decode cX7_init 84 = .ok (.iconst 1, 1) := by decide +kernel
theorem dX7_init_85 : decode cX7_init 85 = .ok (.iastore, 1) := by decide +kernel
theorem dX7_init_86 : decode cX7_init 86 = .ok (.iinc 1 1, 3) := by decide +kernel
theorem dX7_init_89 : decode cX7_init 89 = .ok (.goto (-18), 3) := by decide +kernel
theorem dX7_init_92 : decode cX7_init 92 = .ok (.return_, 1) := by decide +kernel
theorem dX7_in_0 : decode cX7_in 0 = .ok (.iload_n 0, 1) := by decide +kernel
theorem dX7_in_1 : decode cX7_in 1 = .ok (.iload_n 1, 1) := by decide +kernel
theorem dX7_in_2 : decode cX7_in 2 = .ok (.if_icmp .lt 12, 3) := by decide +kernel
theorem dX7_in_5 : decode cX7_in 5 = .ok (.iload_n 0, 1) := by decide +kernel
theorem dX7_in_6 : decode cX7_in 6 = .ok (.iload_n 2, 1) := by decide +kernel
theorem dX7_in_7 : decode cX7_in 7 = .ok (.if_icmp .gt 7, 3) := by decide +kernel
theorem dX7_in_10 : decode cX7_in 10 = .ok (.iconst 1, 1) := by decide +kernel
theorem dX7_in_11 : decode cX7_in 11 = .ok (.goto 4, 3) := by decide +kernel
theorem dX7_in_14 : decode cX7_in 14 = .ok (.iconst 0, 1) := by decide +kernel
theorem dX7_in_15 : decode cX7_in 15 = .ok (.ireturn, 1) := by decide +kernel
theorem dX7_of_0 : decode cX7_of 0 = .ok (.aload_n 0, 1) := by decide +kernel
theorem dX7_of_1 : decode cX7_of 1 = .ok (.getfield 7, 3) := by decide +kernel
theorem dX7_of_4 : decode cX7_of 4 = .ok (.bipush 57, 2) := by decide +kernel
theorem dX7_of_6 : decode cX7_of 6 = .ok (.bipush 7, 2) := by decide +kernel
theorem dX7_of_8 : decode cX7_of 8 = .ok (.iload_n 1, 1) := by decide +kernel
theorem dX7_of_9 : decode cX7_of 9 = .ok (.imul, 1) := by decide +kernel
theorem dX7_of_10 : decode cX7_of 10 = .ok (.iadd, 1) := by decide +kernel
theorem dX7_of_11 : decode cX7_of 11 = .ok (.iload_n 2, 1) := by decide +kernel
theorem dX7_of_12 : decode cX7_of 12 = .ok (.iadd, 1) := by decide +kernel
theorem dX7_of_13 : decode cX7_of 13 = .ok (.iaload, 1) := by decide +kernel
theorem dX7_of_14 : decode cX7_of 14 = .ok (.ireturn, 1) := by decide +kernel
theorem dX7_lay_0 : decode cX7_lay 0 = .ok (.aload_n 0, 1) := by decide +kernel
theorem dX7_lay_1 : decode cX7_lay 1 = .ok (.getfield 7, 3) := by decide +kernel
theorem dX7_lay_4 : decode cX7_lay 4 = .ok (.bipush 57, 2) := by decide +kernel
theorem dX7_lay_6 : decode cX7_lay 6 = .ok (.bipush 7, 2) := by decide +kernel
theorem dX7_lay_8 : decode cX7_lay 8 = .ok (.iload_n 1, 1) := by decide +kernel
theorem dX7_lay_9 : decode cX7_lay 9 = .ok (.imul, 1) := by decide +kernel
theorem dX7_lay_10 : decode cX7_lay 10 = .ok (.iadd, 1) := by decide +kernel
theorem dX7_lay_11 : decode cX7_lay 11 = .ok (.iload_n 2, 1) := by decide +kernel
theorem dX7_lay_12 : decode cX7_lay 12 = .ok (.iadd, 1) := by decide +kernel
theorem dX7_lay_13 : decode cX7_lay 13 = .ok (.iload_n 3, 1) := by decide +kernel
theorem dX7_lay_14 : decode cX7_lay 14 = .ok (.iastore, 1) := by decide +kernel
theorem dX7_lay_15 : decode cX7_lay 15 = .ok (.return_, 1) := by decide +kernel
theorem dX7_fixer0_0 : decode cX7_fixer0 0 = .ok (.aload_n 0, 1) := by decide +kernel
theorem dX7_fixer0_1 : decode cX7_fixer0 1 = .ok (.getfield 7, 3) := by decide +kernel
theorem dX7_fixer0_4 : decode cX7_fixer0 4 = .ok (.bipush 27, 2) := by decide +kernel
theorem dX7_fixer0_6 : decode cX7_fixer0 6 = .ok (.bipush 6, 2) := by decide +kernel
theorem dX7_fixer0_8 : decode cX7_fixer0 8 = .ok (.iload_n 1, 1) := by decide +kernel
theorem dX7_fixer0_9 : decode cX7_fixer0 9 = .ok (.imul, 1) := by decide +kernel
theorem dX7_fixer0_10 : decode cX7_fixer0 10 = .ok (.iadd, 1) := by decide +kernel
theorem dX7_fixer0_11 : decode cX7_fixer0 11 = .ok (.iload_n 2, 1) := by decide +kernel
theorem dX7_fixer0_12 : decode cX7_fixer0 12 = .ok (.iadd, 1) := by decide +kernel
theorem dX7_fixer0_13 : decode cX7_fixer0 13 = .ok (.iaload, 1) := by decide +kernel
theorem dX7_fixer0_14 : decode cX7_fixer0 14 = .ok (.ireturn, 1) := by decide +kernel
theorem dX7_more_0 : decode cX7_more 0 = .ok (.aload_n 0, 1) := by decide +kernel
theorem dX7_more_1 : decode cX7_more 1 = .ok (.getfield 7, 3) := by decide +kernel
theorem dX7_more_4 : decode cX7_more 4 = .ok (.bipush 27, 2) := by decide +kernel
theorem dX7_more_6 : decode cX7_more 6 = .ok (.bipush 6, 2) := by decide +kernel
theorem dX7_more_8 : decode cX7_more 8 = .ok (.iload_n 1, 1) := by decide +kernel
theorem dX7_more_9 : decode cX7_more 9 = .ok (.imul, 1) := by decide +kernel
theorem dX7_more_10 : decode cX7_more 10 = .ok (.iadd, 1) := by decide +kernel
theorem dX7_more_11 : decode cX7_more 11 = .ok (.iload_n 2, 1) := by decide +kernel
theorem dX7_more_12 : decode cX7_more 12 = .ok (.iadd, 1) := by decide +kernel
theorem dX7_more_13 : decode cX7_more 13 = .ok (.dup2, 1) := by decide +kernel
theorem dX7_more_14 : decode cX7_more 14 = .ok (.iaload, 1) := by decide +kernel
theorem dX7_more_15 : decode cX7_more 15 = .ok (.iconst 1, 1) := by decide +kernel
theorem dX7_more_16 : decode cX7_more 16 = .ok (.iadd, 1) := by decide +kernel
theorem dX7_more_17 : decode cX7_more 17 = .ok (.iastore, 1) := by decide +kernel
theorem dX7_more_18 : decode cX7_more 18 = .ok (.return_, 1) := by decide +kernel
theorem dX7_records_0 : decode cX7_records 0 = .ok (.aload_n 0, 1) := by decide +kernel
theorem dX7_records_1 : decode cX7_records 1 = .ok (.getfield 36, 3) := by decide +kernel
theorem dX7_records_4 : decode cX7_records 4 = .ok (.bipush 6, 2) := by decide +kernel
theorem dX7_records_6 : decode cX7_records 6 = .ok (.if_icmp .ne 44, 3) := by decide +kernel
theorem dX7_records_9 : decode cX7_records 9 = .ok (.iconst 0, 1) := by decide +kernel
theorem dX7_records_10 : decode cX7_records 10 = .ok (.istore_n 1, 1) := by decide +kernel
theorem dX7_records_11 : decode cX7_records 11 = .ok (.iload_n 1, 1) := by decide +kernel
theorem dX7_records_12 : decode cX7_records 12 = .ok (.sipush 1335, 3) := by decide +kernel
theorem dX7_records_15 : decode cX7_records 15 = .ok (.if_icmp .ge 25, 3) := by decide +kernel
theorem dX7_records_18 : decode cX7_records 18 = .ok (.aload_n 0, 1) := by decide +kernel
theorem dX7_records_19 : decode cX7_records 19 = .ok (.getfield 16, 3) := by decide +kernel
theorem dX7_records_22 : decode cX7_records 22 = .ok (.iload_n 1, 1) := by decide +kernel
theorem dX7_records_23 : decode cX7_records 23 = .ok (.aload_n 0, 1) := by decide +kernel
theorem dX7_records_24 : decode cX7_records 24 = .ok (.getfield 16, 3) := by decide +kernel
theorem dX7_records_27 : decode cX7_records 27 = .ok (.iload_n 1, 1) := by decide +kernel
theorem dX7_records_28 : decode cX7_records 28 = .ok (.sipush 267, 3) := by decide +kernel
theorem dX7_records_31 : decode cX7_records 31 = .ok (.iadd, 1) := by decide +kernel
theorem dX7_records_32 : decode cX7_records 32 = .ok (.iaload, 1) := by decide +kernel
theorem dX7_records_33 : decode cX7_records 33 = .ok (.iastore, 1) := by decide +kernel
theorem dX7_records_34 : decode cX7_records 34 = .ok (.iinc 1 1, 3) := by decide +kernel
theorem dX7_records_37 : decode cX7_records 37 = .ok (.goto (-26), 3) := by decide +kernel
theorem dX7_records_40 : decode cX7_records 40 = .ok (.aload_n 0, 1) := by decide +kernel
theorem dX7_records_41 : decode cX7_records 41 = .ok (.dup, 1) := by decide +kernel
theorem dX7_records_42 : decode cX7_records 42 = .ok (.getfield 36, 3) := by decide +kernel
theorem dX7_records_45 : decode cX7_records 45 = .ok (.iconst 1, 1) := by decide +kernel
theorem dX7_records_46 : decode cX7_records 46 = .ok (.isub, 1) := by decide +kernel
theorem dX7_records_47 : decode cX7_records 47 = .ok (.putfield 36, 3) := by decide +kernel
theorem dX7_records_50 : decode cX7_records 50 = .ok (.iconst 0, 1) := by decide +kernel
theorem dX7_records_51 : decode cX7_records 51 = .ok (.istore_n 1, 1) := by decide +kernel
theorem dX7_records_52 : decode cX7_records 52 = .ok (.iload_n 1, 1) := by decide +kernel
theorem dX7_records_53 : decode cX7_records 53 = .ok (.sipush 267, 3) := by decide +kernel
theorem dX7_records_56 : decode cX7_records 56 = .ok (.if_icmp .ge 30, 3) := by decide +kernel
theorem dX7_records_59 : decode cX7_records 59 = .ok (.aload_n 0, 1) := by decide +kernel
theorem dX7_records_60 : decode cX7_records 60 = .ok (.getfield 16, 3) := by decide +kernel
theorem dX7_records_63 : decode cX7_records 63 = .ok (.sipush 267, 3) := by decide +kernel
theorem dX7_records_66 : decode cX7_records 66 = .ok (.aload_n 0, 1) := by decide +kernel
theorem dX7_records_67 : decode cX7_records 67 = .ok (.getfield 36, 3) := by decide +kernel
theorem dX7_records_70 : decode cX7_records 70 = .ok (.imul, 1) := by decide +kernel
theorem dX7_records_71 : decode cX7_records 71 = .ok (.iload_n 1, 1) := by decide +kernel
theorem dX7_records_72 : decode cX7_records 72 = .ok (.iadd, 1) := by decide +kernel
theorem dX7_records_73 : decode cX7_records 73 = .ok (.aload_n 0, 1) := by decide +kernel
theorem dX7_records_74 : decode cX7_records 74 = .ok (.getfield 7, 3) := by decide +kernel
theorem dX7_records_77 : decode cX7_records 77 = .ok (.iload_n 1, 1) := by decide +kernel
theorem dX7_records_78 : decode cX7_records 78 = .ok (.iaload, 1) := by decide +kernel
theorem dX7_records_79 : decode cX7_records 79 = .ok (.iastore, 1) := by decide +kernel
theorem dX7_records_80 : decode cX7_records 80 = .ok (.iinc 1 1, 3) := by decide +kernel
theorem dX7_records_83 : decode cX7_records 83 = .ok (.goto (-31), 3) := by decide +kernel
theorem dX7_records_86 : decode cX7_records 86 = .ok (.aload_n 0, 1) := by decide +kernel
theorem dX7_records_87 : decode cX7_records 87 = .ok (.dup, 1) := by decide +kernel
theorem dX7_records_88 : decode cX7_records 88 = .ok (.getfield 36, 3) := by decide +kernel
theorem dX7_records_91 : decode cX7_records 91 = .ok (.iconst 1, 1) := by decide +kernel
theorem dX7_records_92 : decode cX7_records 92 = .ok (.iadd, 1) := by decide +kernel
theorem dX7_records_93 : decode cX7_records 93 = .ok (.putfield 36, 3) := by decide +kernel
theorem dX7_records_96 : decode cX7_records 96 = .ok (.return_, 1) := by decide +kernel
theorem dX7_putAside_0 : decode cX7_putAside 0 = .ok (.iconst 0, 1) := by decide +kernel
theorem dX7_putAside_1 : decode cX7_putAside 1 = .ok (.istore_n 1, 1) := by decide +kernel
theorem dX7_putAside_2 : decode cX7_putAside 2 = .ok (.iload_n 1, 1) := by decide +kernel
theorem dX7_putAside_3 : decode cX7_putAside 3 = .ok (.sipush 267, 3) := by decide +kernel
theorem dX7_putAside_6 : decode cX7_putAside 6 = .ok (.if_icmp .ge 21, 3) := by decide +kernel
theorem dX7_putAside_9 : decode cX7_putAside 9 = .ok (.aload_n 0, 1) := by decide +kernel
theorem dX7_putAside_10 : decode cX7_putAside 10 = .ok (.getfield 13, 3) := by decide +kernel
theorem dX7_putAside_13 : decode cX7_putAside 13 = .ok (.iload_n 1, 1) := by decide +kernel
theorem dX7_putAside_14 : decode cX7_putAside 14 = .ok (.aload_n 0, 1) := by decide +kernel
theorem dX7_putAside_15 : decode cX7_putAside 15 = .ok (.getfield 7, 3) := by decide +kernel
theorem dX7_putAside_18 : decode cX7_putAside 18 = .ok (.iload_n 1, 1) := by decide +kernel
theorem dX7_putAside_19 : decode cX7_putAside 19 = .ok (.iaload, 1) := by decide +kernel
theorem dX7_putAside_20 : decode cX7_putAside 20 = .ok (.iastore, 1) := by decide +kernel
theorem dX7_putAside_21 : decode cX7_putAside 21 = .ok (.iinc 1 1, 3) := by decide +kernel
theorem dX7_putAside_24 : decode cX7_putAside 24 = .ok (.goto (-22), 3) := by decide +kernel
theorem dX7_putAside_27 : decode cX7_putAside 27 = .ok (.return_, 1) := by decide +kernel
theorem dX7_takeBack_0 : decode cX7_takeBack 0 = .ok (.iconst 0, 1) := by decide +kernel
theorem dX7_takeBack_1 : decode cX7_takeBack 1 = .ok (.istore_n 1, 1) := by decide +kernel
theorem dX7_takeBack_2 : decode cX7_takeBack 2 = .ok (.iload_n 1, 1) := by decide +kernel
theorem dX7_takeBack_3 : decode cX7_takeBack 3 = .ok (.sipush 267, 3) := by decide +kernel
theorem dX7_takeBack_6 : decode cX7_takeBack 6 = .ok (.if_icmp .ge 21, 3) := by decide +kernel
theorem dX7_takeBack_9 : decode cX7_takeBack 9 = .ok (.aload_n 0, 1) := by decide +kernel
theorem dX7_takeBack_10 : decode cX7_takeBack 10 = .ok (.getfield 7, 3) := by decide +kernel
theorem dX7_takeBack_13 : decode cX7_takeBack 13 = .ok (.iload_n 1, 1) := by decide +kernel
theorem dX7_takeBack_14 : decode cX7_takeBack 14 = .ok (.aload_n 0, 1) := by decide +kernel
theorem dX7_takeBack_15 : decode cX7_takeBack 15 = .ok (.getfield 13, 3) := by decide +kernel
theorem dX7_takeBack_18 : decode cX7_takeBack 18 = .ok (.iload_n 1, 1) := by decide +kernel
theorem dX7_takeBack_19 : decode cX7_takeBack 19 = .ok (.iaload, 1) := by decide +kernel
theorem dX7_takeBack_20 : decode cX7_takeBack 20 = .ok (.iastore, 1) := by decide +kernel
theorem dX7_takeBack_21 : decode cX7_takeBack 21 = .ok (.iinc 1 1, 3) := by decide +kernel
theorem dX7_takeBack_24 : decode cX7_takeBack 24 = .ok (.goto (-22), 3) := by decide +kernel
theorem dX7_takeBack_27 : decode cX7_takeBack 27 = .ok (.return_, 1) := by decide +kernel
theorem dX7_partsOf_0 : decode cX7_partsOf 0 = .ok (.iconst 1, 1) := by decide +kernel
theorem dX7_partsOf_1 : decode cX7_partsOf 1 = .ok (.iload_n 0, 1) := by decide +kernel
theorem dX7_partsOf_2 : decode cX7_partsOf 2 = .ok (.ishl, 1) := by decide +kernel
theorem dX7_partsOf_3 : decode cX7_partsOf 3 = .ok (.iconst 1, 1) := by decide +kernel
theorem dX7_partsOf_4 : decode cX7_partsOf 4 = .ok (.iload_n 0, 1) := by decide +kernel
theorem dX7_partsOf_5 : decode cX7_partsOf 5 = .ok (.iconst 1, 1) := by decide +kernel
theorem dX7_partsOf_6 : decode cX7_partsOf 6 = .ok (.iadd, 1) := by decide +kernel
theorem dX7_partsOf_7 : decode cX7_partsOf 7 = .ok (.bipush 8, 2) := by decide +kernel
theorem dX7_partsOf_9 : decode cX7_partsOf 9 = .ok (.irem, 1) := by decide +kernel
theorem dX7_partsOf_10 : decode cX7_partsOf 10 = .ok (.ishl, 1) := by decide +kernel
theorem dX7_partsOf_11 : decode cX7_partsOf 11 = .ok (.ior, 1) := by decide +kernel
theorem dX7_partsOf_12 : decode cX7_partsOf 12 = .ok (.iconst 1, 1) := by decide +kernel
theorem dX7_partsOf_13 : decode cX7_partsOf 13 = .ok (.iload_n 0, 1) := by decide +kernel
theorem dX7_partsOf_14 : decode cX7_partsOf 14 = .ok (.iconst 2, 1) := by decide +kernel
theorem dX7_partsOf_15 : decode cX7_partsOf 15 = .ok (.iadd, 1) := by decide +kernel
theorem dX7_partsOf_16 : decode cX7_partsOf 16 = .ok (.bipush 8, 2) := by decide +kernel
theorem dX7_partsOf_18 : decode cX7_partsOf 18 = .ok (.irem, 1) := by decide +kernel
theorem dX7_partsOf_19 : decode cX7_partsOf 19 = .ok (.ishl, 1) := by decide +kernel
theorem dX7_partsOf_20 : decode cX7_partsOf 20 = .ok (.ior, 1) := by decide +kernel
theorem dX7_partsOf_21 : decode cX7_partsOf 21 = .ok (.ireturn, 1) := by decide +kernel
theorem dX7_lowest_0 : decode cX7_lowest 0 = .ok (.iconst 0, 1) := by decide +kernel
theorem dX7_lowest_1 : decode cX7_lowest 1 = .ok (.istore_n 1, 1) := by decide +kernel
theorem dX7_lowest_2 : decode cX7_lowest 2 = .ok (.iload_n 0, 1) := by decide +kernel
theorem dX7_lowest_3 : decode cX7_lowest 3 = .ok (.iload_n 1, 1) := by decide +kernel
theorem dX7_lowest_4 : decode cX7_lowest 4 = .ok (.ishr, 1) := by decide +kernel
theorem dX7_lowest_5 : decode cX7_lowest 5 = .ok (.iconst 1, 1) := by decide +kernel
theorem dX7_lowest_6 : decode cX7_lowest 6 = .ok (.iand, 1) := by decide +kernel
theorem dX7_lowest_7 : decode cX7_lowest 7 = .ok (.ifCond .ne 9, 3) := by decide +kernel
theorem dX7_lowest_10 : decode cX7_lowest 10 = .ok (.iinc 1 1, 3) := by decide +kernel
theorem dX7_lowest_13 : decode cX7_lowest 13 = .ok (.goto (-11), 3) := by decide +kernel
theorem dX7_lowest_16 : decode cX7_lowest 16 = .ok (.iload_n 1, 1) := by decide +kernel
theorem dX7_lowest_17 : decode cX7_lowest 17 = .ok (.ireturn, 1) := by decide +kernel
theorem dX7_strips_0 : decode cX7_strips 0 = .ok (.aload_n 0, 1) := by decide +kernel
theorem dX7_strips_1 : decode cX7_strips 1 = .ok (.iload_n 1, 1) := by decide +kernel
theorem dX7_strips_2 : decode cX7_strips 2 = .ok (.iconst 0, 1) := by decide +kernel
theorem dX7_strips_3 : decode cX7_strips 3 = .ok (.invokevirtual 39, 3) := by decide +kernel
theorem dX7_strips_6 : decode cX7_strips 6 = .ok (.invokestatic 43, 3) := by decide +kernel
theorem dX7_strips_9 : decode cX7_strips 9 = .ok (.aload_n 0, 1) := by decide +kernel
theorem dX7_strips_10 : decode cX7_strips 10 = .ok (.iload_n 1, 1) := by decide +kernel
theorem dX7_strips_11 : decode cX7_strips 11 = .ok (.iconst 1, 1) := by decide +kernel
theorem dX7_strips_12 : decode cX7_strips 12 = .ok (.invokevirtual 39, 3) := by decide +kernel
theorem dX7_strips_15 : decode cX7_strips 15 = .ok (.iconst (-1), 1) := by decide +kernel
theorem dX7_strips_16 : decode cX7_strips 16 = .ok (.ixor, 1) := by decide +kernel
theorem dX7_strips_17 : decode cX7_strips 17 = .ok (.iand, 1) := by decide +kernel
theorem dX7_strips_18 : decode cX7_strips 18 = .ok (.istore_n 2, 1) := by decide +kernel
theorem dX7_strips_19 : decode cX7_strips 19 = .ok (.iconst 0, 1) := by decide +kernel
theorem dX7_strips_20 : decode cX7_strips 20 = .ok (.istore_n 3, 1) := by decide +kernel
theorem dX7_strips_21 : decode cX7_strips 21 = .ok (.iconst 0, 1) := by decide +kernel
theorem dX7_strips_22 : decode cX7_strips 22 = .ok (.istore 4, 2) := by decide +kernel
theorem dX7_strips_24 : decode cX7_strips 24 = .ok (.iload 4, 2) := by decide +kernel
theorem dX7_strips_26 : decode cX7_strips 26 = .ok (.bipush 8, 2) := by decide +kernel
theorem dX7_strips_28 : decode cX7_strips 28 = .ok (.if_icmp .ge 89, 3) := by decide +kernel
theorem dX7_strips_31 : decode cX7_strips 31 = .ok (.iload_n 2, 1) := by decide +kernel
theorem dX7_strips_32 : decode cX7_strips 32 = .ok (.iload 4, 2) := by decide +kernel
theorem dX7_strips_34 : decode cX7_strips 34 = .ok (.ishr, 1) := by decide +kernel
theorem dX7_strips_35 : decode cX7_strips 35 = .ok (.iconst 1, 1) := by decide +kernel
theorem dX7_strips_36 : decode cX7_strips 36 = .ok (.iand, 1) := by decide +kernel
theorem dX7_strips_37 : decode cX7_strips 37 = .ok (.iconst 1, 1) := by decide +kernel
theorem dX7_strips_38 : decode cX7_strips 38 = .ok (.if_icmp .ne 73, 3) := by decide +kernel
theorem dX7_strips_41 : decode cX7_strips 41 = .ok (.aload_n 0, 1) := by decide +kernel
theorem dX7_strips_42 : decode cX7_strips 42 = .ok (.getfield 7, 3) := by decide +kernel
theorem dX7_strips_45 : decode cX7_strips 45 = .ok (.iconst 3, 1) := by decide +kernel
theorem dX7_strips_46 : decode cX7_strips 46 = .ok (.iload 4, 2) := by decide +kernel
theorem dX7_strips_48 : decode cX7_strips 48 = .ok (.iadd, 1) := by decide +kernel
theorem dX7_strips_49 : decode cX7_strips 49 = .ok (.iaload, 1) := by decide +kernel
theorem dX7_strips_50 : decode cX7_strips 50 = .ok (.bipush 99, 2) := by decide +kernel
theorem dX7_strips_52 : decode cX7_strips 52 = .ok (.if_icmp .ge 7, 3) := by decide +kernel
theorem dX7_strips_55 : decode cX7_strips 55 = .ok (.iconst 1, 1) := by decide +kernel
theorem dX7_strips_56 : decode cX7_strips 56 = .ok (.goto 4, 3) := by decide +kernel
theorem dX7_strips_59 : decode cX7_strips 59 = .ok (.iconst 0, 1) := by decide +kernel
theorem dX7_strips_60 : decode cX7_strips 60 = .ok (.istore 5, 2) := by decide +kernel
theorem dX7_strips_62 : decode cX7_strips 62 = .ok (.aload_n 0, 1) := by decide +kernel
theorem dX7_strips_63 : decode cX7_strips 63 = .ok (.getfield 7, 3) := by decide +kernel
theorem dX7_strips_66 : decode cX7_strips 66 = .ok (.bipush 19, 2) := by decide +kernel
theorem dX7_strips_68 : decode cX7_strips 68 = .ok (.iload 4, 2) := by decide +kernel
theorem dX7_strips_70 : decode cX7_strips 70 = .ok (.iadd, 1) := by decide +kernel
theorem dX7_strips_71 : decode cX7_strips 71 = .ok (.dup2, 1) := by decide +kernel
theorem dX7_strips_72 : decode cX7_strips 72 = .ok (.iaload, 1) := by decide +kernel
theorem dX7_strips_73 : decode cX7_strips 73 = .ok (.iconst 1, 1) := by decide +kernel
theorem dX7_strips_74 : decode cX7_strips 74 = .ok (.iadd, 1) := by decide +kernel
theorem dX7_strips_75 : decode cX7_strips 75 = .ok (.iastore, 1) := by decide +kernel
theorem dX7_strips_76 : decode cX7_strips 76 = .ok (.aload_n 0, 1) := by decide +kernel
theorem dX7_strips_77 : decode cX7_strips 77 = .ok (.getfield 7, 3) := by decide +kernel
theorem dX7_strips_80 : decode cX7_strips 80 = .ok (.iconst 3, 1) := by decide +kernel
theorem dX7_strips_81 : decode cX7_strips 81 = .ok (.iload 4, 2) := by decide +kernel
theorem dX7_strips_83 : decode cX7_strips 83 = .ok (.iadd, 1) := by decide +kernel
theorem dX7_strips_84 : decode cX7_strips 84 = .ok (.dup2, 1) := by decide +kernel
theorem dX7_strips_85 : decode cX7_strips 85 = .ok (.iaload, 1) := by decide +kernel
theorem dX7_strips_86 : decode cX7_strips 86 = .ok (.iload 5, 2) := by decide +kernel
theorem dX7_strips_88 : decode cX7_strips 88 = .ok (.ifCond .eq 7, 3) := by decide +kernel
theorem dX7_strips_91 : decode cX7_strips 91 = .ok (.iconst 1, 1) := by decide +kernel
theorem dX7_strips_92 : decode cX7_strips 92 = .ok (.goto 4, 3) := by decide +kernel
theorem dX7_strips_95 : decode cX7_strips 95 = .ok (.iconst 0, 1) := by decide +kernel
theorem dX7_strips_96 : decode cX7_strips 96 = .ok (.iadd, 1) := by decide +kernel
theorem dX7_strips_97 : decode cX7_strips 97 = .ok (.iastore, 1) := by decide +kernel
theorem dX7_strips_98 : decode cX7_strips 98 = .ok (.iload_n 3, 1) := by decide +kernel
theorem dX7_strips_99 : decode cX7_strips 99 = .ok (.iload 5, 2) := by decide +kernel
theorem dX7_strips_101 : decode cX7_strips 101 = .ok (.ifCond .eq 7, 3) := by decide +kernel
theorem dX7_strips_104 : decode cX7_strips 104 = .ok (.iconst 1, 1) := by decide +kernel
theorem dX7_strips_105 : decode cX7_strips 105 = .ok (.goto 4, 3) := by decide +kernel
theorem dX7_strips_108 : decode cX7_strips 108 = .ok (.iconst 0, 1) := by decide +kernel
theorem dX7_strips_109 : decode cX7_strips 109 = .ok (.iadd, 1) := by decide +kernel
theorem dX7_strips_110 : decode cX7_strips 110 = .ok (.istore_n 3, 1) := by decide +kernel
theorem dX7_strips_111 : decode cX7_strips 111 = .ok (.iinc 4 1, 3) := by decide +kernel
theorem dX7_strips_114 : decode cX7_strips 114 = .ok (.goto (-90), 3) := by decide +kernel
theorem dX7_strips_117 : decode cX7_strips 117 = .ok (.aload_n 0, 1) := by decide +kernel
theorem dX7_strips_118 : decode cX7_strips 118 = .ok (.iload_n 1, 1) := by decide +kernel
theorem dX7_strips_119 : decode cX7_strips 119 = .ok (.iconst 4, 1) := by decide +kernel
theorem dX7_strips_120 : decode cX7_strips 120 = .ok (.iconst 3, 1) := by decide +kernel
theorem dX7_strips_121 : decode cX7_strips 121 = .ok (.invokevirtual 47, 3) := by decide +kernel
theorem dX7_strips_124 : decode cX7_strips 124 = .ok (.iload_n 3, 1) := by decide +kernel
theorem dX7_strips_125 : decode cX7_strips 125 = .ok (.ireturn, 1) := by decide +kernel
theorem dX7_nextFor_0 : decode cX7_nextFor 0 = .ok (.bipush (-6), 2) := by decide +kernel
theorem dX7_nextFor_2 : decode cX7_nextFor 2 = .ok (.istore_n 2, 1) := by decide +kernel
theorem dX7_nextFor_3 : decode cX7_nextFor 3 = .ok (.iconst 0, 1) := by decide +kernel
theorem dX7_nextFor_4 : decode cX7_nextFor 4 = .ok (.istore_n 3, 1) := by decide +kernel
theorem dX7_nextFor_5 : decode cX7_nextFor 5 = .ok (.iload_n 3, 1) := by decide +kernel
theorem dX7_nextFor_6 : decode cX7_nextFor 6 = .ok (.aload_n 0, 1) := by decide +kernel
theorem dX7_nextFor_7 : decode cX7_nextFor 7 = .ok (.getfield 7, 3) := by decide +kernel
theorem dX7_nextFor_10 : decode cX7_nextFor 10 = .ok (.iconst 1, 1) := by decide +kernel
theorem dX7_nextFor_11 : decode cX7_nextFor 11 = .ok (.iaload, 1) := by decide +kernel
theorem dX7_nextFor_12 : decode cX7_nextFor 12 = .ok (.if_icmp .ge 71, 3) := by decide +kernel
theorem dX7_nextFor_15 : decode cX7_nextFor 15 = .ok (.aload_n 0, 1) := by decide +kernel
theorem dX7_nextFor_16 : decode cX7_nextFor 16 = .ok (.iload_n 3, 1) := by decide +kernel
theorem dX7_nextFor_17 : decode cX7_nextFor 17 = .ok (.iconst 4, 1) := by decide +kernel
theorem dX7_nextFor_18 : decode cX7_nextFor 18 = .ok (.invokevirtual 39, 3) := by decide +kernel
theorem dX7_nextFor_21 : decode cX7_nextFor 21 = .ok (.ifCond .ne 21, 3) := by decide +kernel
theorem dX7_nextFor_24 : decode cX7_nextFor 24 = .ok (.iload_n 1, 1) := by decide +kernel
theorem dX7_nextFor_25 : decode cX7_nextFor 25 = .ok (.aload_n 0, 1) := by decide +kernel
theorem dX7_nextFor_26 : decode cX7_nextFor 26 = .ok (.iload_n 3, 1) := by decide +kernel
theorem dX7_nextFor_27 : decode cX7_nextFor 27 = .ok (.iconst 0, 1) := by decide +kernel
theorem dX7_nextFor_28 : decode cX7_nextFor 28 = .ok (.invokevirtual 39, 3) := by decide +kernel
theorem dX7_nextFor_31 : decode cX7_nextFor 31 = .ok (.ishr, 1) := by decide +kernel
theorem dX7_nextFor_32 : decode cX7_nextFor 32 = .ok (.iconst 1, 1) := by decide +kernel
theorem dX7_nextFor_33 : decode cX7_nextFor 33 = .ok (.iand, 1) := by decide +kernel
theorem dX7_nextFor_34 : decode cX7_nextFor 34 = .ok (.iconst 1, 1) := by decide +kernel
theorem dX7_nextFor_35 : decode cX7_nextFor 35 = .ok (.if_icmp .ne 7, 3) := by decide +kernel
theorem dX7_nextFor_38 : decode cX7_nextFor 38 = .ok (.iconst 1, 1) := by decide +kernel
theorem dX7_nextFor_39 : decode cX7_nextFor 39 = .ok (.goto 4, 3) := by decide +kernel
theorem dX7_nextFor_42 : decode cX7_nextFor 42 = .ok (.iconst 0, 1) := by decide +kernel
theorem dX7_nextFor_43 : decode cX7_nextFor 43 = .ok (.istore 4, 2) := by decide +kernel
theorem dX7_nextFor_45 : decode cX7_nextFor 45 = .ok (.iload 4, 2) := by decide +kernel
theorem dX7_nextFor_47 : decode cX7_nextFor 47 = .ok (.ifCond .eq 28, 3) := by decide +kernel
theorem dX7_nextFor_50 : decode cX7_nextFor 50 = .ok (.iload_n 2, 1) := by decide +kernel
theorem dX7_nextFor_51 : decode cX7_nextFor 51 = .ok (.bipush (-6), 2) := by decide +kernel
theorem dX7_nextFor_53 : decode cX7_nextFor 53 = .ok (.if_icmp .eq 18, 3) := by decide +kernel
theorem dX7_nextFor_56 : decode cX7_nextFor 56 = .ok (.aload_n 0, 1) := by decide +kernel
theorem dX7_nextFor_57 : decode cX7_nextFor 57 = .ok (.iload_n 3, 1) := by decide +kernel
theorem dX7_nextFor_58 : decode cX7_nextFor 58 = .ok (.iconst 2, 1) := by decide +kernel
theorem dX7_nextFor_59 : decode cX7_nextFor 59 = .ok (.invokevirtual 39, 3) := by decide +kernel
theorem dX7_nextFor_62 : decode cX7_nextFor 62 = .ok (.aload_n 0, 1) := by decide +kernel
theorem dX7_nextFor_63 : decode cX7_nextFor 63 = .ok (.iload_n 2, 1) := by decide +kernel
theorem dX7_nextFor_64 : decode cX7_nextFor 64 = .ok (.iconst 2, 1) := by decide +kernel
theorem dX7_nextFor_65 : decode cX7_nextFor 65 = .ok (.invokevirtual 39, 3) := by decide +kernel
theorem dX7_nextFor_68 : decode cX7_nextFor 68 = .ok (.if_icmp .ge 7, 3) := by decide +kernel
theorem dX7_nextFor_71 : decode cX7_nextFor 71 = .ok (.iload_n 3, 1) := by decide +kernel
theorem dX7_nextFor_72 : decode cX7_nextFor 72 = .ok (.goto 4, 3) := by decide +kernel
theorem dX7_nextFor_75 : decode cX7_nextFor 75 = .ok (.iload_n 2, 1) := by decide +kernel
theorem dX7_nextFor_76 : decode cX7_nextFor 76 = .ok (.istore_n 2, 1) := by decide +kernel
theorem dX7_nextFor_77 : decode cX7_nextFor 77 = .ok (.iinc 3 1, 3) := by decide +kernel
theorem dX7_nextFor_80 : decode cX7_nextFor 80 = .ok (.goto (-75), 3) := by decide +kernel
theorem dX7_nextFor_83 : decode cX7_nextFor 83 = .ok (.iload_n 2, 1) := by decide +kernel
theorem dX7_nextFor_84 : decode cX7_nextFor 84 = .ok (.ireturn, 1) := by decide +kernel
theorem dX7_fixerOf_0 : decode cX7_fixerOf 0 = .ok (.iconst 0, 1) := by decide +kernel
theorem dX7_fixerOf_1 : decode cX7_fixerOf 1 = .ok (.istore_n 2, 1) := by decide +kernel
theorem dX7_fixerOf_2 : decode cX7_fixerOf 2 = .ok (.iload_n 2, 1) := by decide +kernel
theorem dX7_fixerOf_3 : decode cX7_fixerOf 3 = .ok (.aload_n 0, 1) := by decide +kernel
theorem dX7_fixerOf_4 : decode cX7_fixerOf 4 = .ok (.getfield 7, 3) := by decide +kernel
theorem dX7_fixerOf_7 : decode cX7_fixerOf 7 = .ok (.iconst 2, 1) := by decide +kernel
theorem dX7_fixerOf_8 : decode cX7_fixerOf 8 = .ok (.iaload, 1) := by decide +kernel
theorem dX7_fixerOf_9 : decode cX7_fixerOf 9 = .ok (.if_icmp .ge 23, 3) := by decide +kernel
theorem dX7_fixerOf_12 : decode cX7_fixerOf 12 = .ok (.aload_n 0, 1) := by decide +kernel
theorem dX7_fixerOf_13 : decode cX7_fixerOf 13 = .ok (.iload_n 2, 1) := by decide +kernel
theorem dX7_fixerOf_14 : decode cX7_fixerOf 14 = .ok (.iconst 2, 1) := by decide +kernel
theorem dX7_fixerOf_15 : decode cX7_fixerOf 15 = .ok (.invokevirtual 51, 3) := by decide +kernel
theorem dX7_fixerOf_18 : decode cX7_fixerOf 18 = .ok (.iload_n 1, 1) := by decide +kernel
theorem dX7_fixerOf_19 : decode cX7_fixerOf 19 = .ok (.iconst 1, 1) := by decide +kernel
theorem dX7_fixerOf_20 : decode cX7_fixerOf 20 = .ok (.iadd, 1) := by decide +kernel
theorem dX7_fixerOf_21 : decode cX7_fixerOf 21 = .ok (.if_icmp .ne 5, 3) := by decide +kernel
theorem dX7_fixerOf_24 : decode cX7_fixerOf 24 = .ok (.iload_n 2, 1) := by decide +kernel
theorem dX7_fixerOf_25 : decode cX7_fixerOf 25 = .ok (.ireturn, 1) := by decide +kernel
theorem dX7_fixerOf_26 : decode cX7_fixerOf 26 = .ok (.iinc 2 1, 3) := by decide +kernel
theorem dX7_fixerOf_29 : decode cX7_fixerOf 29 = .ok (.goto (-27), 3) := by decide +kernel
theorem dX7_fixerOf_32 : decode cX7_fixerOf 32 = .ok (.bipush (-6), 2) := by decide +kernel
theorem dX7_fixerOf_34 : decode cX7_fixerOf 34 = .ok (.ireturn, 1) := by decide +kernel
theorem dX7_frees_0 : decode cX7_frees 0 = .ok (.aload_n 0, 1) := by decide +kernel
theorem dX7_frees_1 : decode cX7_frees 1 = .ok (.getfield 7, 3) := by decide +kernel
theorem dX7_frees_4 : decode cX7_frees 4 = .ok (.bipush 27, 2) := by decide +kernel
theorem dX7_frees_6 : decode cX7_frees 6 = .ok (.bipush 6, 2) := by decide +kernel
theorem dX7_frees_8 : decode cX7_frees 8 = .ok (.iload_n 1, 1) := by decide +kernel
theorem dX7_frees_9 : decode cX7_frees 9 = .ok (.imul, 1) := by decide +kernel
theorem dX7_frees_10 : decode cX7_frees 10 = .ok (.iadd, 1) := by decide +kernel
theorem dX7_frees_11 : decode cX7_frees 11 = .ok (.iconst 2, 1) := by decide +kernel
theorem dX7_frees_12 : decode cX7_frees 12 = .ok (.iadd, 1) := by decide +kernel
theorem dX7_frees_13 : decode cX7_frees 13 = .ok (.iconst 0, 1) := by decide +kernel
theorem dX7_frees_14 : decode cX7_frees 14 = .ok (.iastore, 1) := by decide +kernel
theorem dX7_frees_15 : decode cX7_frees 15 = .ok (.return_, 1) := by decide +kernel
theorem dX7_givesUp_0 : decode cX7_givesUp 0 = .ok (.aload_n 0, 1) := by decide +kernel
theorem dX7_givesUp_1 : decode cX7_givesUp 1 = .ok (.iload_n 2, 1) := by decide +kernel
theorem dX7_givesUp_2 : decode cX7_givesUp 2 = .ok (.invokevirtual 54, 3) := by decide +kernel
theorem dX7_givesUp_5 : decode cX7_givesUp 5 = .ok (.pop, 1) := by decide +kernel
theorem dX7_givesUp_6 : decode cX7_givesUp 6 = .ok (.aload_n 0, 1) := by decide +kernel
theorem dX7_givesUp_7 : decode cX7_givesUp 7 = .ok (.iload_n 1, 1) := by decide +kernel
theorem dX7_givesUp_8 : decode cX7_givesUp 8 = .ok (.iconst 4, 1) := by decide +kernel
theorem dX7_givesUp_9 : decode cX7_givesUp 9 = .ok (.invokevirtual 57, 3) := by decide +kernel
theorem dX7_givesUp_12 : decode cX7_givesUp 12 = .ok (.aload_n 0, 1) := by decide +kernel
theorem dX7_givesUp_13 : decode cX7_givesUp 13 = .ok (.iload_n 1, 1) := by decide +kernel
theorem dX7_givesUp_14 : decode cX7_givesUp 14 = .ok (.invokevirtual 61, 3) := by decide +kernel
theorem dX7_givesUp_17 : decode cX7_givesUp 17 = .ok (.return_, 1) := by decide +kernel
theorem dX7_exchanges_0 : decode cX7_exchanges 0 = .ok (.aload_n 0, 1) := by decide +kernel
theorem dX7_exchanges_1 : decode cX7_exchanges 1 = .ok (.iload_n 1, 1) := by decide +kernel
theorem dX7_exchanges_2 : decode cX7_exchanges 2 = .ok (.iconst 1, 1) := by decide +kernel
theorem dX7_exchanges_3 : decode cX7_exchanges 3 = .ok (.invokevirtual 39, 3) := by decide +kernel
theorem dX7_exchanges_6 : decode cX7_exchanges 6 = .ok (.invokestatic 65, 3) := by decide +kernel
theorem dX7_exchanges_9 : decode cX7_exchanges 9 = .ok (.istore_n 2, 1) := by decide +kernel
theorem dX7_exchanges_10 : decode cX7_exchanges 10 = .ok (.aload_n 0, 1) := by decide +kernel
theorem dX7_exchanges_11 : decode cX7_exchanges 11 = .ok (.getfield 7, 3) := by decide +kernel
theorem dX7_exchanges_14 : decode cX7_exchanges 14 = .ok (.iconst 3, 1) := by decide +kernel
theorem dX7_exchanges_15 : decode cX7_exchanges 15 = .ok (.iload_n 2, 1) := by decide +kernel
theorem dX7_exchanges_16 : decode cX7_exchanges 16 = .ok (.iadd, 1) := by decide +kernel
theorem dX7_exchanges_17 : decode cX7_exchanges 17 = .ok (.iaload, 1) := by decide +kernel
theorem dX7_exchanges_18 : decode cX7_exchanges 18 = .ok (.ifCond .ne 5, 3) := by decide +kernel
theorem dX7_exchanges_21 : decode cX7_exchanges 21 = .ok (.iconst 0, 1) := by decide +kernel
theorem dX7_exchanges_22 : decode cX7_exchanges 22 = .ok (.ireturn, 1) := by decide +kernel
theorem dX7_exchanges_23 : decode cX7_exchanges 23 = .ok (.aload_n 0, 1) := by decide +kernel
theorem dX7_exchanges_24 : decode cX7_exchanges 24 = .ok (.getfield 7, 3) := by decide +kernel
theorem dX7_exchanges_27 : decode cX7_exchanges 27 = .ok (.iconst 3, 1) := by decide +kernel
theorem dX7_exchanges_28 : decode cX7_exchanges 28 = .ok (.iload_n 2, 1) := by decide +kernel
theorem dX7_exchanges_29 : decode cX7_exchanges 29 = .ok (.iadd, 1) := by decide +kernel
theorem dX7_exchanges_30 : decode cX7_exchanges 30 = .ok (.dup2, 1) := by decide +kernel
theorem dX7_exchanges_31 : decode cX7_exchanges 31 = .ok (.iaload, 1) := by decide +kernel
theorem dX7_exchanges_32 : decode cX7_exchanges 32 = .ok (.iconst 1, 1) := by decide +kernel
theorem dX7_exchanges_33 : decode cX7_exchanges 33 = .ok (.isub, 1) := by decide +kernel
theorem dX7_exchanges_34 : decode cX7_exchanges 34 = .ok (.iastore, 1) := by decide +kernel
theorem dX7_exchanges_35 : decode cX7_exchanges 35 = .ok (.aload_n 0, 1) := by decide +kernel
theorem dX7_exchanges_36 : decode cX7_exchanges 36 = .ok (.getfield 7, 3) := by decide +kernel
theorem dX7_exchanges_39 : decode cX7_exchanges 39 = .ok (.bipush 11, 2) := by decide +kernel
theorem dX7_exchanges_41 : decode cX7_exchanges 41 = .ok (.iload_n 2, 1) := by decide +kernel
theorem dX7_exchanges_42 : decode cX7_exchanges 42 = .ok (.iadd, 1) := by decide +kernel
theorem dX7_exchanges_43 : decode cX7_exchanges 43 = .ok (.dup2, 1) := by decide +kernel
theorem dX7_exchanges_44 : decode cX7_exchanges 44 = .ok (.iaload, 1) := by decide +kernel
theorem dX7_exchanges_45 : decode cX7_exchanges 45 = .ok (.iconst 1, 1) := by decide +kernel
theorem dX7_exchanges_46 : decode cX7_exchanges 46 = .ok (.iadd, 1) := by decide +kernel
theorem dX7_exchanges_47 : decode cX7_exchanges 47 = .ok (.iastore, 1) := by decide +kernel
theorem dX7_exchanges_48 : decode cX7_exchanges 48 = .ok (.aload_n 0, 1) := by decide +kernel
theorem dX7_exchanges_49 : decode cX7_exchanges 49 = .ok (.iload_n 1, 1) := by decide +kernel
theorem dX7_exchanges_50 : decode cX7_exchanges 50 = .ok (.iconst 1, 1) := by decide +kernel
theorem dX7_exchanges_51 : decode cX7_exchanges 51 = .ok (.aload_n 0, 1) := by decide +kernel
theorem dX7_exchanges_52 : decode cX7_exchanges 52 = .ok (.iload_n 1, 1) := by decide +kernel
theorem dX7_exchanges_53 : decode cX7_exchanges 53 = .ok (.iconst 1, 1) := by decide +kernel
theorem dX7_exchanges_54 : decode cX7_exchanges 54 = .ok (.invokevirtual 39, 3) := by decide +kernel
theorem dX7_exchanges_57 : decode cX7_exchanges 57 = .ok (.iconst 1, 1) := by decide +kernel
theorem dX7_exchanges_58 : decode cX7_exchanges 58 = .ok (.iload_n 2, 1) := by decide +kernel
theorem dX7_exchanges_59 : decode cX7_exchanges 59 = .ok (.ishl, 1) := by decide +kernel
theorem dX7_exchanges_60 : decode cX7_exchanges 60 = .ok (.iconst (-1), 1) := by decide +kernel
theorem dX7_exchanges_61 : decode cX7_exchanges 61 = .ok (.ixor, 1) := by decide +kernel
theorem dX7_exchanges_62 : decode cX7_exchanges 62 = .ok (.iand, 1) := by decide +kernel
theorem dX7_exchanges_63 : decode cX7_exchanges 63 = .ok (.invokevirtual 47, 3) := by decide +kernel
theorem dX7_exchanges_66 : decode cX7_exchanges 66 = .ok (.aload_n 0, 1) := by decide +kernel
theorem dX7_exchanges_67 : decode cX7_exchanges 67 = .ok (.iload_n 1, 1) := by decide +kernel
theorem dX7_exchanges_68 : decode cX7_exchanges 68 = .ok (.bipush 6, 2) := by decide +kernel
theorem dX7_exchanges_70 : decode cX7_exchanges 70 = .ok (.aload_n 0, 1) := by decide +kernel
theorem dX7_exchanges_71 : decode cX7_exchanges 71 = .ok (.iload_n 1, 1) := by decide +kernel
theorem dX7_exchanges_72 : decode cX7_exchanges 72 = .ok (.bipush 6, 2) := by decide +kernel
theorem dX7_exchanges_74 : decode cX7_exchanges 74 = .ok (.invokevirtual 39, 3) := by decide +kernel
theorem dX7_exchanges_77 : decode cX7_exchanges 77 = .ok (.iconst 1, 1) := by decide +kernel
theorem dX7_exchanges_78 : decode cX7_exchanges 78 = .ok (.iadd, 1) := by decide +kernel
theorem dX7_exchanges_79 : decode cX7_exchanges 79 = .ok (.invokevirtual 47, 3) := by decide +kernel
theorem dX7_exchanges_82 : decode cX7_exchanges 82 = .ok (.iconst 1, 1) := by decide +kernel
theorem dX7_exchanges_83 : decode cX7_exchanges 83 = .ok (.ireturn, 1) := by decide +kernel
theorem dX7_tests_0 : decode cX7_tests 0 = .ok (.aload_n 0, 1) := by decide +kernel
theorem dX7_tests_1 : decode cX7_tests 1 = .ok (.iload_n 1, 1) := by decide +kernel
theorem dX7_tests_2 : decode cX7_tests 2 = .ok (.iconst 0, 1) := by decide +kernel
theorem dX7_tests_3 : decode cX7_tests 3 = .ok (.invokevirtual 39, 3) := by decide +kernel
theorem dX7_tests_6 : decode cX7_tests 6 = .ok (.istore_n 3, 1) := by decide +kernel
theorem dX7_tests_7 : decode cX7_tests 7 = .ok (.aload_n 0, 1) := by decide +kernel
theorem dX7_tests_8 : decode cX7_tests 8 = .ok (.getfield 7, 3) := by decide +kernel
theorem dX7_tests_11 : decode cX7_tests 11 = .ok (.iconst 0, 1) := by decide +kernel
theorem dX7_tests_12 : decode cX7_tests 12 = .ok (.iaload, 1) := by decide +kernel
theorem dX7_tests_13 : decode cX7_tests 13 = .ok (.iload_n 2, 1) := by decide +kernel
theorem dX7_tests_14 : decode cX7_tests 14 = .ok (.iadd, 1) := by decide +kernel
theorem dX7_tests_15 : decode cX7_tests 15 = .ok (.iload_n 3, 1) := by decide +kernel
theorem dX7_tests_16 : decode cX7_tests 16 = .ok (.iadd, 1) := by decide +kernel
theorem dX7_tests_17 : decode cX7_tests 17 = .ok (.iconst 3, 1) := by decide +kernel
theorem dX7_tests_18 : decode cX7_tests 18 = .ok (.irem, 1) := by decide +kernel
theorem dX7_tests_19 : decode cX7_tests 19 = .ok (.ifCond .eq 26, 3) := by decide +kernel
theorem dX7_tests_22 : decode cX7_tests 22 = .ok (.aload_n 0, 1) := by decide +kernel
theorem dX7_tests_23 : decode cX7_tests 23 = .ok (.iload_n 1, 1) := by decide +kernel
theorem dX7_tests_24 : decode cX7_tests 24 = .ok (.iconst 3, 1) := by decide +kernel
theorem dX7_tests_25 : decode cX7_tests 25 = .ok (.aload_n 0, 1) := by decide +kernel
theorem dX7_tests_26 : decode cX7_tests 26 = .ok (.iload_n 1, 1) := by decide +kernel
theorem dX7_tests_27 : decode cX7_tests 27 = .ok (.iconst 3, 1) := by decide +kernel
theorem dX7_tests_28 : decode cX7_tests 28 = .ok (.invokevirtual 39, 3) := by decide +kernel
theorem dX7_tests_31 : decode cX7_tests 31 = .ok (.aload_n 0, 1) := by decide +kernel
theorem dX7_tests_32 : decode cX7_tests 32 = .ok (.iload_n 1, 1) := by decide +kernel
theorem dX7_tests_33 : decode cX7_tests 33 = .ok (.iconst 3, 1) := by decide +kernel
theorem dX7_tests_34 : decode cX7_tests 34 = .ok (.invokevirtual 39, 3) := by decide +kernel
theorem dX7_tests_37 : decode cX7_tests 37 = .ok (.iconst 1, 1) := by decide +kernel
theorem dX7_tests_38 : decode cX7_tests 38 = .ok (.isub, 1) := by decide +kernel
theorem dX7_tests_39 : decode cX7_tests 39 = .ok (.iand, 1) := by decide +kernel
theorem dX7_tests_40 : decode cX7_tests 40 = .ok (.invokevirtual 47, 3) := by decide +kernel
theorem dX7_tests_43 : decode cX7_tests 43 = .ok (.iconst 1, 1) := by decide +kernel
theorem dX7_tests_44 : decode cX7_tests 44 = .ok (.ireturn, 1) := by decide +kernel
theorem dX7_tests_45 : decode cX7_tests 45 = .ok (.aload_n 0, 1) := by decide +kernel
theorem dX7_tests_46 : decode cX7_tests 46 = .ok (.iload_n 1, 1) := by decide +kernel
theorem dX7_tests_47 : decode cX7_tests 47 = .ok (.iconst 1, 1) := by decide +kernel
theorem dX7_tests_48 : decode cX7_tests 48 = .ok (.aload_n 0, 1) := by decide +kernel
theorem dX7_tests_49 : decode cX7_tests 49 = .ok (.iload_n 1, 1) := by decide +kernel
theorem dX7_tests_50 : decode cX7_tests 50 = .ok (.iconst 1, 1) := by decide +kernel
theorem dX7_tests_51 : decode cX7_tests 51 = .ok (.invokevirtual 39, 3) := by decide +kernel
theorem dX7_tests_54 : decode cX7_tests 54 = .ok (.iconst 1, 1) := by decide +kernel
theorem dX7_tests_55 : decode cX7_tests 55 = .ok (.iload_n 3, 1) := by decide +kernel
theorem dX7_tests_56 : decode cX7_tests 56 = .ok (.ishl, 1) := by decide +kernel
theorem dX7_tests_57 : decode cX7_tests 57 = .ok (.ior, 1) := by decide +kernel
theorem dX7_tests_58 : decode cX7_tests 58 = .ok (.invokevirtual 47, 3) := by decide +kernel
theorem dX7_tests_61 : decode cX7_tests 61 = .ok (.aload_n 0, 1) := by decide +kernel
theorem dX7_tests_62 : decode cX7_tests 62 = .ok (.iload_n 1, 1) := by decide +kernel
theorem dX7_tests_63 : decode cX7_tests 63 = .ok (.iconst 5, 1) := by decide +kernel
theorem dX7_tests_64 : decode cX7_tests 64 = .ok (.aload_n 0, 1) := by decide +kernel
theorem dX7_tests_65 : decode cX7_tests 65 = .ok (.iload_n 1, 1) := by decide +kernel
theorem dX7_tests_66 : decode cX7_tests 66 = .ok (.iconst 5, 1) := by decide +kernel
theorem dX7_tests_67 : decode cX7_tests 67 = .ok (.invokevirtual 39, 3) := by decide +kernel
theorem dX7_tests_70 : decode cX7_tests 70 = .ok (.iconst 1, 1) := by decide +kernel
theorem dX7_tests_71 : decode cX7_tests 71 = .ok (.iadd, 1) := by decide +kernel
theorem dX7_tests_72 : decode cX7_tests 72 = .ok (.invokevirtual 47, 3) := by decide +kernel
theorem dX7_tests_75 : decode cX7_tests 75 = .ok (.aload_n 0, 1) := by decide +kernel
theorem dX7_tests_76 : decode cX7_tests 76 = .ok (.iload_n 1, 1) := by decide +kernel
theorem dX7_tests_77 : decode cX7_tests 77 = .ok (.iconst 5, 1) := by decide +kernel
theorem dX7_tests_78 : decode cX7_tests 78 = .ok (.invokevirtual 39, 3) := by decide +kernel
theorem dX7_tests_81 : decode cX7_tests 81 = .ok (.iconst 3, 1) := by decide +kernel
theorem dX7_tests_82 : decode cX7_tests 82 = .ok (.if_icmp .ge 7, 3) := by decide +kernel
theorem dX7_tests_85 : decode cX7_tests 85 = .ok (.iconst 1, 1) := by decide +kernel
theorem dX7_tests_86 : decode cX7_tests 86 = .ok (.goto 4, 3) := by decide +kernel
theorem dX7_tests_89 : decode cX7_tests 89 = .ok (.iconst 0, 1) := by decide +kernel
theorem dX7_tests_90 : decode cX7_tests 90 = .ok (.ireturn, 1) := by decide +kernel
theorem dX7_works_0 : decode cX7_works 0 = .ok (.aload_n 0, 1) := by decide +kernel
theorem dX7_works_1 : decode cX7_works 1 = .ok (.iload_n 1, 1) := by decide +kernel
theorem dX7_works_2 : decode cX7_works 2 = .ok (.iconst 2, 1) := by decide +kernel
theorem dX7_works_3 : decode cX7_works 3 = .ok (.invokevirtual 51, 3) := by decide +kernel
theorem dX7_works_6 : decode cX7_works 6 = .ok (.iconst 1, 1) := by decide +kernel
theorem dX7_works_7 : decode cX7_works 7 = .ok (.isub, 1) := by decide +kernel
theorem dX7_works_8 : decode cX7_works 8 = .ok (.istore_n 2, 1) := by decide +kernel
theorem dX7_works_9 : decode cX7_works 9 = .ok (.aload_n 0, 1) := by decide +kernel
theorem dX7_works_10 : decode cX7_works 10 = .ok (.iload_n 1, 1) := by decide +kernel
theorem dX7_works_11 : decode cX7_works 11 = .ok (.iconst 5, 1) := by decide +kernel
theorem dX7_works_12 : decode cX7_works 12 = .ok (.invokevirtual 57, 3) := by decide +kernel
theorem dX7_works_15 : decode cX7_works 15 = .ok (.iconst 1, 1) := by decide +kernel
theorem dX7_works_16 : decode cX7_works 16 = .ok (.istore_n 3, 1) := by decide +kernel
theorem dX7_works_17 : decode cX7_works 17 = .ok (.aload_n 0, 1) := by decide +kernel
theorem dX7_works_18 : decode cX7_works 18 = .ok (.iload_n 2, 1) := by decide +kernel
theorem dX7_works_19 : decode cX7_works 19 = .ok (.iconst 1, 1) := by decide +kernel
theorem dX7_works_20 : decode cX7_works 20 = .ok (.invokevirtual 39, 3) := by decide +kernel
theorem dX7_works_23 : decode cX7_works 23 = .ok (.ifCond .eq 12, 3) := by decide +kernel
theorem dX7_works_26 : decode cX7_works 26 = .ok (.aload_n 0, 1) := by decide +kernel
theorem dX7_works_27 : decode cX7_works 27 = .ok (.iload_n 2, 1) := by decide +kernel
theorem dX7_works_28 : decode cX7_works 28 = .ok (.invokevirtual 68, 3) := by decide +kernel
theorem dX7_works_31 : decode cX7_works 31 = .ok (.istore_n 3, 1) := by decide +kernel
theorem dX7_works_32 : decode cX7_works 32 = .ok (.goto 24, 3) := by decide +kernel
theorem dX7_works_35 : decode cX7_works 35 = .ok (.aload_n 0, 1) := by decide +kernel
theorem dX7_works_36 : decode cX7_works 36 = .ok (.iload_n 2, 1) := by decide +kernel
theorem dX7_works_37 : decode cX7_works 37 = .ok (.iconst 3, 1) := by decide +kernel
theorem dX7_works_38 : decode cX7_works 38 = .ok (.invokevirtual 39, 3) := by decide +kernel
theorem dX7_works_41 : decode cX7_works 41 = .ok (.ifCond .eq 15, 3) := by decide +kernel
theorem dX7_works_44 : decode cX7_works 44 = .ok (.aload_n 0, 1) := by decide +kernel
theorem dX7_works_45 : decode cX7_works 45 = .ok (.iload_n 2, 1) := by decide +kernel
theorem dX7_works_46 : decode cX7_works 46 = .ok (.aload_n 0, 1) := by decide +kernel
theorem dX7_works_47 : decode cX7_works 47 = .ok (.iload_n 1, 1) := by decide +kernel
theorem dX7_works_48 : decode cX7_works 48 = .ok (.iconst 1, 1) := by decide +kernel
theorem dX7_works_49 : decode cX7_works 49 = .ok (.invokevirtual 51, 3) := by decide +kernel
theorem dX7_works_52 : decode cX7_works 52 = .ok (.invokevirtual 72, 3) := by decide +kernel
theorem dX7_works_55 : decode cX7_works 55 = .ok (.istore_n 3, 1) := by decide +kernel
theorem dX7_works_56 : decode cX7_works 56 = .ok (.iload_n 3, 1) := by decide +kernel
theorem dX7_works_57 : decode cX7_works 57 = .ok (.ifCond .ne 12, 3) := by decide +kernel
theorem dX7_works_60 : decode cX7_works 60 = .ok (.aload_n 0, 1) := by decide +kernel
theorem dX7_works_61 : decode cX7_works 61 = .ok (.iload_n 1, 1) := by decide +kernel
theorem dX7_works_62 : decode cX7_works 62 = .ok (.iload_n 2, 1) := by decide +kernel
theorem dX7_works_63 : decode cX7_works 63 = .ok (.invokevirtual 76, 3) := by decide +kernel
theorem dX7_works_66 : decode cX7_works 66 = .ok (.goto 39, 3) := by decide +kernel
theorem dX7_works_69 : decode cX7_works 69 = .ok (.aload_n 0, 1) := by decide +kernel
theorem dX7_works_70 : decode cX7_works 70 = .ok (.iload_n 2, 1) := by decide +kernel
theorem dX7_works_71 : decode cX7_works 71 = .ok (.iconst 1, 1) := by decide +kernel
theorem dX7_works_72 : decode cX7_works 72 = .ok (.invokevirtual 39, 3) := by decide +kernel
theorem dX7_works_75 : decode cX7_works 75 = .ok (.ifCond .ne 30, 3) := by decide +kernel
theorem dX7_works_78 : decode cX7_works 78 = .ok (.aload_n 0, 1) := by decide +kernel
theorem dX7_works_79 : decode cX7_works 79 = .ok (.iload_n 2, 1) := by decide +kernel
theorem dX7_works_80 : decode cX7_works 80 = .ok (.iconst 3, 1) := by decide +kernel
theorem dX7_works_81 : decode cX7_works 81 = .ok (.invokevirtual 39, 3) := by decide +kernel
theorem dX7_works_84 : decode cX7_works 84 = .ok (.ifCond .ne 21, 3) := by decide +kernel
theorem dX7_works_87 : decode cX7_works 87 = .ok (.aload_n 0, 1) := by decide +kernel
theorem dX7_works_88 : decode cX7_works 88 = .ok (.iload_n 2, 1) := by decide +kernel
theorem dX7_works_89 : decode cX7_works 89 = .ok (.iconst 4, 1) := by decide +kernel
theorem dX7_works_90 : decode cX7_works 90 = .ok (.iconst 2, 1) := by decide +kernel
theorem dX7_works_91 : decode cX7_works 91 = .ok (.invokevirtual 47, 3) := by decide +kernel
theorem dX7_works_94 : decode cX7_works 94 = .ok (.aload_n 0, 1) := by decide +kernel
theorem dX7_works_95 : decode cX7_works 95 = .ok (.iload_n 1, 1) := by decide +kernel
theorem dX7_works_96 : decode cX7_works 96 = .ok (.iconst 3, 1) := by decide +kernel
theorem dX7_works_97 : decode cX7_works 97 = .ok (.invokevirtual 57, 3) := by decide +kernel
theorem dX7_works_100 : decode cX7_works 100 = .ok (.aload_n 0, 1) := by decide +kernel
theorem dX7_works_101 : decode cX7_works 101 = .ok (.iload_n 1, 1) := by decide +kernel
theorem dX7_works_102 : decode cX7_works 102 = .ok (.invokevirtual 61, 3) := by decide +kernel
theorem dX7_works_105 : decode cX7_works 105 = .ok (.return_, 1) := by decide +kernel
theorem dX7_takes_0 : decode cX7_takes 0 = .ok (.aload_n 0, 1) := by decide +kernel
theorem dX7_takes_1 : decode cX7_takes 1 = .ok (.aload_n 0, 1) := by decide +kernel
theorem dX7_takes_2 : decode cX7_takes 2 = .ok (.iload_n 1, 1) := by decide +kernel
theorem dX7_takes_3 : decode cX7_takes 3 = .ok (.iconst 0, 1) := by decide +kernel
theorem dX7_takes_4 : decode cX7_takes 4 = .ok (.invokevirtual 51, 3) := by decide +kernel
theorem dX7_takes_7 : decode cX7_takes 7 = .ok (.invokevirtual 79, 3) := by decide +kernel
theorem dX7_takes_10 : decode cX7_takes 10 = .ok (.istore_n 2, 1) := by decide +kernel
theorem dX7_takes_11 : decode cX7_takes 11 = .ok (.iload_n 2, 1) := by decide +kernel
theorem dX7_takes_12 : decode cX7_takes 12 = .ok (.bipush (-6), 2) := by decide +kernel
theorem dX7_takes_14 : decode cX7_takes 14 = .ok (.if_icmp .eq 27, 3) := by decide +kernel
theorem dX7_takes_17 : decode cX7_takes 17 = .ok (.aload_n 0, 1) := by decide +kernel
theorem dX7_takes_18 : decode cX7_takes 18 = .ok (.iload_n 2, 1) := by decide +kernel
theorem dX7_takes_19 : decode cX7_takes 19 = .ok (.iconst 4, 1) := by decide +kernel
theorem dX7_takes_20 : decode cX7_takes 20 = .ok (.iconst 1, 1) := by decide +kernel
theorem dX7_takes_21 : decode cX7_takes 21 = .ok (.invokevirtual 47, 3) := by decide +kernel
theorem dX7_takes_24 : decode cX7_takes 24 = .ok (.aload_n 0, 1) := by decide +kernel
theorem dX7_takes_25 : decode cX7_takes 25 = .ok (.getfield 7, 3) := by decide +kernel
theorem dX7_takes_28 : decode cX7_takes 28 = .ok (.bipush 27, 2) := by decide +kernel
theorem dX7_takes_30 : decode cX7_takes 30 = .ok (.bipush 6, 2) := by decide +kernel
theorem dX7_takes_32 : decode cX7_takes 32 = .ok (.iload_n 1, 1) := by decide +kernel
theorem dX7_takes_33 : decode cX7_takes 33 = .ok (.imul, 1) := by decide +kernel
theorem dX7_takes_34 : decode cX7_takes 34 = .ok (.iadd, 1) := by decide +kernel
theorem dX7_takes_35 : decode cX7_takes 35 = .ok (.iconst 2, 1) := by decide +kernel
theorem dX7_takes_36 : decode cX7_takes 36 = .ok (.iadd, 1) := by decide +kernel
theorem dX7_takes_37 : decode cX7_takes 37 = .ok (.iload_n 2, 1) := by decide +kernel
theorem dX7_takes_38 : decode cX7_takes 38 = .ok (.iconst 1, 1) := by decide +kernel
theorem dX7_takes_39 : decode cX7_takes 39 = .ok (.iadd, 1) := by decide +kernel
theorem dX7_takes_40 : decode cX7_takes 40 = .ok (.iastore, 1) := by decide +kernel
theorem dX7_takes_41 : decode cX7_takes 41 = .ok (.return_, 1) := by decide +kernel
theorem dX7_minute_0 : decode cX7_minute 0 = .ok (.iconst 0, 1) := by decide +kernel
theorem dX7_minute_1 : decode cX7_minute 1 = .ok (.istore_n 1, 1) := by decide +kernel
theorem dX7_minute_2 : decode cX7_minute 2 = .ok (.iload_n 1, 1) := by decide +kernel
theorem dX7_minute_3 : decode cX7_minute 3 = .ok (.aload_n 0, 1) := by decide +kernel
theorem dX7_minute_4 : decode cX7_minute 4 = .ok (.getfield 7, 3) := by decide +kernel
theorem dX7_minute_7 : decode cX7_minute 7 = .ok (.iconst 2, 1) := by decide +kernel
theorem dX7_minute_8 : decode cX7_minute 8 = .ok (.iaload, 1) := by decide +kernel
theorem dX7_minute_9 : decode cX7_minute 9 = .ok (.if_icmp .ge 23, 3) := by decide +kernel
theorem dX7_minute_12 : decode cX7_minute 12 = .ok (.aload_n 0, 1) := by decide +kernel
theorem dX7_minute_13 : decode cX7_minute 13 = .ok (.iload_n 1, 1) := by decide +kernel
theorem dX7_minute_14 : decode cX7_minute 14 = .ok (.iconst 2, 1) := by decide +kernel
theorem dX7_minute_15 : decode cX7_minute 15 = .ok (.invokevirtual 51, 3) := by decide +kernel
theorem dX7_minute_18 : decode cX7_minute 18 = .ok (.ifCond .ne 8, 3) := by decide +kernel
theorem dX7_minute_21 : decode cX7_minute 21 = .ok (.aload_n 0, 1) := by decide +kernel
theorem dX7_minute_22 : decode cX7_minute 22 = .ok (.iload_n 1, 1) := by decide +kernel
theorem dX7_minute_23 : decode cX7_minute 23 = .ok (.invokevirtual 82, 3) := by decide +kernel
theorem dX7_minute_26 : decode cX7_minute 26 = .ok (.iinc 1 1, 3) := by decide +kernel
theorem dX7_minute_29 : decode cX7_minute 29 = .ok (.goto (-27), 3) := by decide +kernel
theorem dX7_minute_32 : decode cX7_minute 32 = .ok (.iconst 0, 1) := by decide +kernel
theorem dX7_minute_33 : decode cX7_minute 33 = .ok (.istore_n 1, 1) := by decide +kernel
theorem dX7_minute_34 : decode cX7_minute 34 = .ok (.iload_n 1, 1) := by decide +kernel
theorem dX7_minute_35 : decode cX7_minute 35 = .ok (.aload_n 0, 1) := by decide +kernel
theorem dX7_minute_36 : decode cX7_minute 36 = .ok (.getfield 7, 3) := by decide +kernel
theorem dX7_minute_39 : decode cX7_minute 39 = .ok (.iconst 2, 1) := by decide +kernel
theorem dX7_minute_40 : decode cX7_minute 40 = .ok (.iaload, 1) := by decide +kernel
theorem dX7_minute_41 : decode cX7_minute 41 = .ok (.if_icmp .ge 23, 3) := by decide +kernel
theorem dX7_minute_44 : decode cX7_minute 44 = .ok (.aload_n 0, 1) := by decide +kernel
theorem dX7_minute_45 : decode cX7_minute 45 = .ok (.iload_n 1, 1) := by decide +kernel
theorem dX7_minute_46 : decode cX7_minute 46 = .ok (.iconst 2, 1) := by decide +kernel
theorem dX7_minute_47 : decode cX7_minute 47 = .ok (.invokevirtual 51, 3) := by decide +kernel
theorem dX7_minute_50 : decode cX7_minute 50 = .ok (.ifCond .le 8, 3) := by decide +kernel
theorem dX7_minute_53 : decode cX7_minute 53 = .ok (.aload_n 0, 1) := by decide +kernel
theorem dX7_minute_54 : decode cX7_minute 54 = .ok (.iload_n 1, 1) := by decide +kernel
theorem dX7_minute_55 : decode cX7_minute 55 = .ok (.invokevirtual 85, 3) := by decide +kernel
theorem dX7_minute_58 : decode cX7_minute 58 = .ok (.iinc 1 1, 3) := by decide +kernel
theorem dX7_minute_61 : decode cX7_minute 61 = .ok (.goto (-27), 3) := by decide +kernel
theorem dX7_minute_64 : decode cX7_minute 64 = .ok (.iconst 0, 1) := by decide +kernel
theorem dX7_minute_65 : decode cX7_minute 65 = .ok (.istore_n 1, 1) := by decide +kernel
theorem dX7_minute_66 : decode cX7_minute 66 = .ok (.iload_n 1, 1) := by decide +kernel
theorem dX7_minute_67 : decode cX7_minute 67 = .ok (.aload_n 0, 1) := by decide +kernel
theorem dX7_minute_68 : decode cX7_minute 68 = .ok (.getfield 7, 3) := by decide +kernel
theorem dX7_minute_71 : decode cX7_minute 71 = .ok (.iconst 1, 1) := by decide +kernel
theorem dX7_minute_72 : decode cX7_minute 72 = .ok (.iaload, 1) := by decide +kernel
theorem dX7_minute_73 : decode cX7_minute 73 = .ok (.if_icmp .ge 52, 3) := by decide +kernel
theorem dX7_minute_76 : decode cX7_minute 76 = .ok (.aload_n 0, 1) := by decide +kernel
theorem dX7_minute_77 : decode cX7_minute 77 = .ok (.iload_n 1, 1) := by decide +kernel
theorem dX7_minute_78 : decode cX7_minute 78 = .ok (.iconst 4, 1) := by decide +kernel
theorem dX7_minute_79 : decode cX7_minute 79 = .ok (.invokevirtual 39, 3) := by decide +kernel
theorem dX7_minute_82 : decode cX7_minute 82 = .ok (.ifCond .ne 37, 3) := by decide +kernel
theorem dX7_minute_85 : decode cX7_minute 85 = .ok (.aload_n 0, 1) := by decide +kernel
theorem dX7_minute_86 : decode cX7_minute 86 = .ok (.iload_n 1, 1) := by decide +kernel
theorem dX7_minute_87 : decode cX7_minute 87 = .ok (.iconst 2, 1) := by decide +kernel
theorem dX7_minute_88 : decode cX7_minute 88 = .ok (.aload_n 0, 1) := by decide +kernel
theorem dX7_minute_89 : decode cX7_minute 89 = .ok (.iload_n 1, 1) := by decide +kernel
theorem dX7_minute_90 : decode cX7_minute 90 = .ok (.iconst 2, 1) := by decide +kernel
theorem dX7_minute_91 : decode cX7_minute 91 = .ok (.invokevirtual 39, 3) := by decide +kernel
theorem dX7_minute_94 : decode cX7_minute 94 = .ok (.iconst 1, 1) := by decide +kernel
theorem dX7_minute_95 : decode cX7_minute 95 = .ok (.isub, 1) := by decide +kernel
theorem dX7_minute_96 : decode cX7_minute 96 = .ok (.invokevirtual 47, 3) := by decide +kernel
theorem dX7_minute_99 : decode cX7_minute 99 = .ok (.aload_n 0, 1) := by decide +kernel
theorem dX7_minute_100 : decode cX7_minute 100 = .ok (.iload_n 1, 1) := by decide +kernel
theorem dX7_minute_101 : decode cX7_minute 101 = .ok (.iconst 4, 1) := by decide +kernel
theorem dX7_minute_102 : decode cX7_minute 102 = .ok (.aload_n 0, 1) := by decide +kernel
theorem dX7_minute_103 : decode cX7_minute 103 = .ok (.iload_n 1, 1) := by decide +kernel
theorem dX7_minute_104 : decode cX7_minute 104 = .ok (.iconst 2, 1) := by decide +kernel
theorem dX7_minute_105 : decode cX7_minute 105 = .ok (.invokevirtual 39, 3) := by decide +kernel
theorem dX7_minute_108 : decode cX7_minute 108 = .ok (.ifCond .ne 7, 3) := by decide +kernel
theorem dX7_minute_111 : decode cX7_minute 111 = .ok (.iconst 4, 1) := by decide +kernel
theorem dX7_minute_112 : decode cX7_minute 112 = .ok (.goto 4, 3) := by decide +kernel
theorem dX7_minute_115 : decode cX7_minute 115 = .ok (.iconst 0, 1) := by decide +kernel
theorem dX7_minute_116 : decode cX7_minute 116 = .ok (.invokevirtual 47, 3) := by decide +kernel
theorem dX7_minute_119 : decode cX7_minute 119 = .ok (.iinc 1 1, 3) := by decide +kernel
theorem dX7_minute_122 : decode cX7_minute 122 = .ok (.goto (-56), 3) := by decide +kernel
theorem dX7_minute_125 : decode cX7_minute 125 = .ok (.aload_n 0, 1) := by decide +kernel
theorem dX7_minute_126 : decode cX7_minute 126 = .ok (.getfield 7, 3) := by decide +kernel
theorem dX7_minute_129 : decode cX7_minute 129 = .ok (.iconst 0, 1) := by decide +kernel
theorem dX7_minute_130 : decode cX7_minute 130 = .ok (.dup2, 1) := by decide +kernel
theorem dX7_minute_131 : decode cX7_minute 131 = .ok (.iaload, 1) := by decide +kernel
theorem dX7_minute_132 : decode cX7_minute 132 = .ok (.iconst 1, 1) := by decide +kernel
theorem dX7_minute_133 : decode cX7_minute 133 = .ok (.iadd, 1) := by decide +kernel
theorem dX7_minute_134 : decode cX7_minute 134 = .ok (.iastore, 1) := by decide +kernel
theorem dX7_minute_135 : decode cX7_minute 135 = .ok (.return_, 1) := by decide +kernel
theorem dX7_withHow_0 : decode cX7_withHow 0 = .ok (.iconst 0, 1) := by decide +kernel
theorem dX7_withHow_1 : decode cX7_withHow 1 = .ok (.istore_n 2, 1) := by decide +kernel
theorem dX7_withHow_2 : decode cX7_withHow 2 = .ok (.iconst 0, 1) := by decide +kernel
theorem dX7_withHow_3 : decode cX7_withHow 3 = .ok (.istore_n 3, 1) := by decide +kernel
theorem dX7_withHow_4 : decode cX7_withHow 4 = .ok (.iload_n 3, 1) := by decide +kernel
theorem dX7_withHow_5 : decode cX7_withHow 5 = .ok (.aload_n 0, 1) := by decide +kernel
theorem dX7_withHow_6 : decode cX7_withHow 6 = .ok (.getfield 7, 3) := by decide +kernel
theorem dX7_withHow_9 : decode cX7_withHow 9 = .ok (.iconst 1, 1) := by decide +kernel
theorem dX7_withHow_10 : decode cX7_withHow 10 = .ok (.iaload, 1) := by decide +kernel
theorem dX7_withHow_11 : decode cX7_withHow 11 = .ok (.if_icmp .ge 27, 3) := by decide +kernel
theorem dX7_withHow_14 : decode cX7_withHow 14 = .ok (.iload_n 2, 1) := by decide +kernel
theorem dX7_withHow_15 : decode cX7_withHow 15 = .ok (.aload_n 0, 1) := by decide +kernel
theorem dX7_withHow_16 : decode cX7_withHow 16 = .ok (.iload_n 3, 1) := by decide +kernel
theorem dX7_withHow_17 : decode cX7_withHow 17 = .ok (.iconst 4, 1) := by decide +kernel
theorem dX7_withHow_18 : decode cX7_withHow 18 = .ok (.invokevirtual 39, 3) := by decide +kernel
theorem dX7_withHow_21 : decode cX7_withHow 21 = .ok (.iload_n 1, 1) := by decide +kernel
theorem dX7_withHow_22 : decode cX7_withHow 22 = .ok (.if_icmp .ne 7, 3) := by decide +kernel
theorem dX7_withHow_25 : decode cX7_withHow 25 = .ok (.iconst 1, 1) := by decide +kernel
theorem dX7_withHow_26 : decode cX7_withHow 26 = .ok (.goto 4, 3) := by decide +kernel
theorem dX7_withHow_29 : decode cX7_withHow 29 = .ok (.iconst 0, 1) := by decide +kernel
theorem dX7_withHow_30 : decode cX7_withHow 30 = .ok (.iadd, 1) := by decide +kernel
theorem dX7_withHow_31 : decode cX7_withHow 31 = .ok (.istore_n 2, 1) := by decide +kernel
theorem dX7_withHow_32 : decode cX7_withHow 32 = .ok (.iinc 3 1, 3) := by decide +kernel
theorem dX7_withHow_35 : decode cX7_withHow 35 = .ok (.goto (-31), 3) := by decide +kernel
theorem dX7_withHow_38 : decode cX7_withHow 38 = .ok (.iload_n 2, 1) := by decide +kernel
theorem dX7_withHow_39 : decode cX7_withHow 39 = .ok (.ireturn, 1) := by decide +kernel
theorem dX7_minutes_0 : decode cX7_minutes 0 = .ok (.aload_n 0, 1) := by decide +kernel
theorem dX7_minutes_1 : decode cX7_minutes 1 = .ok (.iconst 2, 1) := by decide +kernel
theorem dX7_minutes_2 : decode cX7_minutes 2 = .ok (.invokevirtual 88, 3) := by decide +kernel
theorem dX7_minutes_5 : decode cX7_minutes 5 = .ok (.istore_n 2, 1) := by decide +kernel
theorem dX7_minutes_6 : decode cX7_minutes 6 = .ok (.iconst 0, 1) := by decide +kernel
theorem dX7_minutes_7 : decode cX7_minutes 7 = .ok (.istore_n 3, 1) := by decide +kernel
theorem dX7_minutes_8 : decode cX7_minutes 8 = .ok (.iload_n 3, 1) := by decide +kernel
theorem dX7_minutes_9 : decode cX7_minutes 9 = .ok (.iload_n 1, 1) := by decide +kernel
theorem dX7_minutes_10 : decode cX7_minutes 10 = .ok (.if_icmp .ge 13, 3) := by decide +kernel
theorem dX7_minutes_13 : decode cX7_minutes 13 = .ok (.aload_n 0, 1) := by decide +kernel
theorem dX7_minutes_14 : decode cX7_minutes 14 = .ok (.invokevirtual 91, 3) := by decide +kernel
theorem dX7_minutes_17 : decode cX7_minutes 17 = .ok (.iinc 3 1, 3) := by decide +kernel
theorem dX7_minutes_20 : decode cX7_minutes 20 = .ok (.goto (-12), 3) := by decide +kernel
theorem dX7_minutes_23 : decode cX7_minutes 23 = .ok (.aload_n 0, 1) := by decide +kernel
theorem dX7_minutes_24 : decode cX7_minutes 24 = .ok (.iconst 2, 1) := by decide +kernel
theorem dX7_minutes_25 : decode cX7_minutes 25 = .ok (.invokevirtual 88, 3) := by decide +kernel
theorem dX7_minutes_28 : decode cX7_minutes 28 = .ok (.iload_n 2, 1) := by decide +kernel
theorem dX7_minutes_29 : decode cX7_minutes 29 = .ok (.isub, 1) := by decide +kernel
theorem dX7_minutes_30 : decode cX7_minutes 30 = .ok (.ireturn, 1) := by decide +kernel
theorem dX7_refusesThing_0 : decode cX7_refusesThing 0 = .ok (.iload_n 1, 1) := by decide +kernel
theorem dX7_refusesThing_1 : decode cX7_refusesThing 1 = .ok (.iconst 0, 1) := by decide +kernel
theorem dX7_refusesThing_2 : decode cX7_refusesThing 2 = .ok (.iconst 5, 1) := by decide +kernel
theorem dX7_refusesThing_3 : decode cX7_refusesThing 3 = .ok (.invokestatic 94, 3) := by decide +kernel
theorem dX7_refusesThing_6 : decode cX7_refusesThing 6 = .ok (.ifCond .ne 5, 3) := by decide +kernel
theorem dX7_refusesThing_9 : decode cX7_refusesThing 9 = .ok (.iconst (-1), 1) := by decide +kernel
theorem dX7_refusesThing_10 : decode cX7_refusesThing 10 = .ok (.ireturn, 1) := by decide +kernel
theorem dX7_refusesThing_11 : decode cX7_refusesThing 11 = .ok (.iload_n 2, 1) := by decide +kernel
theorem dX7_refusesThing_12 : decode cX7_refusesThing 12 = .ok (.iload_n 1, 1) := by decide +kernel
theorem dX7_refusesThing_13 : decode cX7_refusesThing 13 = .ok (.invokestatic 43, 3) := by decide +kernel
theorem dX7_refusesThing_16 : decode cX7_refusesThing 16 = .ok (.iconst (-1), 1) := by decide +kernel
theorem dX7_refusesThing_17 : decode cX7_refusesThing 17 = .ok (.ixor, 1) := by decide +kernel
theorem dX7_refusesThing_18 : decode cX7_refusesThing 18 = .ok (.iand, 1) := by decide +kernel
theorem dX7_refusesThing_19 : decode cX7_refusesThing 19 = .ok (.ifCond .ne 24, 3) := by decide +kernel
theorem dX7_refusesThing_22 : decode cX7_refusesThing 22 = .ok (.iload_n 3, 1) := by decide +kernel
theorem dX7_refusesThing_23 : decode cX7_refusesThing 23 = .ok (.iconst 1, 1) := by decide +kernel
theorem dX7_refusesThing_24 : decode cX7_refusesThing 24 = .ok (.bipush 99, 2) := by decide +kernel
theorem dX7_refusesThing_26 : decode cX7_refusesThing 26 = .ok (.invokestatic 94, 3) := by decide +kernel
theorem dX7_refusesThing_29 : decode cX7_refusesThing 29 = .ok (.ifCond .eq 14, 3) := by decide +kernel
theorem dX7_refusesThing_32 : decode cX7_refusesThing 32 = .ok (.iload 4, 2) := by decide +kernel
theorem dX7_refusesThing_34 : decode cX7_refusesThing 34 = .ok (.iconst 0, 1) := by decide +kernel
theorem dX7_refusesThing_35 : decode cX7_refusesThing 35 = .ok (.bipush 7, 2) := by decide +kernel
theorem dX7_refusesThing_37 : decode cX7_refusesThing 37 = .ok (.invokestatic 94, 3) := by decide +kernel
theorem dX7_refusesThing_40 : decode cX7_refusesThing 40 = .ok (.ifCond .ne 6, 3) := by decide +kernel
theorem dX7_refusesThing_43 : decode cX7_refusesThing 43 = .ok (.bipush (-2), 2) := by decide +kernel
theorem dX7_refusesThing_45 : decode cX7_refusesThing 45 = .ok (.ireturn, 1) := by decide +kernel
theorem dX7_refusesThing_46 : decode cX7_refusesThing 46 = .ok (.aload_n 0, 1) := by decide +kernel
theorem dX7_refusesThing_47 : decode cX7_refusesThing 47 = .ok (.getfield 7, 3) := by decide +kernel
theorem dX7_refusesThing_50 : decode cX7_refusesThing 50 = .ok (.iconst 1, 1) := by decide +kernel
theorem dX7_refusesThing_51 : decode cX7_refusesThing 51 = .ok (.iaload, 1) := by decide +kernel
theorem dX7_refusesThing_52 : decode cX7_refusesThing 52 = .ok (.bipush 30, 2) := by decide +kernel
theorem dX7_refusesThing_54 : decode cX7_refusesThing 54 = .ok (.if_icmp .ne 8, 3) := by decide +kernel
theorem dX7_refusesThing_57 : decode cX7_refusesThing 57 = .ok (.bipush (-4), 2) := by decide +kernel
theorem dX7_refusesThing_59 : decode cX7_refusesThing 59 = .ok (.goto 4, 3) := by decide +kernel
theorem dX7_refusesThing_62 : decode cX7_refusesThing 62 = .ok (.iconst 0, 1) := by decide +kernel
theorem dX7_refusesThing_63 : decode cX7_refusesThing 63 = .ok (.ireturn, 1) := by decide +kernel
theorem dX7_comes_0 : decode cX7_comes 0 = .ok (.aload_n 0, 1) := by decide +kernel
theorem dX7_comes_1 : decode cX7_comes 1 = .ok (.getfield 7, 3) := by decide +kernel
theorem dX7_comes_4 : decode cX7_comes 4 = .ok (.iconst 1, 1) := by decide +kernel
theorem dX7_comes_5 : decode cX7_comes 5 = .ok (.iaload, 1) := by decide +kernel
theorem dX7_comes_6 : decode cX7_comes 6 = .ok (.istore 5, 2) := by decide +kernel
theorem dX7_comes_8 : decode cX7_comes 8 = .ok (.aload_n 0, 1) := by decide +kernel
theorem dX7_comes_9 : decode cX7_comes 9 = .ok (.getfield 7, 3) := by decide +kernel
theorem dX7_comes_12 : decode cX7_comes 12 = .ok (.iconst 1, 1) := by decide +kernel
theorem dX7_comes_13 : decode cX7_comes 13 = .ok (.dup2, 1) := by decide +kernel
theorem dX7_comes_14 : decode cX7_comes 14 = .ok (.iaload, 1) := by decide +kernel
theorem dX7_comes_15 : decode cX7_comes 15 = .ok (.iconst 1, 1) := by decide +kernel
theorem dX7_comes_16 : decode cX7_comes 16 = .ok (.iadd, 1) := by decide +kernel
theorem dX7_comes_17 : decode cX7_comes 17 = .ok (.iastore, 1) := by decide +kernel
theorem dX7_comes_18 : decode cX7_comes 18 = .ok (.aload_n 0, 1) := by decide +kernel
theorem dX7_comes_19 : decode cX7_comes 19 = .ok (.iload 5, 2) := by decide +kernel
theorem dX7_comes_21 : decode cX7_comes 21 = .ok (.iconst 0, 1) := by decide +kernel
theorem dX7_comes_22 : decode cX7_comes 22 = .ok (.iload_n 1, 1) := by decide +kernel
theorem dX7_comes_23 : decode cX7_comes 23 = .ok (.invokevirtual 47, 3) := by decide +kernel
theorem dX7_comes_26 : decode cX7_comes 26 = .ok (.aload_n 0, 1) := by decide +kernel
theorem dX7_comes_27 : decode cX7_comes 27 = .ok (.iload 5, 2) := by decide +kernel
theorem dX7_comes_29 : decode cX7_comes 29 = .ok (.iconst 1, 1) := by decide +kernel
theorem dX7_comes_30 : decode cX7_comes 30 = .ok (.iload_n 2, 1) := by decide +kernel
theorem dX7_comes_31 : decode cX7_comes 31 = .ok (.invokevirtual 47, 3) := by decide +kernel
theorem dX7_comes_34 : decode cX7_comes 34 = .ok (.aload_n 0, 1) := by decide +kernel
theorem dX7_comes_35 : decode cX7_comes 35 = .ok (.iload 5, 2) := by decide +kernel
theorem dX7_comes_37 : decode cX7_comes 37 = .ok (.iconst 2, 1) := by decide +kernel
theorem dX7_comes_38 : decode cX7_comes 38 = .ok (.iload_n 3, 1) := by decide +kernel
theorem dX7_comes_39 : decode cX7_comes 39 = .ok (.invokevirtual 47, 3) := by decide +kernel
theorem dX7_comes_42 : decode cX7_comes 42 = .ok (.aload_n 0, 1) := by decide +kernel
theorem dX7_comes_43 : decode cX7_comes 43 = .ok (.iload 5, 2) := by decide +kernel
theorem dX7_comes_45 : decode cX7_comes 45 = .ok (.iconst 3, 1) := by decide +kernel
theorem dX7_comes_46 : decode cX7_comes 46 = .ok (.iload 4, 2) := by decide +kernel
theorem dX7_comes_48 : decode cX7_comes 48 = .ok (.invokevirtual 47, 3) := by decide +kernel
theorem dX7_comes_51 : decode cX7_comes 51 = .ok (.aload_n 0, 1) := by decide +kernel
theorem dX7_comes_52 : decode cX7_comes 52 = .ok (.iload 5, 2) := by decide +kernel
theorem dX7_comes_54 : decode cX7_comes 54 = .ok (.iconst 4, 1) := by decide +kernel
theorem dX7_comes_55 : decode cX7_comes 55 = .ok (.iconst 0, 1) := by decide +kernel
theorem dX7_comes_56 : decode cX7_comes 56 = .ok (.invokevirtual 47, 3) := by decide +kernel
theorem dX7_comes_59 : decode cX7_comes 59 = .ok (.aload_n 0, 1) := by decide +kernel
theorem dX7_comes_60 : decode cX7_comes 60 = .ok (.iload 5, 2) := by decide +kernel
theorem dX7_comes_62 : decode cX7_comes 62 = .ok (.iconst 5, 1) := by decide +kernel
theorem dX7_comes_63 : decode cX7_comes 63 = .ok (.iconst 0, 1) := by decide +kernel
theorem dX7_comes_64 : decode cX7_comes 64 = .ok (.invokevirtual 47, 3) := by decide +kernel
theorem dX7_comes_67 : decode cX7_comes 67 = .ok (.aload_n 0, 1) := by decide +kernel
theorem dX7_comes_68 : decode cX7_comes 68 = .ok (.iload 5, 2) := by decide +kernel
theorem dX7_comes_70 : decode cX7_comes 70 = .ok (.bipush 6, 2) := by decide +kernel
theorem dX7_comes_72 : decode cX7_comes 72 = .ok (.iconst 0, 1) := by decide +kernel
theorem dX7_comes_73 : decode cX7_comes 73 = .ok (.invokevirtual 47, 3) := by decide +kernel
theorem dX7_comes_76 : decode cX7_comes 76 = .ok (.iload 5, 2) := by decide +kernel
theorem dX7_comes_78 : decode cX7_comes 78 = .ok (.ireturn, 1) := by decide +kernel
theorem dX7_thing_0 : decode cX7_thing 0 = .ok (.aload_n 0, 1) := by decide +kernel
theorem dX7_thing_1 : decode cX7_thing 1 = .ok (.iconst 0, 1) := by decide +kernel
theorem dX7_thing_2 : decode cX7_thing 2 = .ok (.putfield 32, 3) := by decide +kernel
theorem dX7_thing_5 : decode cX7_thing 5 = .ok (.aload_n 0, 1) := by decide +kernel
theorem dX7_thing_6 : decode cX7_thing 6 = .ok (.iload_n 1, 1) := by decide +kernel
theorem dX7_thing_7 : decode cX7_thing 7 = .ok (.iload_n 2, 1) := by decide +kernel
theorem dX7_thing_8 : decode cX7_thing 8 = .ok (.iload_n 3, 1) := by decide +kernel
theorem dX7_thing_9 : decode cX7_thing 9 = .ok (.iload 4, 2) := by decide +kernel
theorem dX7_thing_11 : decode cX7_thing 11 = .ok (.invokevirtual 98, 3) := by decide +kernel
theorem dX7_thing_14 : decode cX7_thing 14 = .ok (.istore 5, 2) := by decide +kernel
theorem dX7_thing_16 : decode cX7_thing 16 = .ok (.iload 5, 2) := by decide +kernel
theorem dX7_thing_18 : decode cX7_thing 18 = .ok (.ifCond .eq 6, 3) := by decide +kernel
theorem dX7_thing_21 : decode cX7_thing 21 = .ok (.iload 5, 2) := by decide +kernel
theorem dX7_thing_23 : decode cX7_thing 23 = .ok (.ireturn, 1) := by decide +kernel
theorem dX7_thing_24 : decode cX7_thing 24 = .ok (.aload_n 0, 1) := by decide +kernel
theorem dX7_thing_25 : decode cX7_thing 25 = .ok (.invokevirtual 102, 3) := by decide +kernel
theorem dX7_thing_28 : decode cX7_thing 28 = .ok (.aload_n 0, 1) := by decide +kernel
theorem dX7_thing_29 : decode cX7_thing 29 = .ok (.iload_n 1, 1) := by decide +kernel
theorem dX7_thing_30 : decode cX7_thing 30 = .ok (.iload_n 2, 1) := by decide +kernel
theorem dX7_thing_31 : decode cX7_thing 31 = .ok (.iload_n 3, 1) := by decide +kernel
theorem dX7_thing_32 : decode cX7_thing 32 = .ok (.iload 4, 2) := by decide +kernel
theorem dX7_thing_34 : decode cX7_thing 34 = .ok (.invokevirtual 105, 3) := by decide +kernel
theorem dX7_thing_37 : decode cX7_thing 37 = .ok (.ireturn, 1) := by decide +kernel
theorem dX7_refusesFixer_0 : decode cX7_refusesFixer 0 = .ok (.iload_n 1, 1) := by decide +kernel
theorem dX7_refusesFixer_1 : decode cX7_refusesFixer 1 = .ok (.iconst 1, 1) := by decide +kernel
theorem dX7_refusesFixer_2 : decode cX7_refusesFixer 2 = .ok (.bipush 63, 2) := by decide +kernel
theorem dX7_refusesFixer_4 : decode cX7_refusesFixer 4 = .ok (.invokestatic 94, 3) := by decide +kernel
theorem dX7_refusesFixer_7 : decode cX7_refusesFixer 7 = .ok (.ifCond .eq 13, 3) := by decide +kernel
theorem dX7_refusesFixer_10 : decode cX7_refusesFixer 10 = .ok (.iload_n 2, 1) := by decide +kernel
theorem dX7_refusesFixer_11 : decode cX7_refusesFixer 11 = .ok (.iconst 0, 1) := by decide +kernel
theorem dX7_refusesFixer_12 : decode cX7_refusesFixer 12 = .ok (.bipush 9, 2) := by decide +kernel
theorem dX7_refusesFixer_14 : decode cX7_refusesFixer 14 = .ok (.invokestatic 94, 3) := by decide +kernel
theorem dX7_refusesFixer_17 : decode cX7_refusesFixer 17 = .ok (.ifCond .ne 6, 3) := by decide +kernel
theorem dX7_refusesFixer_20 : decode cX7_refusesFixer 20 = .ok (.bipush (-2), 2) := by decide +kernel
theorem dX7_refusesFixer_22 : decode cX7_refusesFixer 22 = .ok (.ireturn, 1) := by decide +kernel
theorem dX7_refusesFixer_23 : decode cX7_refusesFixer 23 = .ok (.aload_n 0, 1) := by decide +kernel
theorem dX7_refusesFixer_24 : decode cX7_refusesFixer 24 = .ok (.getfield 7, 3) := by decide +kernel
theorem dX7_refusesFixer_27 : decode cX7_refusesFixer 27 = .ok (.iconst 2, 1) := by decide +kernel
theorem dX7_refusesFixer_28 : decode cX7_refusesFixer 28 = .ok (.iaload, 1) := by decide +kernel
theorem dX7_refusesFixer_29 : decode cX7_refusesFixer 29 = .ok (.iconst 5, 1) := by decide +kernel
theorem dX7_refusesFixer_30 : decode cX7_refusesFixer 30 = .ok (.if_icmp .ne 8, 3) := by decide +kernel
theorem dX7_refusesFixer_33 : decode cX7_refusesFixer 33 = .ok (.bipush (-4), 2) := by decide +kernel
theorem dX7_refusesFixer_35 : decode cX7_refusesFixer 35 = .ok (.goto 4, 3) := by decide +kernel
theorem dX7_refusesFixer_38 : decode cX7_refusesFixer 38 = .ok (.iconst 0, 1) := by decide +kernel
theorem dX7_refusesFixer_39 : decode cX7_refusesFixer 39 = .ok (.ireturn, 1) := by decide +kernel
theorem dX7_comesFixer_0 : decode cX7_comesFixer 0 = .ok (.bipush 27, 2) := by decide +kernel
theorem dX7_comesFixer_2 : decode cX7_comesFixer 2 = .ok (.bipush 6, 2) := by decide +kernel
theorem dX7_comesFixer_4 : decode cX7_comesFixer 4 = .ok (.aload_n 0, 1) := by decide +kernel
theorem dX7_comesFixer_5 : decode cX7_comesFixer 5 = .ok (.getfield 7, 3) := by decide +kernel
theorem dX7_comesFixer_8 : decode cX7_comesFixer 8 = .ok (.iconst 2, 1) := by decide +kernel
theorem dX7_comesFixer_9 : decode cX7_comesFixer 9 = .ok (.iaload, 1) := by decide +kernel
theorem dX7_comesFixer_10 : decode cX7_comesFixer 10 = .ok (.imul, 1) := by decide +kernel
theorem dX7_comesFixer_11 : decode cX7_comesFixer 11 = .ok (.iadd, 1) := by decide +kernel
theorem dX7_comesFixer_12 : decode cX7_comesFixer 12 = .ok (.istore_n 3, 1) := by decide +kernel
theorem dX7_comesFixer_13 : decode cX7_comesFixer 13 = .ok (.iconst 0, 1) := by decide +kernel
theorem dX7_comesFixer_14 : decode cX7_comesFixer 14 = .ok (.istore 4, 2) := by decide +kernel
theorem dX7_comesFixer_16 : decode cX7_comesFixer 16 = .ok (.iload 4, 2) := by decide +kernel
theorem dX7_comesFixer_18 : decode cX7_comesFixer 18 = .ok (.bipush 6, 2) := by decide +kernel
theorem dX7_comesFixer_20 : decode cX7_comesFixer 20 = .ok (.if_icmp .ge 19, 3) := by decide +kernel
theorem dX7_comesFixer_23 : decode cX7_comesFixer 23 = .ok (.aload_n 0, 1) := by decide +kernel
theorem dX7_comesFixer_24 : decode cX7_comesFixer 24 = .ok (.getfield 7, 3) := by decide +kernel
theorem dX7_comesFixer_27 : decode cX7_comesFixer 27 = .ok (.iload_n 3, 1) := by decide +kernel
theorem dX7_comesFixer_28 : decode cX7_comesFixer 28 = .ok (.iload 4, 2) := by decide +kernel
theorem dX7_comesFixer_30 : decode cX7_comesFixer 30 = .ok (.iadd, 1) := by decide +kernel
theorem dX7_comesFixer_31 : decode cX7_comesFixer 31 = .ok (.iconst 0, 1) := by decide +kernel
theorem dX7_comesFixer_32 : decode cX7_comesFixer 32 = .ok (.iastore, 1) := by decide +kernel
theorem dX7_comesFixer_33 : decode cX7_comesFixer 33 = .ok (.iinc 4 1, 3) := by decide +kernel
theorem dX7_comesFixer_36 : decode cX7_comesFixer 36 = .ok (.goto (-20), 3) := by decide +kernel
theorem dX7_comesFixer_39 : decode cX7_comesFixer 39 = .ok (.aload_n 0, 1) := by decide +kernel
theorem dX7_comesFixer_40 : decode cX7_comesFixer 40 = .ok (.getfield 7, 3) := by decide +kernel
theorem dX7_comesFixer_43 : decode cX7_comesFixer 43 = .ok (.iload_n 3, 1) := by decide +kernel
theorem dX7_comesFixer_44 : decode cX7_comesFixer 44 = .ok (.iconst 0, 1) := by decide +kernel
theorem dX7_comesFixer_45 : decode cX7_comesFixer 45 = .ok (.iadd, 1) := by decide +kernel
theorem dX7_comesFixer_46 : decode cX7_comesFixer 46 = .ok (.iload_n 1, 1) := by decide +kernel
theorem dX7_comesFixer_47 : decode cX7_comesFixer 47 = .ok (.iastore, 1) := by decide +kernel
theorem dX7_comesFixer_48 : decode cX7_comesFixer 48 = .ok (.aload_n 0, 1) := by decide +kernel
theorem dX7_comesFixer_49 : decode cX7_comesFixer 49 = .ok (.getfield 7, 3) := by decide +kernel
theorem dX7_comesFixer_52 : decode cX7_comesFixer 52 = .ok (.iload_n 3, 1) := by decide +kernel
theorem dX7_comesFixer_53 : decode cX7_comesFixer 53 = .ok (.iconst 1, 1) := by decide +kernel
theorem dX7_comesFixer_54 : decode cX7_comesFixer 54 = .ok (.iadd, 1) := by decide +kernel
theorem dX7_comesFixer_55 : decode cX7_comesFixer 55 = .ok (.iload_n 2, 1) := by decide +kernel
theorem dX7_comesFixer_56 : decode cX7_comesFixer 56 = .ok (.iastore, 1) := by decide +kernel
theorem dX7_comesFixer_57 : decode cX7_comesFixer 57 = .ok (.aload_n 0, 1) := by decide +kernel
theorem dX7_comesFixer_58 : decode cX7_comesFixer 58 = .ok (.getfield 7, 3) := by decide +kernel
theorem dX7_comesFixer_61 : decode cX7_comesFixer 61 = .ok (.iconst 2, 1) := by decide +kernel
theorem dX7_comesFixer_62 : decode cX7_comesFixer 62 = .ok (.dup2, 1) := by decide +kernel
theorem dX7_comesFixer_63 : decode cX7_comesFixer 63 = .ok (.iaload, 1) := by decide +kernel
theorem dX7_comesFixer_64 : decode cX7_comesFixer 64 = .ok (.iconst 1, 1) := by decide +kernel
theorem dX7_comesFixer_65 : decode cX7_comesFixer 65 = .ok (.iadd, 1) := by decide +kernel
theorem dX7_comesFixer_66 : decode cX7_comesFixer 66 = .ok (.iastore, 1) := by decide +kernel
theorem dX7_comesFixer_67 : decode cX7_comesFixer 67 = .ok (.aload_n 0, 1) := by decide +kernel
theorem dX7_comesFixer_68 : decode cX7_comesFixer 68 = .ok (.getfield 7, 3) := by decide +kernel
theorem dX7_comesFixer_71 : decode cX7_comesFixer 71 = .ok (.iconst 2, 1) := by decide +kernel
theorem dX7_comesFixer_72 : decode cX7_comesFixer 72 = .ok (.iaload, 1) := by decide +kernel
theorem dX7_comesFixer_73 : decode cX7_comesFixer 73 = .ok (.iconst 1, 1) := by decide +kernel
theorem dX7_comesFixer_74 : decode cX7_comesFixer 74 = .ok (.isub, 1) := by decide +kernel
theorem dX7_comesFixer_75 : decode cX7_comesFixer 75 = .ok (.ireturn, 1) := by decide +kernel
theorem dX7_fixer_0 : decode cX7_fixer 0 = .ok (.aload_n 0, 1) := by decide +kernel
theorem dX7_fixer_1 : decode cX7_fixer 1 = .ok (.iconst 0, 1) := by decide +kernel
theorem dX7_fixer_2 : decode cX7_fixer 2 = .ok (.putfield 32, 3) := by decide +kernel
theorem dX7_fixer_5 : decode cX7_fixer 5 = .ok (.aload_n 0, 1) := by decide +kernel
theorem dX7_fixer_6 : decode cX7_fixer 6 = .ok (.iload_n 1, 1) := by decide +kernel
theorem dX7_fixer_7 : decode cX7_fixer 7 = .ok (.iload_n 2, 1) := by decide +kernel
theorem dX7_fixer_8 : decode cX7_fixer 8 = .ok (.invokevirtual 108, 3) := by decide +kernel
theorem dX7_fixer_11 : decode cX7_fixer 11 = .ok (.istore_n 3, 1) := by decide +kernel
theorem dX7_fixer_12 : decode cX7_fixer 12 = .ok (.iload_n 3, 1) := by decide +kernel
theorem dX7_fixer_13 : decode cX7_fixer 13 = .ok (.ifCond .eq 5, 3) := by decide +kernel
theorem dX7_fixer_16 : decode cX7_fixer 16 = .ok (.iload_n 3, 1) := by decide +kernel
theorem dX7_fixer_17 : decode cX7_fixer 17 = .ok (.ireturn, 1) := by decide +kernel
theorem dX7_fixer_18 : decode cX7_fixer 18 = .ok (.aload_n 0, 1) := by decide +kernel
theorem dX7_fixer_19 : decode cX7_fixer 19 = .ok (.invokevirtual 102, 3) := by decide +kernel
theorem dX7_fixer_22 : decode cX7_fixer 22 = .ok (.aload_n 0, 1) := by decide +kernel
theorem dX7_fixer_23 : decode cX7_fixer 23 = .ok (.iload_n 1, 1) := by decide +kernel
theorem dX7_fixer_24 : decode cX7_fixer 24 = .ok (.iload_n 2, 1) := by decide +kernel
theorem dX7_fixer_25 : decode cX7_fixer 25 = .ok (.invokevirtual 111, 3) := by decide +kernel
theorem dX7_fixer_28 : decode cX7_fixer 28 = .ok (.ireturn, 1) := by decide +kernel
theorem dX7_refusesDrawer_0 : decode cX7_refusesDrawer 0 = .ok (.iload_n 0, 1) := by decide +kernel
theorem dX7_refusesDrawer_1 : decode cX7_refusesDrawer 1 = .ok (.iconst 0, 1) := by decide +kernel
theorem dX7_refusesDrawer_2 : decode cX7_refusesDrawer 2 = .ok (.bipush 7, 2) := by decide +kernel
theorem dX7_refusesDrawer_4 : decode cX7_refusesDrawer 4 = .ok (.invokestatic 94, 3) := by decide +kernel
theorem dX7_refusesDrawer_7 : decode cX7_refusesDrawer 7 = .ok (.ifCond .ne 7, 3) := by decide +kernel
theorem dX7_refusesDrawer_10 : decode cX7_refusesDrawer 10 = .ok (.iconst (-1), 1) := by decide +kernel
theorem dX7_refusesDrawer_11 : decode cX7_refusesDrawer 11 = .ok (.goto 19, 3) := by decide +kernel
theorem dX7_refusesDrawer_14 : decode cX7_refusesDrawer 14 = .ok (.iload_n 1, 1) := by decide +kernel
theorem dX7_refusesDrawer_15 : decode cX7_refusesDrawer 15 = .ok (.iconst 0, 1) := by decide +kernel
theorem dX7_refusesDrawer_16 : decode cX7_refusesDrawer 16 = .ok (.bipush 99, 2) := by decide +kernel
theorem dX7_refusesDrawer_18 : decode cX7_refusesDrawer 18 = .ok (.invokestatic 94, 3) := by decide +kernel
theorem dX7_refusesDrawer_21 : decode cX7_refusesDrawer 21 = .ok (.ifCond .eq 7, 3) := by decide +kernel
theorem dX7_refusesDrawer_24 : decode cX7_refusesDrawer 24 = .ok (.iconst 0, 1) := by decide +kernel
theorem dX7_refusesDrawer_25 : decode cX7_refusesDrawer 25 = .ok (.goto 5, 3) := by decide +kernel
theorem dX7_refusesDrawer_28 : decode cX7_refusesDrawer 28 = .ok (.bipush (-2), 2) := by decide +kernel
theorem dX7_refusesDrawer_30 : decode cX7_refusesDrawer 30 = .ok (.ireturn, 1) := by decide +kernel
theorem dX7_drawer_0 : decode cX7_drawer 0 = .ok (.aload_n 0, 1) := by decide +kernel
theorem dX7_drawer_1 : decode cX7_drawer 1 = .ok (.iconst 0, 1) := by decide +kernel
theorem dX7_drawer_2 : decode cX7_drawer 2 = .ok (.putfield 32, 3) := by decide +kernel
theorem dX7_drawer_5 : decode cX7_drawer 5 = .ok (.iload_n 1, 1) := by decide +kernel
theorem dX7_drawer_6 : decode cX7_drawer 6 = .ok (.iload_n 2, 1) := by decide +kernel
theorem dX7_drawer_7 : decode cX7_drawer 7 = .ok (.invokestatic 114, 3) := by decide +kernel
theorem dX7_drawer_10 : decode cX7_drawer 10 = .ok (.istore_n 3, 1) := by decide +kernel
theorem dX7_drawer_11 : decode cX7_drawer 11 = .ok (.iload_n 3, 1) := by decide +kernel
theorem dX7_drawer_12 : decode cX7_drawer 12 = .ok (.ifCond .eq 5, 3) := by decide +kernel
theorem dX7_drawer_15 : decode cX7_drawer 15 = .ok (.iload_n 3, 1) := by decide +kernel
theorem dX7_drawer_16 : decode cX7_drawer 16 = .ok (.ireturn, 1) := by decide +kernel
theorem dX7_drawer_17 : decode cX7_drawer 17 = .ok (.aload_n 0, 1) := by decide +kernel
theorem dX7_drawer_18 : decode cX7_drawer 18 = .ok (.invokevirtual 102, 3) := by decide +kernel
theorem dX7_drawer_21 : decode cX7_drawer 21 = .ok (.aload_n 0, 1) := by decide +kernel
theorem dX7_drawer_22 : decode cX7_drawer 22 = .ok (.getfield 7, 3) := by decide +kernel
theorem dX7_drawer_25 : decode cX7_drawer 25 = .ok (.iconst 3, 1) := by decide +kernel
theorem dX7_drawer_26 : decode cX7_drawer 26 = .ok (.iload_n 1, 1) := by decide +kernel
theorem dX7_drawer_27 : decode cX7_drawer 27 = .ok (.iadd, 1) := by decide +kernel
theorem dX7_drawer_28 : decode cX7_drawer 28 = .ok (.iaload, 1) := by decide +kernel
theorem dX7_drawer_29 : decode cX7_drawer 29 = .ok (.istore 4, 2) := by decide +kernel
theorem dX7_drawer_31 : decode cX7_drawer 31 = .ok (.aload_n 0, 1) := by decide +kernel
theorem dX7_drawer_32 : decode cX7_drawer 32 = .ok (.getfield 7, 3) := by decide +kernel
theorem dX7_drawer_35 : decode cX7_drawer 35 = .ok (.iconst 3, 1) := by decide +kernel
theorem dX7_drawer_36 : decode cX7_drawer 36 = .ok (.iload_n 1, 1) := by decide +kernel
theorem dX7_drawer_37 : decode cX7_drawer 37 = .ok (.iadd, 1) := by decide +kernel
theorem dX7_drawer_38 : decode cX7_drawer 38 = .ok (.iload_n 2, 1) := by decide +kernel
theorem dX7_drawer_39 : decode cX7_drawer 39 = .ok (.iastore, 1) := by decide +kernel
theorem dX7_drawer_40 : decode cX7_drawer 40 = .ok (.iload 4, 2) := by decide +kernel
theorem dX7_drawer_42 : decode cX7_drawer 42 = .ok (.ireturn, 1) := by decide +kernel
theorem dX7_isThing_0 : decode cX7_isThing 0 = .ok (.iload_n 1, 1) := by decide +kernel
theorem dX7_isThing_1 : decode cX7_isThing 1 = .ok (.iconst 0, 1) := by decide +kernel
theorem dX7_isThing_2 : decode cX7_isThing 2 = .ok (.aload_n 0, 1) := by decide +kernel
theorem dX7_isThing_3 : decode cX7_isThing 3 = .ok (.getfield 7, 3) := by decide +kernel
theorem dX7_isThing_6 : decode cX7_isThing 6 = .ok (.iconst 1, 1) := by decide +kernel
theorem dX7_isThing_7 : decode cX7_isThing 7 = .ok (.iaload, 1) := by decide +kernel
theorem dX7_isThing_8 : decode cX7_isThing 8 = .ok (.iconst 1, 1) := by decide +kernel
theorem dX7_isThing_9 : decode cX7_isThing 9 = .ok (.isub, 1) := by decide +kernel
theorem dX7_isThing_10 : decode cX7_isThing 10 = .ok (.invokestatic 94, 3) := by decide +kernel
theorem dX7_isThing_13 : decode cX7_isThing 13 = .ok (.ireturn, 1) := by decide +kernel
theorem dX7_giveUp_0 : decode cX7_giveUp 0 = .ok (.aload_n 0, 1) := by decide +kernel
theorem dX7_giveUp_1 : decode cX7_giveUp 1 = .ok (.iconst 0, 1) := by decide +kernel
theorem dX7_giveUp_2 : decode cX7_giveUp 2 = .ok (.putfield 32, 3) := by decide +kernel
theorem dX7_giveUp_5 : decode cX7_giveUp 5 = .ok (.aload_n 0, 1) := by decide +kernel
theorem dX7_giveUp_6 : decode cX7_giveUp 6 = .ok (.iload_n 1, 1) := by decide +kernel
theorem dX7_giveUp_7 : decode cX7_giveUp 7 = .ok (.invokevirtual 117, 3) := by decide +kernel
theorem dX7_giveUp_10 : decode cX7_giveUp 10 = .ok (.ifCond .ne 5, 3) := by decide +kernel
theorem dX7_giveUp_13 : decode cX7_giveUp 13 = .ok (.iconst (-1), 1) := by decide +kernel
theorem dX7_giveUp_14 : decode cX7_giveUp 14 = .ok (.ireturn, 1) := by decide +kernel
theorem dX7_giveUp_15 : decode cX7_giveUp 15 = .ok (.aload_n 0, 1) := by decide +kernel
theorem dX7_giveUp_16 : decode cX7_giveUp 16 = .ok (.iload_n 1, 1) := by decide +kernel
theorem dX7_giveUp_17 : decode cX7_giveUp 17 = .ok (.iconst 4, 1) := by decide +kernel
theorem dX7_giveUp_18 : decode cX7_giveUp 18 = .ok (.invokevirtual 39, 3) := by decide +kernel
theorem dX7_giveUp_21 : decode cX7_giveUp 21 = .ok (.ifCond .eq 6, 3) := by decide +kernel
theorem dX7_giveUp_24 : decode cX7_giveUp 24 = .ok (.bipush (-5), 2) := by decide +kernel
theorem dX7_giveUp_26 : decode cX7_giveUp 26 = .ok (.ireturn, 1) := by decide +kernel
theorem dX7_giveUp_27 : decode cX7_giveUp 27 = .ok (.aload_n 0, 1) := by decide +kernel
theorem dX7_giveUp_28 : decode cX7_giveUp 28 = .ok (.invokevirtual 102, 3) := by decide +kernel
theorem dX7_giveUp_31 : decode cX7_giveUp 31 = .ok (.aload_n 0, 1) := by decide +kernel
theorem dX7_giveUp_32 : decode cX7_giveUp 32 = .ok (.iload_n 1, 1) := by decide +kernel
theorem dX7_giveUp_33 : decode cX7_giveUp 33 = .ok (.invokevirtual 54, 3) := by decide +kernel
theorem dX7_giveUp_36 : decode cX7_giveUp 36 = .ok (.ireturn, 1) := by decide +kernel
theorem dX7_refusesPass_0 : decode cX7_refusesPass 0 = .ok (.iload_n 1, 1) := by decide +kernel
theorem dX7_refusesPass_1 : decode cX7_refusesPass 1 = .ok (.iconst 1, 1) := by decide +kernel
theorem dX7_refusesPass_2 : decode cX7_refusesPass 2 = .ok (.bipush 99, 2) := by decide +kernel
theorem dX7_refusesPass_4 : decode cX7_refusesPass 4 = .ok (.invokestatic 94, 3) := by decide +kernel
theorem dX7_refusesPass_7 : decode cX7_refusesPass 7 = .ok (.ifCond .ne 6, 3) := by decide +kernel
theorem dX7_refusesPass_10 : decode cX7_refusesPass 10 = .ok (.bipush (-2), 2) := by decide +kernel
theorem dX7_refusesPass_12 : decode cX7_refusesPass 12 = .ok (.ireturn, 1) := by decide +kernel
theorem dX7_refusesPass_13 : decode cX7_refusesPass 13 = .ok (.aload_n 0, 1) := by decide +kernel
theorem dX7_refusesPass_14 : decode cX7_refusesPass 14 = .ok (.getfield 7, 3) := by decide +kernel
theorem dX7_refusesPass_17 : decode cX7_refusesPass 17 = .ok (.iconst 0, 1) := by decide +kernel
theorem dX7_refusesPass_18 : decode cX7_refusesPass 18 = .ok (.iaload, 1) := by decide +kernel
theorem dX7_refusesPass_19 : decode cX7_refusesPass 19 = .ok (.iload_n 1, 1) := by decide +kernel
theorem dX7_refusesPass_20 : decode cX7_refusesPass 20 = .ok (.iadd, 1) := by decide +kernel
theorem dX7_refusesPass_21 : decode cX7_refusesPass 21 = .ok (.sipush 9999, 3) := by decide +kernel
theorem dX7_refusesPass_24 : decode cX7_refusesPass 24 = .ok (.if_icmp .le 8, 3) := by decide +kernel
theorem dX7_refusesPass_27 : decode cX7_refusesPass 27 = .ok (.bipush (-5), 2) := by decide +kernel
theorem dX7_refusesPass_29 : decode cX7_refusesPass 29 = .ok (.goto 4, 3) := by decide +kernel
theorem dX7_refusesPass_32 : decode cX7_refusesPass 32 = .ok (.iconst 0, 1) := by decide +kernel
theorem dX7_refusesPass_33 : decode cX7_refusesPass 33 = .ok (.ireturn, 1) := by decide +kernel
theorem dX7_pass_0 : decode cX7_pass 0 = .ok (.aload_n 0, 1) := by decide +kernel
theorem dX7_pass_1 : decode cX7_pass 1 = .ok (.iconst 0, 1) := by decide +kernel
theorem dX7_pass_2 : decode cX7_pass 2 = .ok (.putfield 32, 3) := by decide +kernel
theorem dX7_pass_5 : decode cX7_pass 5 = .ok (.aload_n 0, 1) := by decide +kernel
theorem dX7_pass_6 : decode cX7_pass 6 = .ok (.iload_n 1, 1) := by decide +kernel
theorem dX7_pass_7 : decode cX7_pass 7 = .ok (.invokevirtual 120, 3) := by decide +kernel
theorem dX7_pass_10 : decode cX7_pass 10 = .ok (.istore_n 2, 1) := by decide +kernel
theorem dX7_pass_11 : decode cX7_pass 11 = .ok (.iload_n 2, 1) := by decide +kernel
theorem dX7_pass_12 : decode cX7_pass 12 = .ok (.ifCond .eq 5, 3) := by decide +kernel
theorem dX7_pass_15 : decode cX7_pass 15 = .ok (.iload_n 2, 1) := by decide +kernel
theorem dX7_pass_16 : decode cX7_pass 16 = .ok (.ireturn, 1) := by decide +kernel
theorem dX7_pass_17 : decode cX7_pass 17 = .ok (.aload_n 0, 1) := by decide +kernel
theorem dX7_pass_18 : decode cX7_pass 18 = .ok (.invokevirtual 102, 3) := by decide +kernel
theorem dX7_pass_21 : decode cX7_pass 21 = .ok (.aload_n 0, 1) := by decide +kernel
theorem dX7_pass_22 : decode cX7_pass 22 = .ok (.iload_n 1, 1) := by decide +kernel
theorem dX7_pass_23 : decode cX7_pass 23 = .ok (.invokevirtual 123, 3) := by decide +kernel
theorem dX7_pass_26 : decode cX7_pass 26 = .ok (.ireturn, 1) := by decide +kernel
theorem dX7_placeOf_0 : decode cX7_placeOf 0 = .ok (.aload_n 0, 1) := by decide +kernel
theorem dX7_placeOf_1 : decode cX7_placeOf 1 = .ok (.iload_n 1, 1) := by decide +kernel
theorem dX7_placeOf_2 : decode cX7_placeOf 2 = .ok (.iconst 4, 1) := by decide +kernel
theorem dX7_placeOf_3 : decode cX7_placeOf 3 = .ok (.invokevirtual 39, 3) := by decide +kernel
theorem dX7_placeOf_6 : decode cX7_placeOf 6 = .ok (.ifCond .eq 6, 3) := by decide +kernel
theorem dX7_placeOf_9 : decode cX7_placeOf 9 = .ok (.bipush (-6), 2) := by decide +kernel
theorem dX7_placeOf_11 : decode cX7_placeOf 11 = .ok (.ireturn, 1) := by decide +kernel
theorem dX7_placeOf_12 : decode cX7_placeOf 12 = .ok (.iconst 0, 1) := by decide +kernel
theorem dX7_placeOf_13 : decode cX7_placeOf 13 = .ok (.istore_n 2, 1) := by decide +kernel
theorem dX7_placeOf_14 : decode cX7_placeOf 14 = .ok (.iconst 0, 1) := by decide +kernel
theorem dX7_placeOf_15 : decode cX7_placeOf 15 = .ok (.istore_n 3, 1) := by decide +kernel
theorem dX7_placeOf_16 : decode cX7_placeOf 16 = .ok (.iload_n 3, 1) := by decide +kernel
theorem dX7_placeOf_17 : decode cX7_placeOf 17 = .ok (.aload_n 0, 1) := by decide +kernel
theorem dX7_placeOf_18 : decode cX7_placeOf 18 = .ok (.getfield 7, 3) := by decide +kernel
theorem dX7_placeOf_21 : decode cX7_placeOf 21 = .ok (.iconst 1, 1) := by decide +kernel
theorem dX7_placeOf_22 : decode cX7_placeOf 22 = .ok (.iaload, 1) := by decide +kernel
theorem dX7_placeOf_23 : decode cX7_placeOf 23 = .ok (.if_icmp .ge 56, 3) := by decide +kernel
theorem dX7_placeOf_26 : decode cX7_placeOf 26 = .ok (.aload_n 0, 1) := by decide +kernel
theorem dX7_placeOf_27 : decode cX7_placeOf 27 = .ok (.iload_n 1, 1) := by decide +kernel
theorem dX7_placeOf_28 : decode cX7_placeOf 28 = .ok (.iconst 2, 1) := by decide +kernel
theorem dX7_placeOf_29 : decode cX7_placeOf 29 = .ok (.invokevirtual 39, 3) := by decide +kernel
theorem dX7_placeOf_32 : decode cX7_placeOf 32 = .ok (.aload_n 0, 1) := by decide +kernel
theorem dX7_placeOf_33 : decode cX7_placeOf 33 = .ok (.iload_n 3, 1) := by decide +kernel
theorem dX7_placeOf_34 : decode cX7_placeOf 34 = .ok (.iconst 2, 1) := by decide +kernel
theorem dX7_placeOf_35 : decode cX7_placeOf 35 = .ok (.invokevirtual 39, 3) := by decide +kernel
theorem dX7_placeOf_38 : decode cX7_placeOf 38 = .ok (.isub, 1) := by decide +kernel
theorem dX7_placeOf_39 : decode cX7_placeOf 39 = .ok (.istore 4, 2) := by decide +kernel
theorem dX7_placeOf_41 : decode cX7_placeOf 41 = .ok (.iload_n 2, 1) := by decide +kernel
theorem dX7_placeOf_42 : decode cX7_placeOf 42 = .ok (.aload_n 0, 1) := by decide +kernel
theorem dX7_placeOf_43 : decode cX7_placeOf 43 = .ok (.iload_n 3, 1) := by decide +kernel
theorem dX7_placeOf_44 : decode cX7_placeOf 44 = .ok (.iconst 4, 1) := by decide +kernel
theorem dX7_placeOf_45 : decode cX7_placeOf 45 = .ok (.invokevirtual 39, 3) := by decide +kernel
theorem dX7_placeOf_48 : decode cX7_placeOf 48 = .ok (.ifCond .ne 22, 3) := by decide +kernel
theorem dX7_placeOf_51 : decode cX7_placeOf 51 = .ok (.iload 4, 2) := by decide +kernel
theorem dX7_placeOf_53 : decode cX7_placeOf 53 = .ok (.ifCond .gt 13, 3) := by decide +kernel
theorem dX7_placeOf_56 : decode cX7_placeOf 56 = .ok (.iload 4, 2) := by decide +kernel
theorem dX7_placeOf_58 : decode cX7_placeOf 58 = .ok (.ifCond .ne 12, 3) := by decide +kernel
theorem dX7_placeOf_61 : decode cX7_placeOf 61 = .ok (.iload_n 3, 1) := by decide +kernel
theorem dX7_placeOf_62 : decode cX7_placeOf 62 = .ok (.iload_n 1, 1) := by decide +kernel
theorem dX7_placeOf_63 : decode cX7_placeOf 63 = .ok (.if_icmp .ge 7, 3) := by decide +kernel
theorem dX7_placeOf_66 : decode cX7_placeOf 66 = .ok (.iconst 1, 1) := by decide +kernel
theorem dX7_placeOf_67 : decode cX7_placeOf 67 = .ok (.goto 4, 3) := by decide +kernel
theorem dX7_placeOf_70 : decode cX7_placeOf 70 = .ok (.iconst 0, 1) := by decide +kernel
theorem dX7_placeOf_71 : decode cX7_placeOf 71 = .ok (.iadd, 1) := by decide +kernel
theorem dX7_placeOf_72 : decode cX7_placeOf 72 = .ok (.istore_n 2, 1) := by decide +kernel
theorem dX7_placeOf_73 : decode cX7_placeOf 73 = .ok (.iinc 3 1, 3) := by decide +kernel
theorem dX7_placeOf_76 : decode cX7_placeOf 76 = .ok (.goto (-60), 3) := by decide +kernel
theorem dX7_placeOf_79 : decode cX7_placeOf 79 = .ok (.iload_n 2, 1) := by decide +kernel
theorem dX7_placeOf_80 : decode cX7_placeOf 80 = .ok (.ireturn, 1) := by decide +kernel
theorem dX7_ofThing_0 : decode cX7_ofThing 0 = .ok (.aload_n 0, 1) := by decide +kernel
theorem dX7_ofThing_1 : decode cX7_ofThing 1 = .ok (.iconst 0, 1) := by decide +kernel
theorem dX7_ofThing_2 : decode cX7_ofThing 2 = .ok (.putfield 32, 3) := by decide +kernel
theorem dX7_ofThing_5 : decode cX7_ofThing 5 = .ok (.aload_n 0, 1) := by decide +kernel
theorem dX7_ofThing_6 : decode cX7_ofThing 6 = .ok (.iload_n 1, 1) := by decide +kernel
theorem dX7_ofThing_7 : decode cX7_ofThing 7 = .ok (.invokevirtual 117, 3) := by decide +kernel
theorem dX7_ofThing_10 : decode cX7_ofThing 10 = .ok (.ifCond .ne 5, 3) := by decide +kernel
theorem dX7_ofThing_13 : decode cX7_ofThing 13 = .ok (.iconst (-1), 1) := by decide +kernel
theorem dX7_ofThing_14 : decode cX7_ofThing 14 = .ok (.ireturn, 1) := by decide +kernel
theorem dX7_ofThing_15 : decode cX7_ofThing 15 = .ok (.iload_n 2, 1) := by decide +kernel
theorem dX7_ofThing_16 : decode cX7_ofThing 16 = .ok (.tableswitch 59 5 8 #[32, 38, 45, 53], 32) := by decide +kernel
theorem dX7_ofThing_48 : decode cX7_ofThing 48 = .ok (.aload_n 0, 1) := by decide +kernel
theorem dX7_ofThing_49 : decode cX7_ofThing 49 = .ok (.iload_n 1, 1) := by decide +kernel
theorem dX7_ofThing_50 : decode cX7_ofThing 50 = .ok (.invokevirtual 126, 3) := by decide +kernel
theorem dX7_ofThing_53 : decode cX7_ofThing 53 = .ok (.ireturn, 1) := by decide +kernel
theorem dX7_ofThing_54 : decode cX7_ofThing 54 = .ok (.aload_n 0, 1) := by decide +kernel
theorem dX7_ofThing_55 : decode cX7_ofThing 55 = .ok (.iload_n 1, 1) := by decide +kernel
theorem dX7_ofThing_56 : decode cX7_ofThing 56 = .ok (.iconst 5, 1) := by decide +kernel
theorem dX7_ofThing_57 : decode cX7_ofThing 57 = .ok (.invokevirtual 39, 3) := by decide +kernel
theorem dX7_ofThing_60 : decode cX7_ofThing 60 = .ok (.ireturn, 1) := by decide +kernel
theorem dX7_ofThing_61 : decode cX7_ofThing 61 = .ok (.aload_n 0, 1) := by decide +kernel
theorem dX7_ofThing_62 : decode cX7_ofThing 62 = .ok (.iload_n 1, 1) := by decide +kernel
theorem dX7_ofThing_63 : decode cX7_ofThing 63 = .ok (.bipush 6, 2) := by decide +kernel
theorem dX7_ofThing_65 : decode cX7_ofThing 65 = .ok (.invokevirtual 39, 3) := by decide +kernel
theorem dX7_ofThing_68 : decode cX7_ofThing 68 = .ok (.ireturn, 1) := by decide +kernel
theorem dX7_ofThing_69 : decode cX7_ofThing 69 = .ok (.aload_n 0, 1) := by decide +kernel
theorem dX7_ofThing_70 : decode cX7_ofThing 70 = .ok (.iload_n 1, 1) := by decide +kernel
theorem dX7_ofThing_71 : decode cX7_ofThing 71 = .ok (.invokevirtual 129, 3) := by decide +kernel
theorem dX7_ofThing_74 : decode cX7_ofThing 74 = .ok (.ireturn, 1) := by decide +kernel
theorem dX7_ofThing_75 : decode cX7_ofThing 75 = .ok (.iload_n 2, 1) := by decide +kernel
theorem dX7_ofThing_76 : decode cX7_ofThing 76 = .ok (.iconst 0, 1) := by decide +kernel
theorem dX7_ofThing_77 : decode cX7_ofThing 77 = .ok (.iconst 4, 1) := by decide +kernel
theorem dX7_ofThing_78 : decode cX7_ofThing 78 = .ok (.invokestatic 94, 3) := by decide +kernel
theorem dX7_ofThing_81 : decode cX7_ofThing 81 = .ok (.ifCond .eq 12, 3) := by decide +kernel
theorem dX7_ofThing_84 : decode cX7_ofThing 84 = .ok (.aload_n 0, 1) := by decide +kernel
theorem dX7_ofThing_85 : decode cX7_ofThing 85 = .ok (.iload_n 1, 1) := by decide +kernel
theorem dX7_ofThing_86 : decode cX7_ofThing 86 = .ok (.iload_n 2, 1) := by decide +kernel
theorem dX7_ofThing_87 : decode cX7_ofThing 87 = .ok (.invokevirtual 39, 3) := by decide +kernel
theorem dX7_ofThing_90 : decode cX7_ofThing 90 = .ok (.goto 5, 3) := by decide +kernel
theorem dX7_ofThing_93 : decode cX7_ofThing 93 = .ok (.bipush (-2), 2) := by decide +kernel
theorem dX7_ofThing_95 : decode cX7_ofThing 95 = .ok (.ireturn, 1) := by decide +kernel
theorem dX7_ofFixer_0 : decode cX7_ofFixer 0 = .ok (.aload_n 0, 1) := by decide +kernel
theorem dX7_ofFixer_1 : decode cX7_ofFixer 1 = .ok (.iconst 0, 1) := by decide +kernel
theorem dX7_ofFixer_2 : decode cX7_ofFixer 2 = .ok (.putfield 32, 3) := by decide +kernel
theorem dX7_ofFixer_5 : decode cX7_ofFixer 5 = .ok (.iload_n 1, 1) := by decide +kernel
theorem dX7_ofFixer_6 : decode cX7_ofFixer 6 = .ok (.iconst 0, 1) := by decide +kernel
theorem dX7_ofFixer_7 : decode cX7_ofFixer 7 = .ok (.aload_n 0, 1) := by decide +kernel
theorem dX7_ofFixer_8 : decode cX7_ofFixer 8 = .ok (.getfield 7, 3) := by decide +kernel
theorem dX7_ofFixer_11 : decode cX7_ofFixer 11 = .ok (.iconst 2, 1) := by decide +kernel
theorem dX7_ofFixer_12 : decode cX7_ofFixer 12 = .ok (.iaload, 1) := by decide +kernel
theorem dX7_ofFixer_13 : decode cX7_ofFixer 13 = .ok (.iconst 1, 1) := by decide +kernel
theorem dX7_ofFixer_14 : decode cX7_ofFixer 14 = .ok (.isub, 1) := by decide +kernel
theorem dX7_ofFixer_15 : decode cX7_ofFixer 15 = .ok (.invokestatic 94, 3) := by decide +kernel
theorem dX7_ofFixer_18 : decode cX7_ofFixer 18 = .ok (.ifCond .ne 5, 3) := by decide +kernel
theorem dX7_ofFixer_21 : decode cX7_ofFixer 21 = .ok (.iconst (-1), 1) := by decide +kernel
theorem dX7_ofFixer_22 : decode cX7_ofFixer 22 = .ok (.ireturn, 1) := by decide +kernel
theorem dX7_ofFixer_23 : decode cX7_ofFixer 23 = .ok (.iload_n 2, 1) := by decide +kernel
theorem dX7_ofFixer_24 : decode cX7_ofFixer 24 = .ok (.lookupswitch 62 #[(2, 28), (6, 51)], 28) := by decide +kernel
theorem dX7_ofFixer_52 : decode cX7_ofFixer 52 = .ok (.aload_n 0, 1) := by decide +kernel
theorem dX7_ofFixer_53 : decode cX7_ofFixer 53 = .ok (.iload_n 1, 1) := by decide +kernel
theorem dX7_ofFixer_54 : decode cX7_ofFixer 54 = .ok (.iconst 2, 1) := by decide +kernel
theorem dX7_ofFixer_55 : decode cX7_ofFixer 55 = .ok (.invokevirtual 51, 3) := by decide +kernel
theorem dX7_ofFixer_58 : decode cX7_ofFixer 58 = .ok (.ifCond .ne 8, 3) := by decide +kernel
theorem dX7_ofFixer_61 : decode cX7_ofFixer 61 = .ok (.bipush (-6), 2) := by decide +kernel
theorem dX7_ofFixer_63 : decode cX7_ofFixer 63 = .ok (.goto 11, 3) := by decide +kernel
theorem dX7_ofFixer_66 : decode cX7_ofFixer 66 = .ok (.aload_n 0, 1) := by decide +kernel
theorem dX7_ofFixer_67 : decode cX7_ofFixer 67 = .ok (.iload_n 1, 1) := by decide +kernel
theorem dX7_ofFixer_68 : decode cX7_ofFixer 68 = .ok (.iconst 2, 1) := by decide +kernel
theorem dX7_ofFixer_69 : decode cX7_ofFixer 69 = .ok (.invokevirtual 51, 3) := by decide +kernel
theorem dX7_ofFixer_72 : decode cX7_ofFixer 72 = .ok (.iconst 1, 1) := by decide +kernel
theorem dX7_ofFixer_73 : decode cX7_ofFixer 73 = .ok (.isub, 1) := by decide +kernel
theorem dX7_ofFixer_74 : decode cX7_ofFixer 74 = .ok (.ireturn, 1) := by decide +kernel
theorem dX7_ofFixer_75 : decode cX7_ofFixer 75 = .ok (.aload_n 0, 1) := by decide +kernel
theorem dX7_ofFixer_76 : decode cX7_ofFixer 76 = .ok (.aload_n 0, 1) := by decide +kernel
theorem dX7_ofFixer_77 : decode cX7_ofFixer 77 = .ok (.iload_n 1, 1) := by decide +kernel
theorem dX7_ofFixer_78 : decode cX7_ofFixer 78 = .ok (.iconst 0, 1) := by decide +kernel
theorem dX7_ofFixer_79 : decode cX7_ofFixer 79 = .ok (.invokevirtual 51, 3) := by decide +kernel
theorem dX7_ofFixer_82 : decode cX7_ofFixer 82 = .ok (.invokevirtual 79, 3) := by decide +kernel
theorem dX7_ofFixer_85 : decode cX7_ofFixer 85 = .ok (.ireturn, 1) := by decide +kernel
theorem dX7_ofFixer_86 : decode cX7_ofFixer 86 = .ok (.iload_n 2, 1) := by decide +kernel
theorem dX7_ofFixer_87 : decode cX7_ofFixer 87 = .ok (.iconst 0, 1) := by decide +kernel
theorem dX7_ofFixer_88 : decode cX7_ofFixer 88 = .ok (.iconst 5, 1) := by decide +kernel
theorem dX7_ofFixer_89 : decode cX7_ofFixer 89 = .ok (.invokestatic 94, 3) := by decide +kernel
theorem dX7_ofFixer_92 : decode cX7_ofFixer 92 = .ok (.ifCond .eq 12, 3) := by decide +kernel
theorem dX7_ofFixer_95 : decode cX7_ofFixer 95 = .ok (.aload_n 0, 1) := by decide +kernel
theorem dX7_ofFixer_96 : decode cX7_ofFixer 96 = .ok (.iload_n 1, 1) := by decide +kernel
theorem dX7_ofFixer_97 : decode cX7_ofFixer 97 = .ok (.iload_n 2, 1) := by decide +kernel
theorem dX7_ofFixer_98 : decode cX7_ofFixer 98 = .ok (.invokevirtual 51, 3) := by decide +kernel
theorem dX7_ofFixer_101 : decode cX7_ofFixer 101 = .ok (.goto 5, 3) := by decide +kernel
theorem dX7_ofFixer_104 : decode cX7_ofFixer 104 = .ok (.bipush (-2), 2) := by decide +kernel
theorem dX7_ofFixer_106 : decode cX7_ofFixer 106 = .ok (.ireturn, 1) := by decide +kernel
theorem dX7_brokenOnes_0 : decode cX7_brokenOnes 0 = .ok (.iconst 0, 1) := by decide +kernel
theorem dX7_brokenOnes_1 : decode cX7_brokenOnes 1 = .ok (.istore_n 2, 1) := by decide +kernel
theorem dX7_brokenOnes_2 : decode cX7_brokenOnes 2 = .ok (.iconst 0, 1) := by decide +kernel
theorem dX7_brokenOnes_3 : decode cX7_brokenOnes 3 = .ok (.istore_n 3, 1) := by decide +kernel
theorem dX7_brokenOnes_4 : decode cX7_brokenOnes 4 = .ok (.iload_n 3, 1) := by decide +kernel
theorem dX7_brokenOnes_5 : decode cX7_brokenOnes 5 = .ok (.aload_n 0, 1) := by decide +kernel
theorem dX7_brokenOnes_6 : decode cX7_brokenOnes 6 = .ok (.getfield 7, 3) := by decide +kernel
theorem dX7_brokenOnes_9 : decode cX7_brokenOnes 9 = .ok (.iconst 1, 1) := by decide +kernel
theorem dX7_brokenOnes_10 : decode cX7_brokenOnes 10 = .ok (.iaload, 1) := by decide +kernel
theorem dX7_brokenOnes_11 : decode cX7_brokenOnes 11 = .ok (.if_icmp .ge 36, 3) := by decide +kernel
theorem dX7_brokenOnes_14 : decode cX7_brokenOnes 14 = .ok (.iload_n 2, 1) := by decide +kernel
theorem dX7_brokenOnes_15 : decode cX7_brokenOnes 15 = .ok (.aload_n 0, 1) := by decide +kernel
theorem dX7_brokenOnes_16 : decode cX7_brokenOnes 16 = .ok (.iload_n 3, 1) := by decide +kernel
theorem dX7_brokenOnes_17 : decode cX7_brokenOnes 17 = .ok (.iconst 4, 1) := by decide +kernel
theorem dX7_brokenOnes_18 : decode cX7_brokenOnes 18 = .ok (.invokevirtual 39, 3) := by decide +kernel
theorem dX7_brokenOnes_21 : decode cX7_brokenOnes 21 = .ok (.iconst 2, 1) := by decide +kernel
theorem dX7_brokenOnes_22 : decode cX7_brokenOnes 22 = .ok (.if_icmp .ge 16, 3) := by decide +kernel
theorem dX7_brokenOnes_25 : decode cX7_brokenOnes 25 = .ok (.aload_n 0, 1) := by decide +kernel
theorem dX7_brokenOnes_26 : decode cX7_brokenOnes 26 = .ok (.iload_n 3, 1) := by decide +kernel
theorem dX7_brokenOnes_27 : decode cX7_brokenOnes 27 = .ok (.iconst 1, 1) := by decide +kernel
theorem dX7_brokenOnes_28 : decode cX7_brokenOnes 28 = .ok (.invokevirtual 39, 3) := by decide +kernel
theorem dX7_brokenOnes_31 : decode cX7_brokenOnes 31 = .ok (.iload_n 1, 1) := by decide +kernel
theorem dX7_brokenOnes_32 : decode cX7_brokenOnes 32 = .ok (.ishr, 1) := by decide +kernel
theorem dX7_brokenOnes_33 : decode cX7_brokenOnes 33 = .ok (.iconst 1, 1) := by decide +kernel
theorem dX7_brokenOnes_34 : decode cX7_brokenOnes 34 = .ok (.iand, 1) := by decide +kernel
theorem dX7_brokenOnes_35 : decode cX7_brokenOnes 35 = .ok (.goto 4, 3) := by decide +kernel
theorem dX7_brokenOnes_38 : decode cX7_brokenOnes 38 = .ok (.iconst 0, 1) := by decide +kernel
theorem dX7_brokenOnes_39 : decode cX7_brokenOnes 39 = .ok (.iadd, 1) := by decide +kernel
theorem dX7_brokenOnes_40 : decode cX7_brokenOnes 40 = .ok (.istore_n 2, 1) := by decide +kernel
theorem dX7_brokenOnes_41 : decode cX7_brokenOnes 41 = .ok (.iinc 3 1, 3) := by decide +kernel
theorem dX7_brokenOnes_44 : decode cX7_brokenOnes 44 = .ok (.goto (-40), 3) := by decide +kernel
theorem dX7_brokenOnes_47 : decode cX7_brokenOnes 47 = .ok (.iload_n 2, 1) := by decide +kernel
theorem dX7_brokenOnes_48 : decode cX7_brokenOnes 48 = .ok (.ireturn, 1) := by decide +kernel
theorem dX7_ofPart_0 : decode cX7_ofPart 0 = .ok (.aload_n 0, 1) := by decide +kernel
theorem dX7_ofPart_1 : decode cX7_ofPart 1 = .ok (.iconst 0, 1) := by decide +kernel
theorem dX7_ofPart_2 : decode cX7_ofPart 2 = .ok (.putfield 32, 3) := by decide +kernel
theorem dX7_ofPart_5 : decode cX7_ofPart 5 = .ok (.iload_n 1, 1) := by decide +kernel
theorem dX7_ofPart_6 : decode cX7_ofPart 6 = .ok (.iconst 0, 1) := by decide +kernel
theorem dX7_ofPart_7 : decode cX7_ofPart 7 = .ok (.bipush 7, 2) := by decide +kernel
theorem dX7_ofPart_9 : decode cX7_ofPart 9 = .ok (.invokestatic 94, 3) := by decide +kernel
theorem dX7_ofPart_12 : decode cX7_ofPart 12 = .ok (.ifCond .ne 5, 3) := by decide +kernel
theorem dX7_ofPart_15 : decode cX7_ofPart 15 = .ok (.iconst (-1), 1) := by decide +kernel
theorem dX7_ofPart_16 : decode cX7_ofPart 16 = .ok (.ireturn, 1) := by decide +kernel
theorem dX7_ofPart_17 : decode cX7_ofPart 17 = .ok (.iload_n 2, 1) := by decide +kernel
theorem dX7_ofPart_18 : decode cX7_ofPart 18 = .ok (.tableswitch 65 0 3 #[30, 39, 45, 55], 30) := by decide +kernel
theorem dX7_ofPart_48 : decode cX7_ofPart 48 = .ok (.aload_n 0, 1) := by decide +kernel
theorem dX7_ofPart_49 : decode cX7_ofPart 49 = .ok (.getfield 7, 3) := by decide +kernel
theorem dX7_ofPart_52 : decode cX7_ofPart 52 = .ok (.iconst 3, 1) := by decide +kernel
theorem dX7_ofPart_53 : decode cX7_ofPart 53 = .ok (.iload_n 1, 1) := by decide +kernel
theorem dX7_ofPart_54 : decode cX7_ofPart 54 = .ok (.iadd, 1) := by decide +kernel
theorem dX7_ofPart_55 : decode cX7_ofPart 55 = .ok (.iaload, 1) := by decide +kernel
theorem dX7_ofPart_56 : decode cX7_ofPart 56 = .ok (.ireturn, 1) := by decide +kernel
theorem dX7_ofPart_57 : decode cX7_ofPart 57 = .ok (.aload_n 0, 1) := by decide +kernel
theorem dX7_ofPart_58 : decode cX7_ofPart 58 = .ok (.iload_n 1, 1) := by decide +kernel
theorem dX7_ofPart_59 : decode cX7_ofPart 59 = .ok (.invokevirtual 132, 3) := by decide +kernel
theorem dX7_ofPart_62 : decode cX7_ofPart 62 = .ok (.ireturn, 1) := by decide +kernel
theorem dX7_ofPart_63 : decode cX7_ofPart 63 = .ok (.aload_n 0, 1) := by decide +kernel
theorem dX7_ofPart_64 : decode cX7_ofPart 64 = .ok (.getfield 7, 3) := by decide +kernel
theorem dX7_ofPart_67 : decode cX7_ofPart 67 = .ok (.bipush 11, 2) := by decide +kernel
theorem dX7_ofPart_69 : decode cX7_ofPart 69 = .ok (.iload_n 1, 1) := by decide +kernel
theorem dX7_ofPart_70 : decode cX7_ofPart 70 = .ok (.iadd, 1) := by decide +kernel
theorem dX7_ofPart_71 : decode cX7_ofPart 71 = .ok (.iaload, 1) := by decide +kernel
theorem dX7_ofPart_72 : decode cX7_ofPart 72 = .ok (.ireturn, 1) := by decide +kernel
theorem dX7_ofPart_73 : decode cX7_ofPart 73 = .ok (.aload_n 0, 1) := by decide +kernel
theorem dX7_ofPart_74 : decode cX7_ofPart 74 = .ok (.getfield 7, 3) := by decide +kernel
theorem dX7_ofPart_77 : decode cX7_ofPart 77 = .ok (.bipush 19, 2) := by decide +kernel
theorem dX7_ofPart_79 : decode cX7_ofPart 79 = .ok (.iload_n 1, 1) := by decide +kernel
theorem dX7_ofPart_80 : decode cX7_ofPart 80 = .ok (.iadd, 1) := by decide +kernel
theorem dX7_ofPart_81 : decode cX7_ofPart 81 = .ok (.iaload, 1) := by decide +kernel
theorem dX7_ofPart_82 : decode cX7_ofPart 82 = .ok (.ireturn, 1) := by decide +kernel
theorem dX7_ofPart_83 : decode cX7_ofPart 83 = .ok (.bipush (-2), 2) := by decide +kernel
theorem dX7_ofPart_85 : decode cX7_ofPart 85 = .ok (.ireturn, 1) := by decide +kernel
theorem dX7_count_0 : decode cX7_count 0 = .ok (.aload_n 0, 1) := by decide +kernel
theorem dX7_count_1 : decode cX7_count 1 = .ok (.iconst 0, 1) := by decide +kernel
theorem dX7_count_2 : decode cX7_count 2 = .ok (.putfield 32, 3) := by decide +kernel
theorem dX7_count_5 : decode cX7_count 5 = .ok (.iload_n 1, 1) := by decide +kernel
theorem dX7_count_6 : decode cX7_count 6 = .ok (.bipush 8, 2) := by decide +kernel
theorem dX7_count_8 : decode cX7_count 8 = .ok (.if_icmp .eq 9, 3) := by decide +kernel
theorem dX7_count_11 : decode cX7_count 11 = .ok (.iload_n 1, 1) := by decide +kernel
theorem dX7_count_12 : decode cX7_count 12 = .ok (.bipush 9, 2) := by decide +kernel
theorem dX7_count_14 : decode cX7_count 14 = .ok (.if_icmp .ne 21, 3) := by decide +kernel
theorem dX7_count_17 : decode cX7_count 17 = .ok (.iload_n 1, 1) := by decide +kernel
theorem dX7_count_18 : decode cX7_count 18 = .ok (.bipush 8, 2) := by decide +kernel
theorem dX7_count_20 : decode cX7_count 20 = .ok (.if_icmp .ne 10, 3) := by decide +kernel
theorem dX7_count_23 : decode cX7_count 23 = .ok (.aload_n 0, 1) := by decide +kernel
theorem dX7_count_24 : decode cX7_count 24 = .ok (.getfield 135, 3) := by decide +kernel
theorem dX7_count_27 : decode cX7_count 27 = .ok (.goto 7, 3) := by decide +kernel
theorem dX7_count_30 : decode cX7_count 30 = .ok (.aload_n 0, 1) := by decide +kernel
theorem dX7_count_31 : decode cX7_count 31 = .ok (.getfield 36, 3) := by decide +kernel
theorem dX7_count_34 : decode cX7_count 34 = .ok (.ireturn, 1) := by decide +kernel
theorem dX7_count_35 : decode cX7_count 35 = .ok (.iload_n 1, 1) := by decide +kernel
theorem dX7_count_36 : decode cX7_count 36 = .ok (.iconst 0, 1) := by decide +kernel
theorem dX7_count_37 : decode cX7_count 37 = .ok (.iconst 2, 1) := by decide +kernel
theorem dX7_count_38 : decode cX7_count 38 = .ok (.invokestatic 94, 3) := by decide +kernel
theorem dX7_count_41 : decode cX7_count 41 = .ok (.ifCond .eq 12, 3) := by decide +kernel
theorem dX7_count_44 : decode cX7_count 44 = .ok (.aload_n 0, 1) := by decide +kernel
theorem dX7_count_45 : decode cX7_count 45 = .ok (.getfield 7, 3) := by decide +kernel
theorem dX7_count_48 : decode cX7_count 48 = .ok (.iload_n 1, 1) := by decide +kernel
theorem dX7_count_49 : decode cX7_count 49 = .ok (.iaload, 1) := by decide +kernel
theorem dX7_count_50 : decode cX7_count 50 = .ok (.goto 25, 3) := by decide +kernel
theorem dX7_count_53 : decode cX7_count 53 = .ok (.iload_n 1, 1) := by decide +kernel
theorem dX7_count_54 : decode cX7_count 54 = .ok (.iconst 3, 1) := by decide +kernel
theorem dX7_count_55 : decode cX7_count 55 = .ok (.bipush 7, 2) := by decide +kernel
theorem dX7_count_57 : decode cX7_count 57 = .ok (.invokestatic 94, 3) := by decide +kernel
theorem dX7_count_60 : decode cX7_count 60 = .ok (.ifCond .eq 13, 3) := by decide +kernel
theorem dX7_count_63 : decode cX7_count 63 = .ok (.aload_n 0, 1) := by decide +kernel
theorem dX7_count_64 : decode cX7_count 64 = .ok (.iload_n 1, 1) := by decide +kernel
theorem dX7_count_65 : decode cX7_count 65 = .ok (.iconst 3, 1) := by decide +kernel
theorem dX7_count_66 : decode cX7_count 66 = .ok (.isub, 1) := by decide +kernel
theorem dX7_count_67 : decode cX7_count 67 = .ok (.invokevirtual 88, 3) := by decide +kernel
theorem dX7_count_70 : decode cX7_count 70 = .ok (.goto 5, 3) := by decide +kernel
theorem dX7_count_73 : decode cX7_count 73 = .ok (.bipush (-2), 2) := by decide +kernel
theorem dX7_count_75 : decode cX7_count 75 = .ok (.ireturn, 1) := by decide +kernel
theorem dX7_scarcest_0 : decode cX7_scarcest 0 = .ok (.aload_n 0, 1) := by decide +kernel
theorem dX7_scarcest_1 : decode cX7_scarcest 1 = .ok (.iconst 0, 1) := by decide +kernel
theorem dX7_scarcest_2 : decode cX7_scarcest 2 = .ok (.putfield 32, 3) := by decide +kernel
theorem dX7_scarcest_5 : decode cX7_scarcest 5 = .ok (.bipush (-6), 2) := by decide +kernel
theorem dX7_scarcest_7 : decode cX7_scarcest 7 = .ok (.istore_n 1, 1) := by decide +kernel
theorem dX7_scarcest_8 : decode cX7_scarcest 8 = .ok (.iconst 0, 1) := by decide +kernel
theorem dX7_scarcest_9 : decode cX7_scarcest 9 = .ok (.istore_n 2, 1) := by decide +kernel
theorem dX7_scarcest_10 : decode cX7_scarcest 10 = .ok (.iconst 0, 1) := by decide +kernel
theorem dX7_scarcest_11 : decode cX7_scarcest 11 = .ok (.istore_n 3, 1) := by decide +kernel
theorem dX7_scarcest_12 : decode cX7_scarcest 12 = .ok (.iload_n 3, 1) := by decide +kernel
theorem dX7_scarcest_13 : decode cX7_scarcest 13 = .ok (.bipush 8, 2) := by decide +kernel
theorem dX7_scarcest_15 : decode cX7_scarcest 15 = .ok (.if_icmp .ge 50, 3) := by decide +kernel
theorem dX7_scarcest_18 : decode cX7_scarcest 18 = .ok (.aload_n 0, 1) := by decide +kernel
theorem dX7_scarcest_19 : decode cX7_scarcest 19 = .ok (.iload_n 3, 1) := by decide +kernel
theorem dX7_scarcest_20 : decode cX7_scarcest 20 = .ok (.invokevirtual 132, 3) := by decide +kernel
theorem dX7_scarcest_23 : decode cX7_scarcest 23 = .ok (.aload_n 0, 1) := by decide +kernel
theorem dX7_scarcest_24 : decode cX7_scarcest 24 = .ok (.getfield 7, 3) := by decide +kernel
theorem dX7_scarcest_27 : decode cX7_scarcest 27 = .ok (.iconst 3, 1) := by decide +kernel
theorem dX7_scarcest_28 : decode cX7_scarcest 28 = .ok (.iload_n 3, 1) := by decide +kernel
theorem dX7_scarcest_29 : decode cX7_scarcest 29 = .ok (.iadd, 1) := by decide +kernel
theorem dX7_scarcest_30 : decode cX7_scarcest 30 = .ok (.iaload, 1) := by decide +kernel
theorem dX7_scarcest_31 : decode cX7_scarcest 31 = .ok (.isub, 1) := by decide +kernel
theorem dX7_scarcest_32 : decode cX7_scarcest 32 = .ok (.istore 4, 2) := by decide +kernel
theorem dX7_scarcest_34 : decode cX7_scarcest 34 = .ok (.iload 4, 2) := by decide +kernel
theorem dX7_scarcest_36 : decode cX7_scarcest 36 = .ok (.iload_n 2, 1) := by decide +kernel
theorem dX7_scarcest_37 : decode cX7_scarcest 37 = .ok (.if_icmp .le 7, 3) := by decide +kernel
theorem dX7_scarcest_40 : decode cX7_scarcest 40 = .ok (.iload_n 3, 1) := by decide +kernel
theorem dX7_scarcest_41 : decode cX7_scarcest 41 = .ok (.goto 4, 3) := by decide +kernel
theorem dX7_scarcest_44 : decode cX7_scarcest 44 = .ok (.iload_n 1, 1) := by decide +kernel
theorem dX7_scarcest_45 : decode cX7_scarcest 45 = .ok (.istore_n 1, 1) := by decide +kernel
theorem dX7_scarcest_46 : decode cX7_scarcest 46 = .ok (.iload 4, 2) := by decide +kernel
theorem dX7_scarcest_48 : decode cX7_scarcest 48 = .ok (.iload_n 2, 1) := by decide +kernel
theorem dX7_scarcest_49 : decode cX7_scarcest 49 = .ok (.if_icmp .le 8, 3) := by decide +kernel
theorem dX7_scarcest_52 : decode cX7_scarcest 52 = .ok (.iload 4, 2) := by decide +kernel
theorem dX7_scarcest_54 : decode cX7_scarcest 54 = .ok (.goto 4, 3) := by decide +kernel
theorem dX7_scarcest_57 : decode cX7_scarcest 57 = .ok (.iload_n 2, 1) := by decide +kernel
theorem dX7_scarcest_58 : decode cX7_scarcest 58 = .ok (.istore_n 2, 1) := by decide +kernel
theorem dX7_scarcest_59 : decode cX7_scarcest 59 = .ok (.iinc 3 1, 3) := by decide +kernel
theorem dX7_scarcest_62 : decode cX7_scarcest 62 = .ok (.goto (-50), 3) := by decide +kernel
theorem dX7_scarcest_65 : decode cX7_scarcest 65 = .ok (.iload_n 1, 1) := by decide +kernel
theorem dX7_scarcest_66 : decode cX7_scarcest 66 = .ok (.ireturn, 1) := by decide +kernel
theorem dX7_doneIn_0 : decode cX7_doneIn 0 = .ok (.aload_n 0, 1) := by decide +kernel
theorem dX7_doneIn_1 : decode cX7_doneIn 1 = .ok (.iconst 0, 1) := by decide +kernel
theorem dX7_doneIn_2 : decode cX7_doneIn 2 = .ok (.putfield 32, 3) := by decide +kernel
theorem dX7_doneIn_5 : decode cX7_doneIn 5 = .ok (.aload_n 0, 1) := by decide +kernel
theorem dX7_doneIn_6 : decode cX7_doneIn 6 = .ok (.iload_n 1, 1) := by decide +kernel
theorem dX7_doneIn_7 : decode cX7_doneIn 7 = .ok (.invokevirtual 117, 3) := by decide +kernel
theorem dX7_doneIn_10 : decode cX7_doneIn 10 = .ok (.ifCond .ne 5, 3) := by decide +kernel
theorem dX7_doneIn_13 : decode cX7_doneIn 13 = .ok (.iconst (-1), 1) := by decide +kernel
theorem dX7_doneIn_14 : decode cX7_doneIn 14 = .ok (.ireturn, 1) := by decide +kernel
theorem dX7_doneIn_15 : decode cX7_doneIn 15 = .ok (.aload_n 0, 1) := by decide +kernel
theorem dX7_doneIn_16 : decode cX7_doneIn 16 = .ok (.invokevirtual 138, 3) := by decide +kernel
theorem dX7_doneIn_19 : decode cX7_doneIn 19 = .ok (.iconst 0, 1) := by decide +kernel
theorem dX7_doneIn_20 : decode cX7_doneIn 20 = .ok (.istore_n 2, 1) := by decide +kernel
theorem dX7_doneIn_21 : decode cX7_doneIn 21 = .ok (.iload_n 2, 1) := by decide +kernel
theorem dX7_doneIn_22 : decode cX7_doneIn 22 = .ok (.sipush 501, 3) := by decide +kernel
theorem dX7_doneIn_25 : decode cX7_doneIn 25 = .ok (.if_icmp .ge 23, 3) := by decide +kernel
theorem dX7_doneIn_28 : decode cX7_doneIn 28 = .ok (.aload_n 0, 1) := by decide +kernel
theorem dX7_doneIn_29 : decode cX7_doneIn 29 = .ok (.iload_n 1, 1) := by decide +kernel
theorem dX7_doneIn_30 : decode cX7_doneIn 30 = .ok (.iconst 4, 1) := by decide +kernel
theorem dX7_doneIn_31 : decode cX7_doneIn 31 = .ok (.invokevirtual 39, 3) := by decide +kernel
theorem dX7_doneIn_34 : decode cX7_doneIn 34 = .ok (.iconst 2, 1) := by decide +kernel
theorem dX7_doneIn_35 : decode cX7_doneIn 35 = .ok (.if_icmp .ge 13, 3) := by decide +kernel
theorem dX7_doneIn_38 : decode cX7_doneIn 38 = .ok (.aload_n 0, 1) := by decide +kernel
theorem dX7_doneIn_39 : decode cX7_doneIn 39 = .ok (.invokevirtual 91, 3) := by decide +kernel
theorem dX7_doneIn_42 : decode cX7_doneIn 42 = .ok (.iinc 2 1, 3) := by decide +kernel
theorem dX7_doneIn_45 : decode cX7_doneIn 45 = .ok (.goto (-24), 3) := by decide +kernel
theorem dX7_doneIn_48 : decode cX7_doneIn 48 = .ok (.aload_n 0, 1) := by decide +kernel
theorem dX7_doneIn_49 : decode cX7_doneIn 49 = .ok (.invokevirtual 141, 3) := by decide +kernel
theorem dX7_doneIn_52 : decode cX7_doneIn 52 = .ok (.iload_n 2, 1) := by decide +kernel
theorem dX7_doneIn_53 : decode cX7_doneIn 53 = .ok (.sipush 500, 3) := by decide +kernel
theorem dX7_doneIn_56 : decode cX7_doneIn 56 = .ok (.if_icmp .le 8, 3) := by decide +kernel
theorem dX7_doneIn_59 : decode cX7_doneIn 59 = .ok (.bipush (-6), 2) := by decide +kernel
theorem dX7_doneIn_61 : decode cX7_doneIn 61 = .ok (.goto 4, 3) := by decide +kernel
theorem dX7_doneIn_64 : decode cX7_doneIn 64 = .ok (.iload_n 2, 1) := by decide +kernel
theorem dX7_doneIn_65 : decode cX7_doneIn 65 = .ok (.ireturn, 1) := by decide +kernel
theorem dX7_repairedWith_0 : decode cX7_repairedWith 0 = .ok (.aload_n 0, 1) := by decide +kernel
theorem dX7_repairedWith_1 : decode cX7_repairedWith 1 = .ok (.invokevirtual 138, 3) := by decide +kernel
theorem dX7_repairedWith_4 : decode cX7_repairedWith 4 = .ok (.aload_n 0, 1) := by decide +kernel
theorem dX7_repairedWith_5 : decode cX7_repairedWith 5 = .ok (.iload_n 1, 1) := by decide +kernel
theorem dX7_repairedWith_6 : decode cX7_repairedWith 6 = .ok (.iload_n 2, 1) := by decide +kernel
theorem dX7_repairedWith_7 : decode cX7_repairedWith 7 = .ok (.invokevirtual 111, 3) := by decide +kernel
theorem dX7_repairedWith_10 : decode cX7_repairedWith 10 = .ok (.pop, 1) := by decide +kernel
theorem dX7_repairedWith_11 : decode cX7_repairedWith 11 = .ok (.aload_n 0, 1) := by decide +kernel
theorem dX7_repairedWith_12 : decode cX7_repairedWith 12 = .ok (.iload_n 3, 1) := by decide +kernel
theorem dX7_repairedWith_13 : decode cX7_repairedWith 13 = .ok (.invokevirtual 123, 3) := by decide +kernel
theorem dX7_repairedWith_16 : decode cX7_repairedWith 16 = .ok (.istore 4, 2) := by decide +kernel
theorem dX7_repairedWith_18 : decode cX7_repairedWith 18 = .ok (.aload_n 0, 1) := by decide +kernel
theorem dX7_repairedWith_19 : decode cX7_repairedWith 19 = .ok (.invokevirtual 141, 3) := by decide +kernel
theorem dX7_repairedWith_22 : decode cX7_repairedWith 22 = .ok (.iload 4, 2) := by decide +kernel
theorem dX7_repairedWith_24 : decode cX7_repairedWith 24 = .ok (.ireturn, 1) := by decide +kernel
theorem dX7_withFixer_0 : decode cX7_withFixer 0 = .ok (.aload_n 0, 1) := by decide +kernel
theorem dX7_withFixer_1 : decode cX7_withFixer 1 = .ok (.iconst 0, 1) := by decide +kernel
theorem dX7_withFixer_2 : decode cX7_withFixer 2 = .ok (.putfield 32, 3) := by decide +kernel
theorem dX7_withFixer_5 : decode cX7_withFixer 5 = .ok (.aload_n 0, 1) := by decide +kernel
theorem dX7_withFixer_6 : decode cX7_withFixer 6 = .ok (.iload_n 1, 1) := by decide +kernel
theorem dX7_withFixer_7 : decode cX7_withFixer 7 = .ok (.iload_n 2, 1) := by decide +kernel
theorem dX7_withFixer_8 : decode cX7_withFixer 8 = .ok (.invokevirtual 108, 3) := by decide +kernel
theorem dX7_withFixer_11 : decode cX7_withFixer 11 = .ok (.istore 4, 2) := by decide +kernel
theorem dX7_withFixer_13 : decode cX7_withFixer 13 = .ok (.iload 4, 2) := by decide +kernel
theorem dX7_withFixer_15 : decode cX7_withFixer 15 = .ok (.bipush (-2), 2) := by decide +kernel
theorem dX7_withFixer_17 : decode cX7_withFixer 17 = .ok (.if_icmp .eq 14, 3) := by decide +kernel
theorem dX7_withFixer_20 : decode cX7_withFixer 20 = .ok (.iload_n 3, 1) := by decide +kernel
theorem dX7_withFixer_21 : decode cX7_withFixer 21 = .ok (.iconst 1, 1) := by decide +kernel
theorem dX7_withFixer_22 : decode cX7_withFixer 22 = .ok (.sipush 300, 3) := by decide +kernel
theorem dX7_withFixer_25 : decode cX7_withFixer 25 = .ok (.invokestatic 94, 3) := by decide +kernel
theorem dX7_withFixer_28 : decode cX7_withFixer 28 = .ok (.ifCond .ne 6, 3) := by decide +kernel
theorem dX7_withFixer_31 : decode cX7_withFixer 31 = .ok (.bipush (-2), 2) := by decide +kernel
theorem dX7_withFixer_33 : decode cX7_withFixer 33 = .ok (.ireturn, 1) := by decide +kernel
theorem dX7_withFixer_34 : decode cX7_withFixer 34 = .ok (.iload 4, 2) := by decide +kernel
theorem dX7_withFixer_36 : decode cX7_withFixer 36 = .ok (.ifCond .eq 8, 3) := by decide +kernel
theorem dX7_withFixer_39 : decode cX7_withFixer 39 = .ok (.iload 4, 2) := by decide +kernel
theorem dX7_withFixer_41 : decode cX7_withFixer 41 = .ok (.goto 10, 3) := by decide +kernel
theorem dX7_withFixer_44 : decode cX7_withFixer 44 = .ok (.aload_n 0, 1) := by decide +kernel
theorem dX7_withFixer_45 : decode cX7_withFixer 45 = .ok (.iload_n 1, 1) := by decide +kernel
theorem dX7_withFixer_46 : decode cX7_withFixer 46 = .ok (.iload_n 2, 1) := by decide +kernel
theorem dX7_withFixer_47 : decode cX7_withFixer 47 = .ok (.iload_n 3, 1) := by decide +kernel
theorem dX7_withFixer_48 : decode cX7_withFixer 48 = .ok (.invokevirtual 144, 3) := by decide +kernel
theorem dX7_withFixer_51 : decode cX7_withFixer 51 = .ok (.ireturn, 1) := by decide +kernel
theorem dX7_bestCare_0 : decode cX7_bestCare 0 = .ok (.aload_n 0, 1) := by decide +kernel
theorem dX7_bestCare_1 : decode cX7_bestCare 1 = .ok (.iconst 0, 1) := by decide +kernel
theorem dX7_bestCare_2 : decode cX7_bestCare 2 = .ok (.putfield 32, 3) := by decide +kernel
theorem dX7_bestCare_5 : decode cX7_bestCare 5 = .ok (.iload_n 1, 1) := by decide +kernel
theorem dX7_bestCare_6 : decode cX7_bestCare 6 = .ok (.iconst 1, 1) := by decide +kernel
theorem dX7_bestCare_7 : decode cX7_bestCare 7 = .ok (.sipush 300, 3) := by decide +kernel
theorem dX7_bestCare_10 : decode cX7_bestCare 10 = .ok (.invokestatic 94, 3) := by decide +kernel
theorem dX7_bestCare_13 : decode cX7_bestCare 13 = .ok (.ifCond .ne 6, 3) := by decide +kernel
theorem dX7_bestCare_16 : decode cX7_bestCare 16 = .ok (.bipush (-2), 2) := by decide +kernel
theorem dX7_bestCare_18 : decode cX7_bestCare 18 = .ok (.ireturn, 1) := by decide +kernel
theorem dX7_bestCare_19 : decode cX7_bestCare 19 = .ok (.aload_n 0, 1) := by decide +kernel
theorem dX7_bestCare_20 : decode cX7_bestCare 20 = .ok (.getfield 7, 3) := by decide +kernel
theorem dX7_bestCare_23 : decode cX7_bestCare 23 = .ok (.iconst 2, 1) := by decide +kernel
theorem dX7_bestCare_24 : decode cX7_bestCare 24 = .ok (.iaload, 1) := by decide +kernel
theorem dX7_bestCare_25 : decode cX7_bestCare 25 = .ok (.iconst 5, 1) := by decide +kernel
theorem dX7_bestCare_26 : decode cX7_bestCare 26 = .ok (.if_icmp .ne 6, 3) := by decide +kernel
theorem dX7_bestCare_29 : decode cX7_bestCare 29 = .ok (.bipush (-4), 2) := by decide +kernel
theorem dX7_bestCare_31 : decode cX7_bestCare 31 = .ok (.ireturn, 1) := by decide +kernel
theorem dX7_bestCare_32 : decode cX7_bestCare 32 = .ok (.iconst 0, 1) := by decide +kernel
theorem dX7_bestCare_33 : decode cX7_bestCare 33 = .ok (.istore_n 2, 1) := by decide +kernel
theorem dX7_bestCare_34 : decode cX7_bestCare 34 = .ok (.aload_n 0, 1) := by decide +kernel
theorem dX7_bestCare_35 : decode cX7_bestCare 35 = .ok (.bipush 63, 2) := by decide +kernel
theorem dX7_bestCare_37 : decode cX7_bestCare 37 = .ok (.iconst 0, 1) := by decide +kernel
theorem dX7_bestCare_38 : decode cX7_bestCare 38 = .ok (.iload_n 1, 1) := by decide +kernel
theorem dX7_bestCare_39 : decode cX7_bestCare 39 = .ok (.invokevirtual 144, 3) := by decide +kernel
theorem dX7_bestCare_42 : decode cX7_bestCare 42 = .ok (.istore_n 3, 1) := by decide +kernel
theorem dX7_bestCare_43 : decode cX7_bestCare 43 = .ok (.iconst 1, 1) := by decide +kernel
theorem dX7_bestCare_44 : decode cX7_bestCare 44 = .ok (.istore 4, 2) := by decide +kernel
theorem dX7_bestCare_46 : decode cX7_bestCare 46 = .ok (.iload 4, 2) := by decide +kernel
theorem dX7_bestCare_48 : decode cX7_bestCare 48 = .ok (.bipush 10, 2) := by decide +kernel
theorem dX7_bestCare_50 : decode cX7_bestCare 50 = .ok (.if_icmp .ge 46, 3) := by decide +kernel
theorem dX7_bestCare_53 : decode cX7_bestCare 53 = .ok (.aload_n 0, 1) := by decide +kernel
theorem dX7_bestCare_54 : decode cX7_bestCare 54 = .ok (.bipush 63, 2) := by decide +kernel
theorem dX7_bestCare_56 : decode cX7_bestCare 56 = .ok (.iload 4, 2) := by decide +kernel
theorem dX7_bestCare_58 : decode cX7_bestCare 58 = .ok (.iload_n 1, 1) := by decide +kernel
theorem dX7_bestCare_59 : decode cX7_bestCare 59 = .ok (.invokevirtual 144, 3) := by decide +kernel
theorem dX7_bestCare_62 : decode cX7_bestCare 62 = .ok (.istore 5, 2) := by decide +kernel
theorem dX7_bestCare_64 : decode cX7_bestCare 64 = .ok (.iload 5, 2) := by decide +kernel
theorem dX7_bestCare_66 : decode cX7_bestCare 66 = .ok (.iload_n 3, 1) := by decide +kernel
theorem dX7_bestCare_67 : decode cX7_bestCare 67 = .ok (.if_icmp .le 8, 3) := by decide +kernel
theorem dX7_bestCare_70 : decode cX7_bestCare 70 = .ok (.iload 4, 2) := by decide +kernel
theorem dX7_bestCare_72 : decode cX7_bestCare 72 = .ok (.goto 4, 3) := by decide +kernel
theorem dX7_bestCare_75 : decode cX7_bestCare 75 = .ok (.iload_n 2, 1) := by decide +kernel
theorem dX7_bestCare_76 : decode cX7_bestCare 76 = .ok (.istore_n 2, 1) := by decide +kernel
theorem dX7_bestCare_77 : decode cX7_bestCare 77 = .ok (.iload 5, 2) := by decide +kernel
theorem dX7_bestCare_79 : decode cX7_bestCare 79 = .ok (.iload_n 3, 1) := by decide +kernel
theorem dX7_bestCare_80 : decode cX7_bestCare 80 = .ok (.if_icmp .le 8, 3) := by decide +kernel
theorem dX7_bestCare_83 : decode cX7_bestCare 83 = .ok (.iload 5, 2) := by decide +kernel
theorem dX7_bestCare_85 : decode cX7_bestCare 85 = .ok (.goto 4, 3) := by decide +kernel
theorem dX7_bestCare_88 : decode cX7_bestCare 88 = .ok (.iload_n 3, 1) := by decide +kernel
theorem dX7_bestCare_89 : decode cX7_bestCare 89 = .ok (.istore_n 3, 1) := by decide +kernel
theorem dX7_bestCare_90 : decode cX7_bestCare 90 = .ok (.iinc 4 1, 3) := by decide +kernel
theorem dX7_bestCare_93 : decode cX7_bestCare 93 = .ok (.goto (-47), 3) := by decide +kernel
theorem dX7_bestCare_96 : decode cX7_bestCare 96 = .ok (.iload_n 2, 1) := by decide +kernel
theorem dX7_bestCare_97 : decode cX7_bestCare 97 = .ok (.ireturn, 1) := by decide +kernel
theorem dX7_put_0 : decode cX7_put 0 = .ok (.aload_n 0, 1) := by decide +kernel
theorem dX7_put_1 : decode cX7_put 1 = .ok (.iconst 0, 1) := by decide +kernel
theorem dX7_put_2 : decode cX7_put 2 = .ok (.putfield 32, 3) := by decide +kernel
theorem dX7_put_5 : decode cX7_put 5 = .ok (.iconst 0, 1) := by decide +kernel
theorem dX7_put_6 : decode cX7_put 6 = .ok (.istore_n 3, 1) := by decide +kernel
theorem dX7_put_7 : decode cX7_put 7 = .ok (.lload_n 1, 1) := by decide +kernel
theorem dX7_put_8 : decode cX7_put 8 = .ok (.lstore 4, 2) := by decide +kernel
theorem dX7_put_10 : decode cX7_put 10 = .ok (.iconst 1, 1) := by decide +kernel
theorem dX7_put_11 : decode cX7_put 11 = .ok (.istore 6, 2) := by decide +kernel
theorem dX7_put_13 : decode cX7_put 13 = .ok (.iload_n 3, 1) := by decide +kernel
theorem dX7_put_14 : decode cX7_put 14 = .ok (.bipush 8, 2) := by decide +kernel
theorem dX7_put_16 : decode cX7_put 16 = .ok (.if_icmp .ge 56, 3) := by decide +kernel
theorem dX7_put_19 : decode cX7_put 19 = .ok (.lload 4, 2) := by decide +kernel
theorem dX7_put_21 : decode cX7_put 21 = .ok (.ldc2_w 148, 3) := by decide +kernel
theorem dX7_put_24 : decode cX7_put 24 = .ok (.land, 1) := by decide +kernel
theorem dX7_put_25 : decode cX7_put 25 = .ok (.lconst 0, 1) := by decide +kernel
theorem dX7_put_26 : decode cX7_put 26 = .ok (.lcmp, 1) := by decide +kernel
theorem dX7_put_27 : decode cX7_put 27 = .ok (.ifCond .eq 45, 3) := by decide +kernel
theorem dX7_put_30 : decode cX7_put 30 = .ok (.iload 6, 2) := by decide +kernel
theorem dX7_put_32 : decode cX7_put 32 = .ok (.ifCond .eq 24, 3) := by decide +kernel
theorem dX7_put_35 : decode cX7_put 35 = .ok (.lload 4, 2) := by decide +kernel
theorem dX7_put_37 : decode cX7_put 37 = .ok (.ldc2_w 148, 3) := by decide +kernel
theorem dX7_put_40 : decode cX7_put 40 = .ok (.land, 1) := by decide +kernel
theorem dX7_put_41 : decode cX7_put 41 = .ok (.l2i, 1) := by decide +kernel
theorem dX7_put_42 : decode cX7_put 42 = .ok (.bipush 33, 2) := by decide +kernel
theorem dX7_put_44 : decode cX7_put 44 = .ok (.bipush 126, 2) := by decide +kernel
theorem dX7_put_46 : decode cX7_put 46 = .ok (.invokestatic 94, 3) := by decide +kernel
theorem dX7_put_49 : decode cX7_put 49 = .ok (.ifCond .eq 7, 3) := by decide +kernel
theorem dX7_put_52 : decode cX7_put 52 = .ok (.iconst 1, 1) := by decide +kernel
theorem dX7_put_53 : decode cX7_put 53 = .ok (.goto 4, 3) := by decide +kernel
theorem dX7_put_56 : decode cX7_put 56 = .ok (.iconst 0, 1) := by decide +kernel
theorem dX7_put_57 : decode cX7_put 57 = .ok (.istore 6, 2) := by decide +kernel
theorem dX7_put_59 : decode cX7_put 59 = .ok (.lload 4, 2) := by decide +kernel
theorem dX7_put_61 : decode cX7_put 61 = .ok (.bipush 8, 2) := by decide +kernel
theorem dX7_put_63 : decode cX7_put 63 = .ok (.lushr, 1) := by decide +kernel
theorem dX7_put_64 : decode cX7_put 64 = .ok (.lstore 4, 2) := by decide +kernel
theorem dX7_put_66 : decode cX7_put 66 = .ok (.iinc 3 1, 3) := by decide +kernel
theorem dX7_put_69 : decode cX7_put 69 = .ok (.goto (-56), 3) := by decide +kernel
theorem dX7_put_72 : decode cX7_put 72 = .ok (.iload_n 3, 1) := by decide +kernel
theorem dX7_put_73 : decode cX7_put 73 = .ok (.ifCond .eq 15, 3) := by decide +kernel
theorem dX7_put_76 : decode cX7_put 76 = .ok (.iload 6, 2) := by decide +kernel
theorem dX7_put_78 : decode cX7_put 78 = .ok (.ifCond .eq 10, 3) := by decide +kernel
theorem dX7_put_81 : decode cX7_put 81 = .ok (.lload 4, 2) := by decide +kernel
theorem dX7_put_83 : decode cX7_put 83 = .ok (.lconst 0, 1) := by decide +kernel
theorem dX7_put_84 : decode cX7_put 84 = .ok (.lcmp, 1) := by decide +kernel
theorem dX7_put_85 : decode cX7_put 85 = .ok (.ifCond .eq 6, 3) := by decide +kernel
theorem dX7_put_88 : decode cX7_put 88 = .ok (.bipush (-2), 2) := by decide +kernel
theorem dX7_put_90 : decode cX7_put 90 = .ok (.ireturn, 1) := by decide +kernel
theorem dX7_put_91 : decode cX7_put 91 = .ok (.aload_n 0, 1) := by decide +kernel
theorem dX7_put_92 : decode cX7_put 92 = .ok (.getfield 135, 3) := by decide +kernel
theorem dX7_put_95 : decode cX7_put 95 = .ok (.iload_n 3, 1) := by decide +kernel
theorem dX7_put_96 : decode cX7_put 96 = .ok (.iadd, 1) := by decide +kernel
theorem dX7_put_97 : decode cX7_put 97 = .ok (.bipush 80, 2) := by decide +kernel
theorem dX7_put_99 : decode cX7_put 99 = .ok (.if_icmp .le 6, 3) := by decide +kernel
theorem dX7_put_102 : decode cX7_put 102 = .ok (.bipush (-4), 2) := by decide +kernel
theorem dX7_put_104 : decode cX7_put 104 = .ok (.ireturn, 1) := by decide +kernel
theorem dX7_put_105 : decode cX7_put 105 = .ok (.iconst 0, 1) := by decide +kernel
theorem dX7_put_106 : decode cX7_put 106 = .ok (.istore 7, 2) := by decide +kernel
theorem dX7_put_108 : decode cX7_put 108 = .ok (.iload 7, 2) := by decide +kernel
theorem dX7_put_110 : decode cX7_put 110 = .ok (.iload_n 3, 1) := by decide +kernel
theorem dX7_put_111 : decode cX7_put 111 = .ok (.if_icmp .ge 37, 3) := by decide +kernel
theorem dX7_put_114 : decode cX7_put 114 = .ok (.aload_n 0, 1) := by decide +kernel
theorem dX7_put_115 : decode cX7_put 115 = .ok (.getfield 26, 3) := by decide +kernel
theorem dX7_put_118 : decode cX7_put 118 = .ok (.aload_n 0, 1) := by decide +kernel
theorem dX7_put_119 : decode cX7_put 119 = .ok (.getfield 135, 3) := by decide +kernel
theorem dX7_put_122 : decode cX7_put 122 = .ok (.iload 7, 2) := by decide +kernel
theorem dX7_put_124 : decode cX7_put 124 = .ok (.iadd, 1) := by decide +kernel
theorem dX7_put_125 : decode cX7_put 125 = .ok (.lload_n 1, 1) := by decide +kernel
theorem dX7_put_126 : decode cX7_put 126 = .ok (.bipush 8, 2) := by decide +kernel
theorem dX7_put_128 : decode cX7_put 128 = .ok (.iload_n 3, 1) := by decide +kernel
theorem dX7_put_129 : decode cX7_put 129 = .ok (.iconst 1, 1) := by decide +kernel
theorem dX7_put_130 : decode cX7_put 130 = .ok (.isub, 1) := by decide +kernel
theorem dX7_put_131 : decode cX7_put 131 = .ok (.iload 7, 2) := by decide +kernel
theorem dX7_put_133 : decode cX7_put 133 = .ok (.isub, 1) := by decide +kernel
theorem dX7_put_134 : decode cX7_put 134 = .ok (.imul, 1) := by decide +kernel
theorem dX7_put_135 : decode cX7_put 135 = .ok (.lushr, 1) := by decide +kernel
theorem dX7_put_136 : decode cX7_put 136 = .ok (.ldc2_w 148, 3) := by decide +kernel
theorem dX7_put_139 : decode cX7_put 139 = .ok (.land, 1) := by decide +kernel
theorem dX7_put_140 : decode cX7_put 140 = .ok (.l2i, 1) := by decide +kernel
theorem dX7_put_141 : decode cX7_put 141 = .ok (.iastore, 1) := by decide +kernel
theorem dX7_put_142 : decode cX7_put 142 = .ok (.iinc 7 1, 3) := by decide +kernel
theorem dX7_put_145 : decode cX7_put 145 = .ok (.goto (-37), 3) := by decide +kernel
theorem dX7_put_148 : decode cX7_put 148 = .ok (.aload_n 0, 1) := by decide +kernel
theorem dX7_put_149 : decode cX7_put 149 = .ok (.dup, 1) := by decide +kernel
theorem dX7_put_150 : decode cX7_put 150 = .ok (.getfield 135, 3) := by decide +kernel
theorem dX7_put_153 : decode cX7_put 153 = .ok (.iload_n 3, 1) := by decide +kernel
theorem dX7_put_154 : decode cX7_put 154 = .ok (.iadd, 1) := by decide +kernel
theorem dX7_put_155 : decode cX7_put 155 = .ok (.putfield 135, 3) := by decide +kernel
theorem dX7_put_158 : decode cX7_put 158 = .ok (.aload_n 0, 1) := by decide +kernel
theorem dX7_put_159 : decode cX7_put 159 = .ok (.getfield 135, 3) := by decide +kernel
theorem dX7_put_162 : decode cX7_put 162 = .ok (.ireturn, 1) := by decide +kernel
theorem dX7_wipe_0 : decode cX7_wipe 0 = .ok (.aload_n 0, 1) := by decide +kernel
theorem dX7_wipe_1 : decode cX7_wipe 1 = .ok (.iconst 0, 1) := by decide +kernel
theorem dX7_wipe_2 : decode cX7_wipe 2 = .ok (.putfield 32, 3) := by decide +kernel
theorem dX7_wipe_5 : decode cX7_wipe 5 = .ok (.aload_n 0, 1) := by decide +kernel
theorem dX7_wipe_6 : decode cX7_wipe 6 = .ok (.getfield 135, 3) := by decide +kernel
theorem dX7_wipe_9 : decode cX7_wipe 9 = .ok (.istore_n 1, 1) := by decide +kernel
theorem dX7_wipe_10 : decode cX7_wipe 10 = .ok (.aload_n 0, 1) := by decide +kernel
theorem dX7_wipe_11 : decode cX7_wipe 11 = .ok (.iconst 0, 1) := by decide +kernel
theorem dX7_wipe_12 : decode cX7_wipe 12 = .ok (.putfield 135, 3) := by decide +kernel
theorem dX7_wipe_15 : decode cX7_wipe 15 = .ok (.iload_n 1, 1) := by decide +kernel
theorem dX7_wipe_16 : decode cX7_wipe 16 = .ok (.ireturn, 1) := by decide +kernel
theorem dX7_sign_0 : decode cX7_sign 0 = .ok (.aload_n 0, 1) := by decide +kernel
theorem dX7_sign_1 : decode cX7_sign 1 = .ok (.getfield 150, 3) := by decide +kernel
theorem dX7_sign_4 : decode cX7_sign 4 = .ok (.aload_n 0, 1) := by decide +kernel
theorem dX7_sign_5 : decode cX7_sign 5 = .ok (.getfield 135, 3) := by decide +kernel
theorem dX7_sign_8 : decode cX7_sign 8 = .ok (.if_icmp .ge 15, 3) := by decide +kernel
theorem dX7_sign_11 : decode cX7_sign 11 = .ok (.aload_n 0, 1) := by decide +kernel
theorem dX7_sign_12 : decode cX7_sign 12 = .ok (.getfield 26, 3) := by decide +kernel
theorem dX7_sign_15 : decode cX7_sign 15 = .ok (.aload_n 0, 1) := by decide +kernel
theorem dX7_sign_16 : decode cX7_sign 16 = .ok (.getfield 150, 3) := by decide +kernel
theorem dX7_sign_19 : decode cX7_sign 19 = .ok (.iaload, 1) := by decide +kernel
theorem dX7_sign_20 : decode cX7_sign 20 = .ok (.goto 4, 3) := by decide +kernel
theorem dX7_sign_23 : decode cX7_sign 23 = .ok (.iconst 0, 1) := by decide +kernel
theorem dX7_sign_24 : decode cX7_sign 24 = .ok (.ireturn, 1) := by decide +kernel
theorem dX7_takesSign_0 : decode cX7_takesSign 0 = .ok (.aload_n 0, 1) := by decide +kernel
theorem dX7_takesSign_1 : decode cX7_takesSign 1 = .ok (.getfield 153, 3) := by decide +kernel
theorem dX7_takesSign_4 : decode cX7_takesSign 4 = .ok (.ifCond .eq 15, 3) := by decide +kernel
theorem dX7_takesSign_7 : decode cX7_takesSign 7 = .ok (.aload_n 0, 1) := by decide +kernel
theorem dX7_takesSign_8 : decode cX7_takesSign 8 = .ok (.invokevirtual 157, 3) := by decide +kernel
theorem dX7_takesSign_11 : decode cX7_takesSign 11 = .ok (.iload_n 1, 1) := by decide +kernel
theorem dX7_takesSign_12 : decode cX7_takesSign 12 = .ok (.if_icmp .ne 7, 3) := by decide +kernel
theorem dX7_takesSign_15 : decode cX7_takesSign 15 = .ok (.iconst 1, 1) := by decide +kernel
theorem dX7_takesSign_16 : decode cX7_takesSign 16 = .ok (.goto 4, 3) := by decide +kernel
theorem dX7_takesSign_19 : decode cX7_takesSign 19 = .ok (.iconst 0, 1) := by decide +kernel
theorem dX7_takesSign_20 : decode cX7_takesSign 20 = .ok (.istore_n 2, 1) := by decide +kernel
theorem dX7_takesSign_21 : decode cX7_takesSign 21 = .ok (.aload_n 0, 1) := by decide +kernel
theorem dX7_takesSign_22 : decode cX7_takesSign 22 = .ok (.dup, 1) := by decide +kernel
theorem dX7_takesSign_23 : decode cX7_takesSign 23 = .ok (.getfield 150, 3) := by decide +kernel
theorem dX7_takesSign_26 : decode cX7_takesSign 26 = .ok (.iload_n 2, 1) := by decide +kernel
theorem dX7_takesSign_27 : decode cX7_takesSign 27 = .ok (.ifCond .eq 7, 3) := by decide +kernel
theorem dX7_takesSign_30 : decode cX7_takesSign 30 = .ok (.iconst 1, 1) := by decide +kernel
theorem dX7_takesSign_31 : decode cX7_takesSign 31 = .ok (.goto 4, 3) := by decide +kernel
theorem dX7_takesSign_34 : decode cX7_takesSign 34 = .ok (.iconst 0, 1) := by decide +kernel
theorem dX7_takesSign_35 : decode cX7_takesSign 35 = .ok (.iadd, 1) := by decide +kernel
theorem dX7_takesSign_36 : decode cX7_takesSign 36 = .ok (.putfield 150, 3) := by decide +kernel
theorem dX7_takesSign_39 : decode cX7_takesSign 39 = .ok (.iload_n 2, 1) := by decide +kernel
theorem dX7_takesSign_40 : decode cX7_takesSign 40 = .ok (.ireturn, 1) := by decide +kernel
theorem dX7_digit_0 : decode cX7_digit 0 = .ok (.aload_n 0, 1) := by decide +kernel
theorem dX7_digit_1 : decode cX7_digit 1 = .ok (.aload_n 0, 1) := by decide +kernel
theorem dX7_digit_2 : decode cX7_digit 2 = .ok (.getfield 153, 3) := by decide +kernel
theorem dX7_digit_5 : decode cX7_digit 5 = .ok (.ifCond .eq 23, 3) := by decide +kernel
theorem dX7_digit_8 : decode cX7_digit 8 = .ok (.aload_n 0, 1) := by decide +kernel
theorem dX7_digit_9 : decode cX7_digit 9 = .ok (.invokevirtual 157, 3) := by decide +kernel
theorem dX7_digit_12 : decode cX7_digit 12 = .ok (.bipush 48, 2) := by decide +kernel
theorem dX7_digit_14 : decode cX7_digit 14 = .ok (.bipush 48, 2) := by decide +kernel
theorem dX7_digit_16 : decode cX7_digit 16 = .ok (.iload_n 1, 1) := by decide +kernel
theorem dX7_digit_17 : decode cX7_digit 17 = .ok (.iadd, 1) := by decide +kernel
theorem dX7_digit_18 : decode cX7_digit 18 = .ok (.invokestatic 94, 3) := by decide +kernel
theorem dX7_digit_21 : decode cX7_digit 21 = .ok (.ifCond .eq 7, 3) := by decide +kernel
theorem dX7_digit_24 : decode cX7_digit 24 = .ok (.iconst 1, 1) := by decide +kernel
theorem dX7_digit_25 : decode cX7_digit 25 = .ok (.goto 4, 3) := by decide +kernel
theorem dX7_digit_28 : decode cX7_digit 28 = .ok (.iconst 0, 1) := by decide +kernel
theorem dX7_digit_29 : decode cX7_digit 29 = .ok (.putfield 153, 3) := by decide +kernel
theorem dX7_digit_32 : decode cX7_digit 32 = .ok (.aload_n 0, 1) := by decide +kernel
theorem dX7_digit_33 : decode cX7_digit 33 = .ok (.invokevirtual 157, 3) := by decide +kernel
theorem dX7_digit_36 : decode cX7_digit 36 = .ok (.bipush 48, 2) := by decide +kernel
theorem dX7_digit_38 : decode cX7_digit 38 = .ok (.isub, 1) := by decide +kernel
theorem dX7_digit_39 : decode cX7_digit 39 = .ok (.istore_n 2, 1) := by decide +kernel
theorem dX7_digit_40 : decode cX7_digit 40 = .ok (.aload_n 0, 1) := by decide +kernel
theorem dX7_digit_41 : decode cX7_digit 41 = .ok (.dup, 1) := by decide +kernel
theorem dX7_digit_42 : decode cX7_digit 42 = .ok (.getfield 150, 3) := by decide +kernel
theorem dX7_digit_45 : decode cX7_digit 45 = .ok (.aload_n 0, 1) := by decide +kernel
theorem dX7_digit_46 : decode cX7_digit 46 = .ok (.getfield 153, 3) := by decide +kernel
theorem dX7_digit_49 : decode cX7_digit 49 = .ok (.ifCond .eq 7, 3) := by decide +kernel
theorem dX7_digit_52 : decode cX7_digit 52 = .ok (.iconst 1, 1) := by decide +kernel
theorem dX7_digit_53 : decode cX7_digit 53 = .ok (.goto 4, 3) := by decide +kernel
theorem dX7_digit_56 : decode cX7_digit 56 = .ok (.iconst 0, 1) := by decide +kernel
theorem dX7_digit_57 : decode cX7_digit 57 = .ok (.iadd, 1) := by decide +kernel
theorem dX7_digit_58 : decode cX7_digit 58 = .ok (.putfield 150, 3) := by decide +kernel
theorem dX7_digit_61 : decode cX7_digit 61 = .ok (.iload_n 2, 1) := by decide +kernel
theorem dX7_digit_62 : decode cX7_digit 62 = .ok (.ireturn, 1) := by decide +kernel
theorem dX7_digits_0 : decode cX7_digits 0 = .ok (.iconst 1, 1) := by decide +kernel
theorem dX7_digits_1 : decode cX7_digits 1 = .ok (.aload_n 0, 1) := by decide +kernel
theorem dX7_digits_2 : decode cX7_digits 2 = .ok (.iload_n 1, 1) := by decide +kernel
theorem dX7_digits_3 : decode cX7_digits 3 = .ok (.invokevirtual 161, 3) := by decide +kernel
theorem dX7_digits_6 : decode cX7_digits 6 = .ok (.bipush 7, 2) := by decide +kernel
theorem dX7_digits_8 : decode cX7_digits 8 = .ok (.iand, 1) := by decide +kernel
theorem dX7_digits_9 : decode cX7_digits 9 = .ok (.ishl, 1) := by decide +kernel
theorem dX7_digits_10 : decode cX7_digits 10 = .ok (.istore_n 2, 1) := by decide +kernel
theorem dX7_digits_11 : decode cX7_digits 11 = .ok (.aload_n 0, 1) := by decide +kernel
theorem dX7_digits_12 : decode cX7_digits 12 = .ok (.getfield 153, 3) := by decide +kernel
theorem dX7_digits_15 : decode cX7_digits 15 = .ok (.ifCond .eq 32, 3) := by decide +kernel
theorem dX7_digits_18 : decode cX7_digits 18 = .ok (.aload_n 0, 1) := by decide +kernel
theorem dX7_digits_19 : decode cX7_digits 19 = .ok (.invokevirtual 157, 3) := by decide +kernel
theorem dX7_digits_22 : decode cX7_digits 22 = .ok (.bipush 48, 2) := by decide +kernel
theorem dX7_digits_24 : decode cX7_digits 24 = .ok (.bipush 48, 2) := by decide +kernel
theorem dX7_digits_26 : decode cX7_digits 26 = .ok (.iload_n 1, 1) := by decide +kernel
theorem dX7_digits_27 : decode cX7_digits 27 = .ok (.iadd, 1) := by decide +kernel
theorem dX7_digits_28 : decode cX7_digits 28 = .ok (.invokestatic 94, 3) := by decide +kernel
theorem dX7_digits_31 : decode cX7_digits 31 = .ok (.ifCond .eq 16, 3) := by decide +kernel
theorem dX7_digits_34 : decode cX7_digits 34 = .ok (.iload_n 2, 1) := by decide +kernel
theorem dX7_digits_35 : decode cX7_digits 35 = .ok (.iconst 1, 1) := by decide +kernel
theorem dX7_digits_36 : decode cX7_digits 36 = .ok (.aload_n 0, 1) := by decide +kernel
theorem dX7_digits_37 : decode cX7_digits 37 = .ok (.iload_n 1, 1) := by decide +kernel
theorem dX7_digits_38 : decode cX7_digits 38 = .ok (.invokevirtual 161, 3) := by decide +kernel
theorem dX7_digits_41 : decode cX7_digits 41 = .ok (.ishl, 1) := by decide +kernel
theorem dX7_digits_42 : decode cX7_digits 42 = .ok (.ior, 1) := by decide +kernel
theorem dX7_digits_43 : decode cX7_digits 43 = .ok (.istore_n 2, 1) := by decide +kernel
theorem dX7_digits_44 : decode cX7_digits 44 = .ok (.goto (-33), 3) := by decide +kernel
theorem dX7_digits_47 : decode cX7_digits 47 = .ok (.iload_n 2, 1) := by decide +kernel
theorem dX7_digits_48 : decode cX7_digits 48 = .ok (.ireturn, 1) := by decide +kernel
theorem dX7_number_0 : decode cX7_number 0 = .ok (.aload_n 0, 1) := by decide +kernel
theorem dX7_number_1 : decode cX7_number 1 = .ok (.bipush 9, 2) := by decide +kernel
theorem dX7_number_3 : decode cX7_number 3 = .ok (.invokevirtual 161, 3) := by decide +kernel
theorem dX7_number_6 : decode cX7_number 6 = .ok (.istore_n 1, 1) := by decide +kernel
theorem dX7_number_7 : decode cX7_number 7 = .ok (.aload_n 0, 1) := by decide +kernel
theorem dX7_number_8 : decode cX7_number 8 = .ok (.getfield 153, 3) := by decide +kernel
theorem dX7_number_11 : decode cX7_number 11 = .ok (.ifCond .eq 44, 3) := by decide +kernel
theorem dX7_number_14 : decode cX7_number 14 = .ok (.iload_n 1, 1) := by decide +kernel
theorem dX7_number_15 : decode cX7_number 15 = .ok (.ifCond .le 40, 3) := by decide +kernel
theorem dX7_number_18 : decode cX7_number 18 = .ok (.aload_n 0, 1) := by decide +kernel
theorem dX7_number_19 : decode cX7_number 19 = .ok (.invokevirtual 157, 3) := by decide +kernel
theorem dX7_number_22 : decode cX7_number 22 = .ok (.bipush 48, 2) := by decide +kernel
theorem dX7_number_24 : decode cX7_number 24 = .ok (.bipush 57, 2) := by decide +kernel
theorem dX7_number_26 : decode cX7_number 26 = .ok (.invokestatic 94, 3) := by decide +kernel
theorem dX7_number_29 : decode cX7_number 29 = .ok (.ifCond .eq 26, 3) := by decide +kernel
theorem dX7_number_32 : decode cX7_number 32 = .ok (.bipush 10, 2) := by decide +kernel
theorem dX7_number_34 : decode cX7_number 34 = .ok (.iload_n 1, 1) := by decide +kernel
theorem dX7_number_35 : decode cX7_number 35 = .ok (.imul, 1) := by decide +kernel
theorem dX7_number_36 : decode cX7_number 36 = .ok (.aload_n 0, 1) := by decide +kernel
theorem dX7_number_37 : decode cX7_number 37 = .ok (.invokevirtual 157, 3) := by decide +kernel
theorem dX7_number_40 : decode cX7_number 40 = .ok (.iadd, 1) := by decide +kernel
theorem dX7_number_41 : decode cX7_number 41 = .ok (.bipush 48, 2) := by decide +kernel
theorem dX7_number_43 : decode cX7_number 43 = .ok (.isub, 1) := by decide +kernel
theorem dX7_number_44 : decode cX7_number 44 = .ok (.istore_n 1, 1) := by decide +kernel
theorem dX7_number_45 : decode cX7_number 45 = .ok (.aload_n 0, 1) := by decide +kernel
theorem dX7_number_46 : decode cX7_number 46 = .ok (.dup, 1) := by decide +kernel
theorem dX7_number_47 : decode cX7_number 47 = .ok (.getfield 150, 3) := by decide +kernel
theorem dX7_number_50 : decode cX7_number 50 = .ok (.iconst 1, 1) := by decide +kernel
theorem dX7_number_51 : decode cX7_number 51 = .ok (.iadd, 1) := by decide +kernel
theorem dX7_number_52 : decode cX7_number 52 = .ok (.putfield 150, 3) := by decide +kernel
theorem dX7_number_55 : decode cX7_number 55 = .ok (.iload_n 1, 1) := by decide +kernel
theorem dX7_number_56 : decode cX7_number 56 = .ok (.ireturn, 1) := by decide +kernel
theorem dX7_readsOrder_0 : decode cX7_readsOrder 0 = .ok (.iconst 5, 1) := by decide +kernel
theorem dX7_readsOrder_1 : decode cX7_readsOrder 1 = .ok (.aload_n 0, 1) := by decide +kernel
theorem dX7_readsOrder_2 : decode cX7_readsOrder 2 = .ok (.getfield 164, 3) := by decide +kernel
theorem dX7_readsOrder_5 : decode cX7_readsOrder 5 = .ok (.imul, 1) := by decide +kernel
theorem dX7_readsOrder_6 : decode cX7_readsOrder 6 = .ok (.istore_n 1, 1) := by decide +kernel
theorem dX7_readsOrder_7 : decode cX7_readsOrder 7 = .ok (.aload_n 0, 1) := by decide +kernel
theorem dX7_readsOrder_8 : decode cX7_readsOrder 8 = .ok (.invokevirtual 157, 3) := by decide +kernel
theorem dX7_readsOrder_11 : decode cX7_readsOrder 11 = .ok (.istore_n 2, 1) := by decide +kernel
theorem dX7_readsOrder_12 : decode cX7_readsOrder 12 = .ok (.iload_n 2, 1) := by decide +kernel
theorem dX7_readsOrder_13 : decode cX7_readsOrder 13 = .ok (.bipush 43, 2) := by decide +kernel
theorem dX7_readsOrder_15 : decode cX7_readsOrder 15 = .ok (.if_icmp .eq 21, 3) := by decide +kernel
theorem dX7_readsOrder_18 : decode cX7_readsOrder 18 = .ok (.iload_n 2, 1) := by decide +kernel
theorem dX7_readsOrder_19 : decode cX7_readsOrder 19 = .ok (.bipush 102, 2) := by decide +kernel
theorem dX7_readsOrder_21 : decode cX7_readsOrder 21 = .ok (.if_icmp .eq 15, 3) := by decide +kernel
theorem dX7_readsOrder_24 : decode cX7_readsOrder 24 = .ok (.iload_n 2, 1) := by decide +kernel
theorem dX7_readsOrder_25 : decode cX7_readsOrder 25 = .ok (.bipush 100, 2) := by decide +kernel
theorem dX7_readsOrder_27 : decode cX7_readsOrder 27 = .ok (.if_icmp .eq 9, 3) := by decide +kernel
theorem dX7_readsOrder_30 : decode cX7_readsOrder 30 = .ok (.iload_n 2, 1) := by decide +kernel
theorem dX7_readsOrder_31 : decode cX7_readsOrder 31 = .ok (.bipush 116, 2) := by decide +kernel
theorem dX7_readsOrder_33 : decode cX7_readsOrder 33 = .ok (.if_icmp .ne 7, 3) := by decide +kernel
theorem dX7_readsOrder_36 : decode cX7_readsOrder 36 = .ok (.iconst 1, 1) := by decide +kernel
theorem dX7_readsOrder_37 : decode cX7_readsOrder 37 = .ok (.goto 4, 3) := by decide +kernel
theorem dX7_readsOrder_40 : decode cX7_readsOrder 40 = .ok (.iconst 0, 1) := by decide +kernel
theorem dX7_readsOrder_41 : decode cX7_readsOrder 41 = .ok (.istore_n 3, 1) := by decide +kernel
theorem dX7_readsOrder_42 : decode cX7_readsOrder 42 = .ok (.aload_n 0, 1) := by decide +kernel
theorem dX7_readsOrder_43 : decode cX7_readsOrder 43 = .ok (.aload_n 0, 1) := by decide +kernel
theorem dX7_readsOrder_44 : decode cX7_readsOrder 44 = .ok (.getfield 153, 3) := by decide +kernel
theorem dX7_readsOrder_47 : decode cX7_readsOrder 47 = .ok (.ifCond .eq 11, 3) := by decide +kernel
theorem dX7_readsOrder_50 : decode cX7_readsOrder 50 = .ok (.iload_n 3, 1) := by decide +kernel
theorem dX7_readsOrder_51 : decode cX7_readsOrder 51 = .ok (.ifCond .eq 7, 3) := by decide +kernel
theorem dX7_readsOrder_54 : decode cX7_readsOrder 54 = .ok (.iconst 1, 1) := by decide +kernel
theorem dX7_readsOrder_55 : decode cX7_readsOrder 55 = .ok (.goto 4, 3) := by decide +kernel
theorem dX7_readsOrder_58 : decode cX7_readsOrder 58 = .ok (.iconst 0, 1) := by decide +kernel
theorem dX7_readsOrder_59 : decode cX7_readsOrder 59 = .ok (.putfield 153, 3) := by decide +kernel
theorem dX7_readsOrder_62 : decode cX7_readsOrder 62 = .ok (.aload_n 0, 1) := by decide +kernel
theorem dX7_readsOrder_63 : decode cX7_readsOrder 63 = .ok (.dup, 1) := by decide +kernel
theorem dX7_readsOrder_64 : decode cX7_readsOrder 64 = .ok (.getfield 150, 3) := by decide +kernel
theorem dX7_readsOrder_67 : decode cX7_readsOrder 67 = .ok (.aload_n 0, 1) := by decide +kernel
theorem dX7_readsOrder_68 : decode cX7_readsOrder 68 = .ok (.getfield 153, 3) := by decide +kernel
theorem dX7_readsOrder_71 : decode cX7_readsOrder 71 = .ok (.ifCond .eq 7, 3) := by decide +kernel
theorem dX7_readsOrder_74 : decode cX7_readsOrder 74 = .ok (.iconst 1, 1) := by decide +kernel
theorem dX7_readsOrder_75 : decode cX7_readsOrder 75 = .ok (.goto 4, 3) := by decide +kernel
theorem dX7_readsOrder_78 : decode cX7_readsOrder 78 = .ok (.iconst 0, 1) := by decide +kernel
theorem dX7_readsOrder_79 : decode cX7_readsOrder 79 = .ok (.iadd, 1) := by decide +kernel
theorem dX7_readsOrder_80 : decode cX7_readsOrder 80 = .ok (.putfield 150, 3) := by decide +kernel
theorem dX7_readsOrder_83 : decode cX7_readsOrder 83 = .ok (.aload_n 0, 1) := by decide +kernel
theorem dX7_readsOrder_84 : decode cX7_readsOrder 84 = .ok (.getfield 29, 3) := by decide +kernel
theorem dX7_readsOrder_87 : decode cX7_readsOrder 87 = .ok (.iload_n 1, 1) := by decide +kernel
theorem dX7_readsOrder_88 : decode cX7_readsOrder 88 = .ok (.iload_n 2, 1) := by decide +kernel
theorem dX7_readsOrder_89 : decode cX7_readsOrder 89 = .ok (.iastore, 1) := by decide +kernel
theorem dX7_readsOrder_90 : decode cX7_readsOrder 90 = .ok (.iload_n 2, 1) := by decide +kernel
theorem dX7_readsOrder_91 : decode cX7_readsOrder 91 = .ok (.bipush 43, 2) := by decide +kernel
theorem dX7_readsOrder_93 : decode cX7_readsOrder 93 = .ok (.if_icmp .ne 95, 3) := by decide +kernel
theorem dX7_readsOrder_96 : decode cX7_readsOrder 96 = .ok (.aload_n 0, 1) := by decide +kernel
theorem dX7_readsOrder_97 : decode cX7_readsOrder 97 = .ok (.getfield 29, 3) := by decide +kernel
theorem dX7_readsOrder_100 : decode cX7_readsOrder 100 = .ok (.iload_n 1, 1) := by decide +kernel
theorem dX7_readsOrder_101 : decode cX7_readsOrder 101 = .ok (.iconst 1, 1) := by decide +kernel
theorem dX7_readsOrder_102 : decode cX7_readsOrder 102 = .ok (.iadd, 1) := by decide +kernel
theorem dX7_readsOrder_103 : decode cX7_readsOrder 103 = .ok (.aload_n 0, 1) := by decide +kernel
theorem dX7_readsOrder_104 : decode cX7_readsOrder 104 = .ok (.iconst 5, 1) := by decide +kernel
theorem dX7_readsOrder_105 : decode cX7_readsOrder 105 = .ok (.invokevirtual 161, 3) := by decide +kernel
theorem dX7_readsOrder_108 : decode cX7_readsOrder 108 = .ok (.iastore, 1) := by decide +kernel
theorem dX7_readsOrder_109 : decode cX7_readsOrder 109 = .ok (.aload_n 0, 1) := by decide +kernel
theorem dX7_readsOrder_110 : decode cX7_readsOrder 110 = .ok (.getfield 29, 3) := by decide +kernel
theorem dX7_readsOrder_113 : decode cX7_readsOrder 113 = .ok (.iload_n 1, 1) := by decide +kernel
theorem dX7_readsOrder_114 : decode cX7_readsOrder 114 = .ok (.iconst 2, 1) := by decide +kernel
theorem dX7_readsOrder_115 : decode cX7_readsOrder 115 = .ok (.iadd, 1) := by decide +kernel
theorem dX7_readsOrder_116 : decode cX7_readsOrder 116 = .ok (.aload_n 0, 1) := by decide +kernel
theorem dX7_readsOrder_117 : decode cX7_readsOrder 117 = .ok (.bipush 58, 2) := by decide +kernel
theorem dX7_readsOrder_119 : decode cX7_readsOrder 119 = .ok (.invokevirtual 167, 3) := by decide +kernel
theorem dX7_readsOrder_122 : decode cX7_readsOrder 122 = .ok (.ifCond .eq 12, 3) := by decide +kernel
theorem dX7_readsOrder_125 : decode cX7_readsOrder 125 = .ok (.aload_n 0, 1) := by decide +kernel
theorem dX7_readsOrder_126 : decode cX7_readsOrder 126 = .ok (.bipush 7, 2) := by decide +kernel
theorem dX7_readsOrder_128 : decode cX7_readsOrder 128 = .ok (.invokevirtual 170, 3) := by decide +kernel
theorem dX7_readsOrder_131 : decode cX7_readsOrder 131 = .ok (.goto 4, 3) := by decide +kernel
theorem dX7_readsOrder_134 : decode cX7_readsOrder 134 = .ok (.iconst 0, 1) := by decide +kernel
theorem dX7_readsOrder_135 : decode cX7_readsOrder 135 = .ok (.iastore, 1) := by decide +kernel
theorem dX7_readsOrder_136 : decode cX7_readsOrder 136 = .ok (.aload_n 0, 1) := by decide +kernel
theorem dX7_readsOrder_137 : decode cX7_readsOrder 137 = .ok (.aload_n 0, 1) := by decide +kernel
theorem dX7_readsOrder_138 : decode cX7_readsOrder 138 = .ok (.bipush 33, 2) := by decide +kernel
theorem dX7_readsOrder_140 : decode cX7_readsOrder 140 = .ok (.invokevirtual 167, 3) := by decide +kernel
theorem dX7_readsOrder_143 : decode cX7_readsOrder 143 = .ok (.putfield 153, 3) := by decide +kernel
theorem dX7_readsOrder_146 : decode cX7_readsOrder 146 = .ok (.aload_n 0, 1) := by decide +kernel
theorem dX7_readsOrder_147 : decode cX7_readsOrder 147 = .ok (.getfield 29, 3) := by decide +kernel
theorem dX7_readsOrder_150 : decode cX7_readsOrder 150 = .ok (.iload_n 1, 1) := by decide +kernel
theorem dX7_readsOrder_151 : decode cX7_readsOrder 151 = .ok (.iconst 3, 1) := by decide +kernel
theorem dX7_readsOrder_152 : decode cX7_readsOrder 152 = .ok (.iadd, 1) := by decide +kernel
theorem dX7_readsOrder_153 : decode cX7_readsOrder 153 = .ok (.aload_n 0, 1) := by decide +kernel
theorem dX7_readsOrder_154 : decode cX7_readsOrder 154 = .ok (.invokevirtual 173, 3) := by decide +kernel
theorem dX7_readsOrder_157 : decode cX7_readsOrder 157 = .ok (.iastore, 1) := by decide +kernel
theorem dX7_readsOrder_158 : decode cX7_readsOrder 158 = .ok (.aload_n 0, 1) := by decide +kernel
theorem dX7_readsOrder_159 : decode cX7_readsOrder 159 = .ok (.getfield 29, 3) := by decide +kernel
theorem dX7_readsOrder_162 : decode cX7_readsOrder 162 = .ok (.iload_n 1, 1) := by decide +kernel
theorem dX7_readsOrder_163 : decode cX7_readsOrder 163 = .ok (.iconst 4, 1) := by decide +kernel
theorem dX7_readsOrder_164 : decode cX7_readsOrder 164 = .ok (.iadd, 1) := by decide +kernel
theorem dX7_readsOrder_165 : decode cX7_readsOrder 165 = .ok (.aload_n 0, 1) := by decide +kernel
theorem dX7_readsOrder_166 : decode cX7_readsOrder 166 = .ok (.bipush 63, 2) := by decide +kernel
theorem dX7_readsOrder_168 : decode cX7_readsOrder 168 = .ok (.invokevirtual 167, 3) := by decide +kernel
theorem dX7_readsOrder_171 : decode cX7_readsOrder 171 = .ok (.ifCond .eq 12, 3) := by decide +kernel
theorem dX7_readsOrder_174 : decode cX7_readsOrder 174 = .ok (.aload_n 0, 1) := by decide +kernel
theorem dX7_readsOrder_175 : decode cX7_readsOrder 175 = .ok (.bipush 7, 2) := by decide +kernel
theorem dX7_readsOrder_177 : decode cX7_readsOrder 177 = .ok (.invokevirtual 161, 3) := by decide +kernel
theorem dX7_readsOrder_180 : decode cX7_readsOrder 180 = .ok (.goto 4, 3) := by decide +kernel
theorem dX7_readsOrder_183 : decode cX7_readsOrder 183 = .ok (.iconst 0, 1) := by decide +kernel
theorem dX7_readsOrder_184 : decode cX7_readsOrder 184 = .ok (.iastore, 1) := by decide +kernel
theorem dX7_readsOrder_185 : decode cX7_readsOrder 185 = .ok (.goto 106, 3) := by decide +kernel
theorem dX7_readsOrder_188 : decode cX7_readsOrder 188 = .ok (.iload_n 2, 1) := by decide +kernel
theorem dX7_readsOrder_189 : decode cX7_readsOrder 189 = .ok (.bipush 102, 2) := by decide +kernel
theorem dX7_readsOrder_191 : decode cX7_readsOrder 191 = .ok (.if_icmp .ne 43, 3) := by decide +kernel
theorem dX7_readsOrder_194 : decode cX7_readsOrder 194 = .ok (.aload_n 0, 1) := by decide +kernel
theorem dX7_readsOrder_195 : decode cX7_readsOrder 195 = .ok (.getfield 29, 3) := by decide +kernel
theorem dX7_readsOrder_198 : decode cX7_readsOrder 198 = .ok (.iload_n 1, 1) := by decide +kernel
theorem dX7_readsOrder_199 : decode cX7_readsOrder 199 = .ok (.iconst 1, 1) := by decide +kernel
theorem dX7_readsOrder_200 : decode cX7_readsOrder 200 = .ok (.iadd, 1) := by decide +kernel
theorem dX7_readsOrder_201 : decode cX7_readsOrder 201 = .ok (.aload_n 0, 1) := by decide +kernel
theorem dX7_readsOrder_202 : decode cX7_readsOrder 202 = .ok (.iconst 5, 1) := by decide +kernel
theorem dX7_readsOrder_203 : decode cX7_readsOrder 203 = .ok (.invokevirtual 170, 3) := by decide +kernel
theorem dX7_readsOrder_206 : decode cX7_readsOrder 206 = .ok (.iastore, 1) := by decide +kernel
theorem dX7_readsOrder_207 : decode cX7_readsOrder 207 = .ok (.aload_n 0, 1) := by decide +kernel
theorem dX7_readsOrder_208 : decode cX7_readsOrder 208 = .ok (.aload_n 0, 1) := by decide +kernel
theorem dX7_readsOrder_209 : decode cX7_readsOrder 209 = .ok (.bipush 94, 2) := by decide +kernel
theorem dX7_readsOrder_211 : decode cX7_readsOrder 211 = .ok (.invokevirtual 167, 3) := by decide +kernel
theorem dX7_readsOrder_214 : decode cX7_readsOrder 214 = .ok (.putfield 153, 3) := by decide +kernel
theorem dX7_readsOrder_217 : decode cX7_readsOrder 217 = .ok (.aload_n 0, 1) := by decide +kernel
theorem dX7_readsOrder_218 : decode cX7_readsOrder 218 = .ok (.getfield 29, 3) := by decide +kernel
theorem dX7_readsOrder_221 : decode cX7_readsOrder 221 = .ok (.iload_n 1, 1) := by decide +kernel
theorem dX7_readsOrder_222 : decode cX7_readsOrder 222 = .ok (.iconst 2, 1) := by decide +kernel
theorem dX7_readsOrder_223 : decode cX7_readsOrder 223 = .ok (.iadd, 1) := by decide +kernel
theorem dX7_readsOrder_224 : decode cX7_readsOrder 224 = .ok (.aload_n 0, 1) := by decide +kernel
theorem dX7_readsOrder_225 : decode cX7_readsOrder 225 = .ok (.bipush 9, 2) := by decide +kernel
theorem dX7_readsOrder_227 : decode cX7_readsOrder 227 = .ok (.invokevirtual 161, 3) := by decide +kernel
theorem dX7_readsOrder_230 : decode cX7_readsOrder 230 = .ok (.iastore, 1) := by decide +kernel
theorem dX7_readsOrder_231 : decode cX7_readsOrder 231 = .ok (.goto 60, 3) := by decide +kernel
theorem dX7_readsOrder_234 : decode cX7_readsOrder 234 = .ok (.iload_n 2, 1) := by decide +kernel
theorem dX7_readsOrder_235 : decode cX7_readsOrder 235 = .ok (.bipush 100, 2) := by decide +kernel
theorem dX7_readsOrder_237 : decode cX7_readsOrder 237 = .ok (.if_icmp .ne 42, 3) := by decide +kernel
theorem dX7_readsOrder_240 : decode cX7_readsOrder 240 = .ok (.aload_n 0, 1) := by decide +kernel
theorem dX7_readsOrder_241 : decode cX7_readsOrder 241 = .ok (.getfield 29, 3) := by decide +kernel
theorem dX7_readsOrder_244 : decode cX7_readsOrder 244 = .ok (.iload_n 1, 1) := by decide +kernel
theorem dX7_readsOrder_245 : decode cX7_readsOrder 245 = .ok (.iconst 1, 1) := by decide +kernel
theorem dX7_readsOrder_246 : decode cX7_readsOrder 246 = .ok (.iadd, 1) := by decide +kernel
theorem dX7_readsOrder_247 : decode cX7_readsOrder 247 = .ok (.aload_n 0, 1) := by decide +kernel
theorem dX7_readsOrder_248 : decode cX7_readsOrder 248 = .ok (.bipush 7, 2) := by decide +kernel
theorem dX7_readsOrder_250 : decode cX7_readsOrder 250 = .ok (.invokevirtual 161, 3) := by decide +kernel
theorem dX7_readsOrder_253 : decode cX7_readsOrder 253 = .ok (.iastore, 1) := by decide +kernel
theorem dX7_readsOrder_254 : decode cX7_readsOrder 254 = .ok (.aload_n 0, 1) := by decide +kernel
theorem dX7_readsOrder_255 : decode cX7_readsOrder 255 = .ok (.aload_n 0, 1) := by decide +kernel
theorem dX7_readsOrder_256 : decode cX7_readsOrder 256 = .ok (.bipush 61, 2) := by decide +kernel
theorem dX7_readsOrder_258 : decode cX7_readsOrder 258 = .ok (.invokevirtual 167, 3) := by decide +kernel
theorem dX7_readsOrder_261 : decode cX7_readsOrder 261 = .ok (.putfield 153, 3) := by decide +kernel
theorem dX7_readsOrder_264 : decode cX7_readsOrder 264 = .ok (.aload_n 0, 1) := by decide +kernel
theorem dX7_readsOrder_265 : decode cX7_readsOrder 265 = .ok (.getfield 29, 3) := by decide +kernel
theorem dX7_readsOrder_268 : decode cX7_readsOrder 268 = .ok (.iload_n 1, 1) := by decide +kernel
theorem dX7_readsOrder_269 : decode cX7_readsOrder 269 = .ok (.iconst 2, 1) := by decide +kernel
theorem dX7_readsOrder_270 : decode cX7_readsOrder 270 = .ok (.iadd, 1) := by decide +kernel
theorem dX7_readsOrder_271 : decode cX7_readsOrder 271 = .ok (.aload_n 0, 1) := by decide +kernel
theorem dX7_readsOrder_272 : decode cX7_readsOrder 272 = .ok (.invokevirtual 173, 3) := by decide +kernel
theorem dX7_readsOrder_275 : decode cX7_readsOrder 275 = .ok (.iastore, 1) := by decide +kernel
theorem dX7_readsOrder_276 : decode cX7_readsOrder 276 = .ok (.goto 15, 3) := by decide +kernel
theorem dX7_readsOrder_279 : decode cX7_readsOrder 279 = .ok (.aload_n 0, 1) := by decide +kernel
theorem dX7_readsOrder_280 : decode cX7_readsOrder 280 = .ok (.getfield 29, 3) := by decide +kernel
theorem dX7_readsOrder_283 : decode cX7_readsOrder 283 = .ok (.iload_n 1, 1) := by decide +kernel
theorem dX7_readsOrder_284 : decode cX7_readsOrder 284 = .ok (.iconst 1, 1) := by decide +kernel
theorem dX7_readsOrder_285 : decode cX7_readsOrder 285 = .ok (.iadd, 1) := by decide +kernel
theorem dX7_readsOrder_286 : decode cX7_readsOrder 286 = .ok (.aload_n 0, 1) := by decide +kernel
theorem dX7_readsOrder_287 : decode cX7_readsOrder 287 = .ok (.invokevirtual 173, 3) := by decide +kernel
theorem dX7_readsOrder_290 : decode cX7_readsOrder 290 = .ok (.iastore, 1) := by decide +kernel
theorem dX7_readsOrder_291 : decode cX7_readsOrder 291 = .ok (.aload_n 0, 1) := by decide +kernel
theorem dX7_readsOrder_292 : decode cX7_readsOrder 292 = .ok (.dup, 1) := by decide +kernel
theorem dX7_readsOrder_293 : decode cX7_readsOrder 293 = .ok (.getfield 164, 3) := by decide +kernel
theorem dX7_readsOrder_296 : decode cX7_readsOrder 296 = .ok (.aload_n 0, 1) := by decide +kernel
theorem dX7_readsOrder_297 : decode cX7_readsOrder 297 = .ok (.getfield 153, 3) := by decide +kernel
theorem dX7_readsOrder_300 : decode cX7_readsOrder 300 = .ok (.ifCond .eq 7, 3) := by decide +kernel
theorem dX7_readsOrder_303 : decode cX7_readsOrder 303 = .ok (.iconst 1, 1) := by decide +kernel
theorem dX7_readsOrder_304 : decode cX7_readsOrder 304 = .ok (.goto 4, 3) := by decide +kernel
theorem dX7_readsOrder_307 : decode cX7_readsOrder 307 = .ok (.iconst 0, 1) := by decide +kernel
theorem dX7_readsOrder_308 : decode cX7_readsOrder 308 = .ok (.iadd, 1) := by decide +kernel
theorem dX7_readsOrder_309 : decode cX7_readsOrder 309 = .ok (.putfield 164, 3) := by decide +kernel
theorem dX7_readsOrder_312 : decode cX7_readsOrder 312 = .ok (.return_, 1) := by decide +kernel
theorem dX7_reads_0 : decode cX7_reads 0 = .ok (.aload_n 0, 1) := by decide +kernel
theorem dX7_reads_1 : decode cX7_reads 1 = .ok (.iconst 0, 1) := by decide +kernel
theorem dX7_reads_2 : decode cX7_reads 2 = .ok (.putfield 150, 3) := by decide +kernel
theorem dX7_reads_5 : decode cX7_reads 5 = .ok (.aload_n 0, 1) := by decide +kernel
theorem dX7_reads_6 : decode cX7_reads 6 = .ok (.iconst 1, 1) := by decide +kernel
theorem dX7_reads_7 : decode cX7_reads 7 = .ok (.putfield 153, 3) := by decide +kernel
theorem dX7_reads_10 : decode cX7_reads 10 = .ok (.aload_n 0, 1) := by decide +kernel
theorem dX7_reads_11 : decode cX7_reads 11 = .ok (.iconst 0, 1) := by decide +kernel
theorem dX7_reads_12 : decode cX7_reads 12 = .ok (.putfield 164, 3) := by decide +kernel
theorem dX7_reads_15 : decode cX7_reads 15 = .ok (.aload_n 0, 1) := by decide +kernel
theorem dX7_reads_16 : decode cX7_reads 16 = .ok (.invokevirtual 176, 3) := by decide +kernel
theorem dX7_reads_19 : decode cX7_reads 19 = .ok (.aload_n 0, 1) := by decide +kernel
theorem dX7_reads_20 : decode cX7_reads 20 = .ok (.getfield 153, 3) := by decide +kernel
theorem dX7_reads_23 : decode cX7_reads 23 = .ok (.ifCond .eq 38, 3) := by decide +kernel
theorem dX7_reads_26 : decode cX7_reads 26 = .ok (.aload_n 0, 1) := by decide +kernel
theorem dX7_reads_27 : decode cX7_reads 27 = .ok (.getfield 150, 3) := by decide +kernel
theorem dX7_reads_30 : decode cX7_reads 30 = .ok (.aload_n 0, 1) := by decide +kernel
theorem dX7_reads_31 : decode cX7_reads 31 = .ok (.getfield 135, 3) := by decide +kernel
theorem dX7_reads_34 : decode cX7_reads 34 = .ok (.if_icmp .ge 27, 3) := by decide +kernel
theorem dX7_reads_37 : decode cX7_reads 37 = .ok (.aload_n 0, 1) := by decide +kernel
theorem dX7_reads_38 : decode cX7_reads 38 = .ok (.aload_n 0, 1) := by decide +kernel
theorem dX7_reads_39 : decode cX7_reads 39 = .ok (.bipush 59, 2) := by decide +kernel
theorem dX7_reads_41 : decode cX7_reads 41 = .ok (.invokevirtual 167, 3) := by decide +kernel
theorem dX7_reads_44 : decode cX7_reads 44 = .ok (.putfield 153, 3) := by decide +kernel
theorem dX7_reads_47 : decode cX7_reads 47 = .ok (.aload_n 0, 1) := by decide +kernel
theorem dX7_reads_48 : decode cX7_reads 48 = .ok (.getfield 153, 3) := by decide +kernel
theorem dX7_reads_51 : decode cX7_reads 51 = .ok (.ifCond .eq (-32), 3) := by decide +kernel
theorem dX7_reads_54 : decode cX7_reads 54 = .ok (.aload_n 0, 1) := by decide +kernel
theorem dX7_reads_55 : decode cX7_reads 55 = .ok (.invokevirtual 176, 3) := by decide +kernel
theorem dX7_reads_58 : decode cX7_reads 58 = .ok (.goto (-39), 3) := by decide +kernel
theorem dX7_reads_61 : decode cX7_reads 61 = .ok (.aload_n 0, 1) := by decide +kernel
theorem dX7_reads_62 : decode cX7_reads 62 = .ok (.getfield 153, 3) := by decide +kernel
theorem dX7_reads_65 : decode cX7_reads 65 = .ok (.ifCond .eq 8, 3) := by decide +kernel
theorem dX7_reads_68 : decode cX7_reads 68 = .ok (.bipush (-6), 2) := by decide +kernel
theorem dX7_reads_70 : decode cX7_reads 70 = .ok (.goto 7, 3) := by decide +kernel
theorem dX7_reads_73 : decode cX7_reads 73 = .ok (.aload_n 0, 1) := by decide +kernel
theorem dX7_reads_74 : decode cX7_reads 74 = .ok (.getfield 150, 3) := by decide +kernel
theorem dX7_reads_77 : decode cX7_reads 77 = .ok (.ireturn, 1) := by decide +kernel
theorem dX7_fault_0 : decode cX7_fault 0 = .ok (.aload_n 0, 1) := by decide +kernel
theorem dX7_fault_1 : decode cX7_fault 1 = .ok (.iconst 0, 1) := by decide +kernel
theorem dX7_fault_2 : decode cX7_fault 2 = .ok (.putfield 32, 3) := by decide +kernel
theorem dX7_fault_5 : decode cX7_fault 5 = .ok (.aload_n 0, 1) := by decide +kernel
theorem dX7_fault_6 : decode cX7_fault 6 = .ok (.invokevirtual 179, 3) := by decide +kernel
theorem dX7_fault_9 : decode cX7_fault 9 = .ok (.ireturn, 1) := by decide +kernel
theorem dX7_refuses_0 : decode cX7_refuses 0 = .ok (.aload_n 0, 1) := by decide +kernel
theorem dX7_refuses_1 : decode cX7_refuses 1 = .ok (.getfield 29, 3) := by decide +kernel
theorem dX7_refuses_4 : decode cX7_refuses 4 = .ok (.iload_n 1, 1) := by decide +kernel
theorem dX7_refuses_5 : decode cX7_refuses 5 = .ok (.iaload, 1) := by decide +kernel
theorem dX7_refuses_6 : decode cX7_refuses 6 = .ok (.lookupswitch 112 #[(43, 34), (100, 92), (102, 71)], 34) := by decide +kernel
theorem dX7_refuses_40 : decode cX7_refuses 40 = .ok (.aload_n 0, 1) := by decide +kernel
theorem dX7_refuses_41 : decode cX7_refuses 41 = .ok (.aload_n 0, 1) := by decide +kernel
theorem dX7_refuses_42 : decode cX7_refuses 42 = .ok (.getfield 29, 3) := by decide +kernel
theorem dX7_refuses_45 : decode cX7_refuses 45 = .ok (.iload_n 1, 1) := by decide +kernel
theorem dX7_refuses_46 : decode cX7_refuses 46 = .ok (.iconst 1, 1) := by decide +kernel
theorem dX7_refuses_47 : decode cX7_refuses 47 = .ok (.iadd, 1) := by decide +kernel
theorem dX7_refuses_48 : decode cX7_refuses 48 = .ok (.iaload, 1) := by decide +kernel
theorem dX7_refuses_49 : decode cX7_refuses 49 = .ok (.aload_n 0, 1) := by decide +kernel
theorem dX7_refuses_50 : decode cX7_refuses 50 = .ok (.getfield 29, 3) := by decide +kernel
theorem dX7_refuses_53 : decode cX7_refuses 53 = .ok (.iload_n 1, 1) := by decide +kernel
theorem dX7_refuses_54 : decode cX7_refuses 54 = .ok (.iconst 2, 1) := by decide +kernel
theorem dX7_refuses_55 : decode cX7_refuses 55 = .ok (.iadd, 1) := by decide +kernel
theorem dX7_refuses_56 : decode cX7_refuses 56 = .ok (.iaload, 1) := by decide +kernel
theorem dX7_refuses_57 : decode cX7_refuses 57 = .ok (.aload_n 0, 1) := by decide +kernel
theorem dX7_refuses_58 : decode cX7_refuses 58 = .ok (.getfield 29, 3) := by decide +kernel
theorem dX7_refuses_61 : decode cX7_refuses 61 = .ok (.iload_n 1, 1) := by decide +kernel
theorem dX7_refuses_62 : decode cX7_refuses 62 = .ok (.iconst 3, 1) := by decide +kernel
theorem dX7_refuses_63 : decode cX7_refuses 63 = .ok (.iadd, 1) := by decide +kernel
theorem dX7_refuses_64 : decode cX7_refuses 64 = .ok (.iaload, 1) := by decide +kernel
theorem dX7_refuses_65 : decode cX7_refuses 65 = .ok (.aload_n 0, 1) := by decide +kernel
theorem dX7_refuses_66 : decode cX7_refuses 66 = .ok (.getfield 29, 3) := by decide +kernel
theorem dX7_refuses_69 : decode cX7_refuses 69 = .ok (.iload_n 1, 1) := by decide +kernel
theorem dX7_refuses_70 : decode cX7_refuses 70 = .ok (.iconst 4, 1) := by decide +kernel
theorem dX7_refuses_71 : decode cX7_refuses 71 = .ok (.iadd, 1) := by decide +kernel
theorem dX7_refuses_72 : decode cX7_refuses 72 = .ok (.iaload, 1) := by decide +kernel
theorem dX7_refuses_73 : decode cX7_refuses 73 = .ok (.invokevirtual 98, 3) := by decide +kernel
theorem dX7_refuses_76 : decode cX7_refuses 76 = .ok (.ireturn, 1) := by decide +kernel
theorem dX7_refuses_77 : decode cX7_refuses 77 = .ok (.aload_n 0, 1) := by decide +kernel
theorem dX7_refuses_78 : decode cX7_refuses 78 = .ok (.aload_n 0, 1) := by decide +kernel
theorem dX7_refuses_79 : decode cX7_refuses 79 = .ok (.getfield 29, 3) := by decide +kernel
theorem dX7_refuses_82 : decode cX7_refuses 82 = .ok (.iload_n 1, 1) := by decide +kernel
theorem dX7_refuses_83 : decode cX7_refuses 83 = .ok (.iconst 1, 1) := by decide +kernel
theorem dX7_refuses_84 : decode cX7_refuses 84 = .ok (.iadd, 1) := by decide +kernel
theorem dX7_refuses_85 : decode cX7_refuses 85 = .ok (.iaload, 1) := by decide +kernel
theorem dX7_refuses_86 : decode cX7_refuses 86 = .ok (.aload_n 0, 1) := by decide +kernel
theorem dX7_refuses_87 : decode cX7_refuses 87 = .ok (.getfield 29, 3) := by decide +kernel
theorem dX7_refuses_90 : decode cX7_refuses 90 = .ok (.iload_n 1, 1) := by decide +kernel
theorem dX7_refuses_91 : decode cX7_refuses 91 = .ok (.iconst 2, 1) := by decide +kernel
theorem dX7_refuses_92 : decode cX7_refuses 92 = .ok (.iadd, 1) := by decide +kernel
theorem dX7_refuses_93 : decode cX7_refuses 93 = .ok (.iaload, 1) := by decide +kernel
theorem dX7_refuses_94 : decode cX7_refuses 94 = .ok (.invokevirtual 108, 3) := by decide +kernel
theorem dX7_refuses_97 : decode cX7_refuses 97 = .ok (.ireturn, 1) := by decide +kernel
theorem dX7_refuses_98 : decode cX7_refuses 98 = .ok (.aload_n 0, 1) := by decide +kernel
theorem dX7_refuses_99 : decode cX7_refuses 99 = .ok (.getfield 29, 3) := by decide +kernel
theorem dX7_refuses_102 : decode cX7_refuses 102 = .ok (.iload_n 1, 1) := by decide +kernel
theorem dX7_refuses_103 : decode cX7_refuses 103 = .ok (.iconst 1, 1) := by decide +kernel
theorem dX7_refuses_104 : decode cX7_refuses 104 = .ok (.iadd, 1) := by decide +kernel
theorem dX7_refuses_105 : decode cX7_refuses 105 = .ok (.iaload, 1) := by decide +kernel
theorem dX7_refuses_106 : decode cX7_refuses 106 = .ok (.aload_n 0, 1) := by decide +kernel
theorem dX7_refuses_107 : decode cX7_refuses 107 = .ok (.getfield 29, 3) := by decide +kernel
theorem dX7_refuses_110 : decode cX7_refuses 110 = .ok (.iload_n 1, 1) := by decide +kernel
theorem dX7_refuses_111 : decode cX7_refuses 111 = .ok (.iconst 2, 1) := by decide +kernel
theorem dX7_refuses_112 : decode cX7_refuses 112 = .ok (.iadd, 1) := by decide +kernel
theorem dX7_refuses_113 : decode cX7_refuses 113 = .ok (.iaload, 1) := by decide +kernel
theorem dX7_refuses_114 : decode cX7_refuses 114 = .ok (.invokestatic 114, 3) := by decide +kernel
theorem dX7_refuses_117 : decode cX7_refuses 117 = .ok (.ireturn, 1) := by decide +kernel
theorem dX7_refuses_118 : decode cX7_refuses 118 = .ok (.aload_n 0, 1) := by decide +kernel
theorem dX7_refuses_119 : decode cX7_refuses 119 = .ok (.aload_n 0, 1) := by decide +kernel
theorem dX7_refuses_120 : decode cX7_refuses 120 = .ok (.getfield 29, 3) := by decide +kernel
theorem dX7_refuses_123 : decode cX7_refuses 123 = .ok (.iload_n 1, 1) := by decide +kernel
theorem dX7_refuses_124 : decode cX7_refuses 124 = .ok (.iconst 1, 1) := by decide +kernel
theorem dX7_refuses_125 : decode cX7_refuses 125 = .ok (.iadd, 1) := by decide +kernel
theorem dX7_refuses_126 : decode cX7_refuses 126 = .ok (.iaload, 1) := by decide +kernel
theorem dX7_refuses_127 : decode cX7_refuses 127 = .ok (.invokevirtual 120, 3) := by decide +kernel
theorem dX7_refuses_130 : decode cX7_refuses 130 = .ok (.ireturn, 1) := by decide +kernel
theorem dX7_does_0 : decode cX7_does 0 = .ok (.aload_n 0, 1) := by decide +kernel
theorem dX7_does_1 : decode cX7_does 1 = .ok (.getfield 29, 3) := by decide +kernel
theorem dX7_does_4 : decode cX7_does 4 = .ok (.iload_n 1, 1) := by decide +kernel
theorem dX7_does_5 : decode cX7_does 5 = .ok (.iaload, 1) := by decide +kernel
theorem dX7_does_6 : decode cX7_does 6 = .ok (.lookupswitch 124 #[(43, 34), (100, 98), (102, 74)], 34) := by decide +kernel
theorem dX7_does_40 : decode cX7_does 40 = .ok (.aload_n 0, 1) := by decide +kernel
theorem dX7_does_41 : decode cX7_does 41 = .ok (.aload_n 0, 1) := by decide +kernel
theorem dX7_does_42 : decode cX7_does 42 = .ok (.getfield 29, 3) := by decide +kernel
theorem dX7_does_45 : decode cX7_does 45 = .ok (.iload_n 1, 1) := by decide +kernel
theorem dX7_does_46 : decode cX7_does 46 = .ok (.iconst 1, 1) := by decide +kernel
theorem dX7_does_47 : decode cX7_does 47 = .ok (.iadd, 1) := by decide +kernel
theorem dX7_does_48 : decode cX7_does 48 = .ok (.iaload, 1) := by decide +kernel
theorem dX7_does_49 : decode cX7_does 49 = .ok (.aload_n 0, 1) := by decide +kernel
theorem dX7_does_50 : decode cX7_does 50 = .ok (.getfield 29, 3) := by decide +kernel
theorem dX7_does_53 : decode cX7_does 53 = .ok (.iload_n 1, 1) := by decide +kernel
theorem dX7_does_54 : decode cX7_does 54 = .ok (.iconst 2, 1) := by decide +kernel
theorem dX7_does_55 : decode cX7_does 55 = .ok (.iadd, 1) := by decide +kernel
theorem dX7_does_56 : decode cX7_does 56 = .ok (.iaload, 1) := by decide +kernel
theorem dX7_does_57 : decode cX7_does 57 = .ok (.aload_n 0, 1) := by decide +kernel
theorem dX7_does_58 : decode cX7_does 58 = .ok (.getfield 29, 3) := by decide +kernel
theorem dX7_does_61 : decode cX7_does 61 = .ok (.iload_n 1, 1) := by decide +kernel
theorem dX7_does_62 : decode cX7_does 62 = .ok (.iconst 3, 1) := by decide +kernel
theorem dX7_does_63 : decode cX7_does 63 = .ok (.iadd, 1) := by decide +kernel
theorem dX7_does_64 : decode cX7_does 64 = .ok (.iaload, 1) := by decide +kernel
theorem dX7_does_65 : decode cX7_does 65 = .ok (.aload_n 0, 1) := by decide +kernel
theorem dX7_does_66 : decode cX7_does 66 = .ok (.getfield 29, 3) := by decide +kernel
theorem dX7_does_69 : decode cX7_does 69 = .ok (.iload_n 1, 1) := by decide +kernel
theorem dX7_does_70 : decode cX7_does 70 = .ok (.iconst 4, 1) := by decide +kernel
theorem dX7_does_71 : decode cX7_does 71 = .ok (.iadd, 1) := by decide +kernel
theorem dX7_does_72 : decode cX7_does 72 = .ok (.iaload, 1) := by decide +kernel
theorem dX7_does_73 : decode cX7_does 73 = .ok (.invokevirtual 105, 3) := by decide +kernel
theorem dX7_does_76 : decode cX7_does 76 = .ok (.pop, 1) := by decide +kernel
theorem dX7_does_77 : decode cX7_does 77 = .ok (.goto 66, 3) := by decide +kernel
theorem dX7_does_80 : decode cX7_does 80 = .ok (.aload_n 0, 1) := by decide +kernel
theorem dX7_does_81 : decode cX7_does 81 = .ok (.aload_n 0, 1) := by decide +kernel
theorem dX7_does_82 : decode cX7_does 82 = .ok (.getfield 29, 3) := by decide +kernel
theorem dX7_does_85 : decode cX7_does 85 = .ok (.iload_n 1, 1) := by decide +kernel
theorem dX7_does_86 : decode cX7_does 86 = .ok (.iconst 1, 1) := by decide +kernel
theorem dX7_does_87 : decode cX7_does 87 = .ok (.iadd, 1) := by decide +kernel
theorem dX7_does_88 : decode cX7_does 88 = .ok (.iaload, 1) := by decide +kernel
theorem dX7_does_89 : decode cX7_does 89 = .ok (.aload_n 0, 1) := by decide +kernel
theorem dX7_does_90 : decode cX7_does 90 = .ok (.getfield 29, 3) := by decide +kernel
theorem dX7_does_93 : decode cX7_does 93 = .ok (.iload_n 1, 1) := by decide +kernel
theorem dX7_does_94 : decode cX7_does 94 = .ok (.iconst 2, 1) := by decide +kernel
theorem dX7_does_95 : decode cX7_does 95 = .ok (.iadd, 1) := by decide +kernel
theorem dX7_does_96 : decode cX7_does 96 = .ok (.iaload, 1) := by decide +kernel
theorem dX7_does_97 : decode cX7_does 97 = .ok (.invokevirtual 111, 3) := by decide +kernel
theorem dX7_does_100 : decode cX7_does 100 = .ok (.pop, 1) := by decide +kernel
theorem dX7_does_101 : decode cX7_does 101 = .ok (.goto 42, 3) := by decide +kernel
theorem dX7_does_104 : decode cX7_does 104 = .ok (.aload_n 0, 1) := by decide +kernel
theorem dX7_does_105 : decode cX7_does 105 = .ok (.getfield 7, 3) := by decide +kernel
theorem dX7_does_108 : decode cX7_does 108 = .ok (.iconst 3, 1) := by decide +kernel
theorem dX7_does_109 : decode cX7_does 109 = .ok (.aload_n 0, 1) := by decide +kernel
theorem dX7_does_110 : decode cX7_does 110 = .ok (.getfield 29, 3) := by decide +kernel
theorem dX7_does_113 : decode cX7_does 113 = .ok (.iload_n 1, 1) := by decide +kernel
theorem dX7_does_114 : decode cX7_does 114 = .ok (.iconst 1, 1) := by decide +kernel
theorem dX7_does_115 : decode cX7_does 115 = .ok (.iadd, 1) := by decide +kernel
theorem dX7_does_116 : decode cX7_does 116 = .ok (.iaload, 1) := by decide +kernel
theorem dX7_does_117 : decode cX7_does 117 = .ok (.iadd, 1) := by decide +kernel
theorem dX7_does_118 : decode cX7_does 118 = .ok (.aload_n 0, 1) := by decide +kernel
theorem dX7_does_119 : decode cX7_does 119 = .ok (.getfield 29, 3) := by decide +kernel
theorem dX7_does_122 : decode cX7_does 122 = .ok (.iload_n 1, 1) := by decide +kernel
theorem dX7_does_123 : decode cX7_does 123 = .ok (.iconst 2, 1) := by decide +kernel
theorem dX7_does_124 : decode cX7_does 124 = .ok (.iadd, 1) := by decide +kernel
theorem dX7_does_125 : decode cX7_does 125 = .ok (.iaload, 1) := by decide +kernel
theorem dX7_does_126 : decode cX7_does 126 = .ok (.iastore, 1) := by decide +kernel
theorem dX7_does_127 : decode cX7_does 127 = .ok (.goto 16, 3) := by decide +kernel
theorem dX7_does_130 : decode cX7_does 130 = .ok (.aload_n 0, 1) := by decide +kernel
theorem dX7_does_131 : decode cX7_does 131 = .ok (.aload_n 0, 1) := by decide +kernel
theorem dX7_does_132 : decode cX7_does 132 = .ok (.getfield 29, 3) := by decide +kernel
theorem dX7_does_135 : decode cX7_does 135 = .ok (.iload_n 1, 1) := by decide +kernel
theorem dX7_does_136 : decode cX7_does 136 = .ok (.iconst 1, 1) := by decide +kernel
theorem dX7_does_137 : decode cX7_does 137 = .ok (.iadd, 1) := by decide +kernel
theorem dX7_does_138 : decode cX7_does 138 = .ok (.iaload, 1) := by decide +kernel
theorem dX7_does_139 : decode cX7_does 139 = .ok (.invokevirtual 123, 3) := by decide +kernel
theorem dX7_does_142 : decode cX7_does 142 = .ok (.pop, 1) := by decide +kernel
theorem dX7_does_143 : decode cX7_does 143 = .ok (.return_, 1) := by decide +kernel
theorem dX7_carryOut_0 : decode cX7_carryOut 0 = .ok (.aload_n 0, 1) := by decide +kernel
theorem dX7_carryOut_1 : decode cX7_carryOut 1 = .ok (.iconst 0, 1) := by decide +kernel
theorem dX7_carryOut_2 : decode cX7_carryOut 2 = .ok (.putfield 32, 3) := by decide +kernel
theorem dX7_carryOut_5 : decode cX7_carryOut 5 = .ok (.aload_n 0, 1) := by decide +kernel
theorem dX7_carryOut_6 : decode cX7_carryOut 6 = .ok (.invokevirtual 179, 3) := by decide +kernel
theorem dX7_carryOut_9 : decode cX7_carryOut 9 = .ok (.bipush (-6), 2) := by decide +kernel
theorem dX7_carryOut_11 : decode cX7_carryOut 11 = .ok (.if_icmp .eq 6, 3) := by decide +kernel
theorem dX7_carryOut_14 : decode cX7_carryOut 14 = .ok (.bipush (-3), 2) := by decide +kernel
theorem dX7_carryOut_16 : decode cX7_carryOut 16 = .ok (.ireturn, 1) := by decide +kernel
theorem dX7_carryOut_17 : decode cX7_carryOut 17 = .ok (.aload_n 0, 1) := by decide +kernel
theorem dX7_carryOut_18 : decode cX7_carryOut 18 = .ok (.invokevirtual 102, 3) := by decide +kernel
theorem dX7_carryOut_21 : decode cX7_carryOut 21 = .ok (.aload_n 0, 1) := by decide +kernel
theorem dX7_carryOut_22 : decode cX7_carryOut 22 = .ok (.iconst 0, 1) := by decide +kernel
theorem dX7_carryOut_23 : decode cX7_carryOut 23 = .ok (.putfield 135, 3) := by decide +kernel
theorem dX7_carryOut_26 : decode cX7_carryOut 26 = .ok (.iconst 0, 1) := by decide +kernel
theorem dX7_carryOut_27 : decode cX7_carryOut 27 = .ok (.istore_n 1, 1) := by decide +kernel
theorem dX7_carryOut_28 : decode cX7_carryOut 28 = .ok (.iload_n 1, 1) := by decide +kernel
theorem dX7_carryOut_29 : decode cX7_carryOut 29 = .ok (.aload_n 0, 1) := by decide +kernel
theorem dX7_carryOut_30 : decode cX7_carryOut 30 = .ok (.getfield 164, 3) := by decide +kernel
theorem dX7_carryOut_33 : decode cX7_carryOut 33 = .ok (.if_icmp .ge 28, 3) := by decide +kernel
theorem dX7_carryOut_36 : decode cX7_carryOut 36 = .ok (.aload_n 0, 1) := by decide +kernel
theorem dX7_carryOut_37 : decode cX7_carryOut 37 = .ok (.iconst 5, 1) := by decide +kernel
theorem dX7_carryOut_38 : decode cX7_carryOut 38 = .ok (.iload_n 1, 1) := by decide +kernel
theorem dX7_carryOut_39 : decode cX7_carryOut 39 = .ok (.imul, 1) := by decide +kernel
theorem dX7_carryOut_40 : decode cX7_carryOut 40 = .ok (.invokevirtual 182, 3) := by decide +kernel
theorem dX7_carryOut_43 : decode cX7_carryOut 43 = .ok (.ifCond .eq 5, 3) := by decide +kernel
theorem dX7_carryOut_46 : decode cX7_carryOut 46 = .ok (.iload_n 1, 1) := by decide +kernel
theorem dX7_carryOut_47 : decode cX7_carryOut 47 = .ok (.ireturn, 1) := by decide +kernel
theorem dX7_carryOut_48 : decode cX7_carryOut 48 = .ok (.aload_n 0, 1) := by decide +kernel
theorem dX7_carryOut_49 : decode cX7_carryOut 49 = .ok (.iconst 5, 1) := by decide +kernel
theorem dX7_carryOut_50 : decode cX7_carryOut 50 = .ok (.iload_n 1, 1) := by decide +kernel
theorem dX7_carryOut_51 : decode cX7_carryOut 51 = .ok (.imul, 1) := by decide +kernel
theorem dX7_carryOut_52 : decode cX7_carryOut 52 = .ok (.invokevirtual 185, 3) := by decide +kernel
theorem dX7_carryOut_55 : decode cX7_carryOut 55 = .ok (.iinc 1 1, 3) := by decide +kernel
theorem dX7_carryOut_58 : decode cX7_carryOut 58 = .ok (.goto (-30), 3) := by decide +kernel
theorem dX7_carryOut_61 : decode cX7_carryOut 61 = .ok (.aload_n 0, 1) := by decide +kernel
theorem dX7_carryOut_62 : decode cX7_carryOut 62 = .ok (.getfield 164, 3) := by decide +kernel
theorem dX7_carryOut_65 : decode cX7_carryOut 65 = .ok (.ireturn, 1) := by decide +kernel
theorem dX7_undo_0 : decode cX7_undo 0 = .ok (.aload_n 0, 1) := by decide +kernel
theorem dX7_undo_1 : decode cX7_undo 1 = .ok (.iconst 0, 1) := by decide +kernel
theorem dX7_undo_2 : decode cX7_undo 2 = .ok (.putfield 32, 3) := by decide +kernel
theorem dX7_undo_5 : decode cX7_undo 5 = .ok (.aload_n 0, 1) := by decide +kernel
theorem dX7_undo_6 : decode cX7_undo 6 = .ok (.getfield 36, 3) := by decide +kernel
theorem dX7_undo_9 : decode cX7_undo 9 = .ok (.ifCond .ne 6, 3) := by decide +kernel
theorem dX7_undo_12 : decode cX7_undo 12 = .ok (.bipush (-5), 2) := by decide +kernel
theorem dX7_undo_14 : decode cX7_undo 14 = .ok (.ireturn, 1) := by decide +kernel
theorem dX7_undo_15 : decode cX7_undo 15 = .ok (.aload_n 0, 1) := by decide +kernel
theorem dX7_undo_16 : decode cX7_undo 16 = .ok (.dup, 1) := by decide +kernel
theorem dX7_undo_17 : decode cX7_undo 17 = .ok (.getfield 36, 3) := by decide +kernel
theorem dX7_undo_20 : decode cX7_undo 20 = .ok (.iconst 1, 1) := by decide +kernel
theorem dX7_undo_21 : decode cX7_undo 21 = .ok (.isub, 1) := by decide +kernel
theorem dX7_undo_22 : decode cX7_undo 22 = .ok (.putfield 36, 3) := by decide +kernel
theorem dX7_undo_25 : decode cX7_undo 25 = .ok (.iconst 0, 1) := by decide +kernel
theorem dX7_undo_26 : decode cX7_undo 26 = .ok (.istore_n 1, 1) := by decide +kernel
theorem dX7_undo_27 : decode cX7_undo 27 = .ok (.iload_n 1, 1) := by decide +kernel
theorem dX7_undo_28 : decode cX7_undo 28 = .ok (.sipush 267, 3) := by decide +kernel
theorem dX7_undo_31 : decode cX7_undo 31 = .ok (.if_icmp .ge 30, 3) := by decide +kernel
theorem dX7_undo_34 : decode cX7_undo 34 = .ok (.aload_n 0, 1) := by decide +kernel
theorem dX7_undo_35 : decode cX7_undo 35 = .ok (.getfield 7, 3) := by decide +kernel
theorem dX7_undo_38 : decode cX7_undo 38 = .ok (.iload_n 1, 1) := by decide +kernel
theorem dX7_undo_39 : decode cX7_undo 39 = .ok (.aload_n 0, 1) := by decide +kernel
theorem dX7_undo_40 : decode cX7_undo 40 = .ok (.getfield 16, 3) := by decide +kernel
theorem dX7_undo_43 : decode cX7_undo 43 = .ok (.sipush 267, 3) := by decide +kernel
theorem dX7_undo_46 : decode cX7_undo 46 = .ok (.aload_n 0, 1) := by decide +kernel
theorem dX7_undo_47 : decode cX7_undo 47 = .ok (.getfield 36, 3) := by decide +kernel
theorem dX7_undo_50 : decode cX7_undo 50 = .ok (.imul, 1) := by decide +kernel
theorem dX7_undo_51 : decode cX7_undo 51 = .ok (.iload_n 1, 1) := by decide +kernel
theorem dX7_undo_52 : decode cX7_undo 52 = .ok (.iadd, 1) := by decide +kernel
theorem dX7_undo_53 : decode cX7_undo 53 = .ok (.iaload, 1) := by decide +kernel
theorem dX7_undo_54 : decode cX7_undo 54 = .ok (.iastore, 1) := by decide +kernel
theorem dX7_undo_55 : decode cX7_undo 55 = .ok (.iinc 1 1, 3) := by decide +kernel
theorem dX7_undo_58 : decode cX7_undo 58 = .ok (.goto (-31), 3) := by decide +kernel
theorem dX7_undo_61 : decode cX7_undo 61 = .ok (.aload_n 0, 1) := by decide +kernel
theorem dX7_undo_62 : decode cX7_undo 62 = .ok (.getfield 36, 3) := by decide +kernel
theorem dX7_undo_65 : decode cX7_undo 65 = .ok (.ireturn, 1) := by decide +kernel
theorem dX7_save_0 : decode cX7_save 0 = .ok (.aload_n 0, 1) := by decide +kernel
theorem dX7_save_1 : decode cX7_save 1 = .ok (.iconst 0, 1) := by decide +kernel
theorem dX7_save_2 : decode cX7_save 2 = .ok (.putfield 32, 3) := by decide +kernel
theorem dX7_save_5 : decode cX7_save 5 = .ok (.iload_n 1, 1) := by decide +kernel
theorem dX7_save_6 : decode cX7_save 6 = .ok (.iconst 0, 1) := by decide +kernel
theorem dX7_save_7 : decode cX7_save 7 = .ok (.iconst 1, 1) := by decide +kernel
theorem dX7_save_8 : decode cX7_save 8 = .ok (.invokestatic 94, 3) := by decide +kernel
theorem dX7_save_11 : decode cX7_save 11 = .ok (.ifCond .ne 6, 3) := by decide +kernel
theorem dX7_save_14 : decode cX7_save 14 = .ok (.bipush (-2), 2) := by decide +kernel
theorem dX7_save_16 : decode cX7_save 16 = .ok (.ireturn, 1) := by decide +kernel
theorem dX7_save_17 : decode cX7_save 17 = .ok (.iconst 0, 1) := by decide +kernel
theorem dX7_save_18 : decode cX7_save 18 = .ok (.istore_n 2, 1) := by decide +kernel
theorem dX7_save_19 : decode cX7_save 19 = .ok (.iload_n 2, 1) := by decide +kernel
theorem dX7_save_20 : decode cX7_save 20 = .ok (.sipush 267, 3) := by decide +kernel
theorem dX7_save_23 : decode cX7_save 23 = .ok (.if_icmp .ge 27, 3) := by decide +kernel
theorem dX7_save_26 : decode cX7_save 26 = .ok (.aload_n 0, 1) := by decide +kernel
theorem dX7_save_27 : decode cX7_save 27 = .ok (.getfield 19, 3) := by decide +kernel
theorem dX7_save_30 : decode cX7_save 30 = .ok (.sipush 267, 3) := by decide +kernel
theorem dX7_save_33 : decode cX7_save 33 = .ok (.iload_n 1, 1) := by decide +kernel
theorem dX7_save_34 : decode cX7_save 34 = .ok (.imul, 1) := by decide +kernel
theorem dX7_save_35 : decode cX7_save 35 = .ok (.iload_n 2, 1) := by decide +kernel
theorem dX7_save_36 : decode cX7_save 36 = .ok (.iadd, 1) := by decide +kernel
theorem dX7_save_37 : decode cX7_save 37 = .ok (.aload_n 0, 1) := by decide +kernel
theorem dX7_save_38 : decode cX7_save 38 = .ok (.getfield 7, 3) := by decide +kernel
theorem dX7_save_41 : decode cX7_save 41 = .ok (.iload_n 2, 1) := by decide +kernel
theorem dX7_save_42 : decode cX7_save 42 = .ok (.iaload, 1) := by decide +kernel
theorem dX7_save_43 : decode cX7_save 43 = .ok (.iastore, 1) := by decide +kernel
theorem dX7_save_44 : decode cX7_save 44 = .ok (.iinc 2 1, 3) := by decide +kernel
theorem dX7_save_47 : decode cX7_save 47 = .ok (.goto (-28), 3) := by decide +kernel
theorem dX7_save_50 : decode cX7_save 50 = .ok (.aload_n 0, 1) := by decide +kernel
theorem dX7_save_51 : decode cX7_save 51 = .ok (.getfield 22, 3) := by decide +kernel
theorem dX7_save_54 : decode cX7_save 54 = .ok (.iload_n 1, 1) := by decide +kernel
theorem dX7_save_55 : decode cX7_save 55 = .ok (.iconst 1, 1) := by decide +kernel
theorem dX7_save_56 : decode cX7_save 56 = .ok (.bastore, 1) := by decide +kernel
theorem dX7_save_57 : decode cX7_save 57 = .ok (.aload_n 0, 1) := by decide +kernel
theorem dX7_save_58 : decode cX7_save 58 = .ok (.getfield 7, 3) := by decide +kernel
theorem dX7_save_61 : decode cX7_save 61 = .ok (.iconst 1, 1) := by decide +kernel
theorem dX7_save_62 : decode cX7_save 62 = .ok (.iaload, 1) := by decide +kernel
theorem dX7_save_63 : decode cX7_save 63 = .ok (.ireturn, 1) := by decide +kernel
theorem dX7_restore_0 : decode cX7_restore 0 = .ok (.aload_n 0, 1) := by decide +kernel
theorem dX7_restore_1 : decode cX7_restore 1 = .ok (.iconst 0, 1) := by decide +kernel
theorem dX7_restore_2 : decode cX7_restore 2 = .ok (.putfield 32, 3) := by decide +kernel
theorem dX7_restore_5 : decode cX7_restore 5 = .ok (.iload_n 1, 1) := by decide +kernel
theorem dX7_restore_6 : decode cX7_restore 6 = .ok (.iconst 0, 1) := by decide +kernel
theorem dX7_restore_7 : decode cX7_restore 7 = .ok (.iconst 1, 1) := by decide +kernel
theorem dX7_restore_8 : decode cX7_restore 8 = .ok (.invokestatic 94, 3) := by decide +kernel
theorem dX7_restore_11 : decode cX7_restore 11 = .ok (.ifCond .ne 6, 3) := by decide +kernel
theorem dX7_restore_14 : decode cX7_restore 14 = .ok (.bipush (-2), 2) := by decide +kernel
theorem dX7_restore_16 : decode cX7_restore 16 = .ok (.ireturn, 1) := by decide +kernel
theorem dX7_restore_17 : decode cX7_restore 17 = .ok (.aload_n 0, 1) := by decide +kernel
theorem dX7_restore_18 : decode cX7_restore 18 = .ok (.getfield 22, 3) := by decide +kernel
theorem dX7_restore_21 : decode cX7_restore 21 = .ok (.iload_n 1, 1) := by decide +kernel
theorem dX7_restore_22 : decode cX7_restore 22 = .ok (.baload, 1) := by decide +kernel
theorem dX7_restore_23 : decode cX7_restore 23 = .ok (.ifCond .ne 6, 3) := by decide +kernel
theorem dX7_restore_26 : decode cX7_restore 26 = .ok (.bipush (-5), 2) := by decide +kernel
theorem dX7_restore_28 : decode cX7_restore 28 = .ok (.ireturn, 1) := by decide +kernel
theorem dX7_restore_29 : decode cX7_restore 29 = .ok (.aload_n 0, 1) := by decide +kernel
theorem dX7_restore_30 : decode cX7_restore 30 = .ok (.invokevirtual 102, 3) := by decide +kernel
theorem dX7_restore_33 : decode cX7_restore 33 = .ok (.iconst 0, 1) := by decide +kernel
theorem dX7_restore_34 : decode cX7_restore 34 = .ok (.istore_n 2, 1) := by decide +kernel
theorem dX7_restore_35 : decode cX7_restore 35 = .ok (.iload_n 2, 1) := by decide +kernel
theorem dX7_restore_36 : decode cX7_restore 36 = .ok (.sipush 267, 3) := by decide +kernel
theorem dX7_restore_39 : decode cX7_restore 39 = .ok (.if_icmp .ge 27, 3) := by decide +kernel
theorem dX7_restore_42 : decode cX7_restore 42 = .ok (.aload_n 0, 1) := by decide +kernel
theorem dX7_restore_43 : decode cX7_restore 43 = .ok (.getfield 7, 3) := by decide +kernel
theorem dX7_restore_46 : decode cX7_restore 46 = .ok (.iload_n 2, 1) := by decide +kernel
theorem dX7_restore_47 : decode cX7_restore 47 = .ok (.aload_n 0, 1) := by decide +kernel
theorem dX7_restore_48 : decode cX7_restore 48 = .ok (.getfield 19, 3) := by decide +kernel
theorem dX7_restore_51 : decode cX7_restore 51 = .ok (.sipush 267, 3) := by decide +kernel
theorem dX7_restore_54 : decode cX7_restore 54 = .ok (.iload_n 1, 1) := by decide +kernel
theorem dX7_restore_55 : decode cX7_restore 55 = .ok (.imul, 1) := by decide +kernel
theorem dX7_restore_56 : decode cX7_restore 56 = .ok (.iload_n 2, 1) := by decide +kernel
theorem dX7_restore_57 : decode cX7_restore 57 = .ok (.iadd, 1) := by decide +kernel
theorem dX7_restore_58 : decode cX7_restore 58 = .ok (.iaload, 1) := by decide +kernel
theorem dX7_restore_59 : decode cX7_restore 59 = .ok (.iastore, 1) := by decide +kernel
theorem dX7_restore_60 : decode cX7_restore 60 = .ok (.iinc 2 1, 3) := by decide +kernel
theorem dX7_restore_63 : decode cX7_restore 63 = .ok (.goto (-28), 3) := by decide +kernel
theorem dX7_restore_66 : decode cX7_restore 66 = .ok (.aload_n 0, 1) := by decide +kernel
theorem dX7_restore_67 : decode cX7_restore 67 = .ok (.getfield 7, 3) := by decide +kernel
theorem dX7_restore_70 : decode cX7_restore 70 = .ok (.iconst 1, 1) := by decide +kernel
theorem dX7_restore_71 : decode cX7_restore 71 = .ok (.iaload, 1) := by decide +kernel
theorem dX7_restore_72 : decode cX7_restore 72 = .ok (.ireturn, 1) := by decide +kernel
theorem dL_law_0 : decode cL_law 0 = .ok (.new 7, 3) := by decide +kernel
theorem dL_law_3 : decode cL_law 3 = .ok (.dup, 1) := by decide +kernel
theorem dL_law_4 : decode cL_law 4 = .ok (.invokespecial 9, 3) := by decide +kernel
theorem dL_law_7 : decode cL_law 7 = .ok (.astore_n 1, 1) := by decide +kernel
theorem dL_law_8 : decode cL_law 8 = .ok (.new 10, 3) := by decide +kernel
theorem dL_law_11 : decode cL_law 11 = .ok (.dup, 1) := by decide +kernel
theorem dL_law_12 : decode cL_law 12 = .ok (.invokespecial 12, 3) := by decide +kernel
theorem dL_law_15 : decode cL_law 15 = .ok (.astore_n 2, 1) := by decide +kernel
theorem dL_law_16 : decode cL_law 16 = .ok (.iconst 0, 1) := by decide +kernel
theorem dL_law_17 : decode cL_law 17 = .ok (.istore_n 3, 1) := by decide +kernel
theorem dL_law_18 : decode cL_law 18 = .ok (.iload_n 3, 1) := by decide +kernel
theorem dL_law_19 : decode cL_law 19 = .ok (.aload_n 0, 1) := by decide +kernel
theorem dL_law_20 : decode cL_law 20 = .ok (.arraylength, 1) := by decide +kernel
theorem dL_law_21 : decode cL_law 21 = .ok (.iconst 5, 1) := by decide +kernel
theorem dL_law_22 : decode cL_law 22 = .ok (.isub, 1) := by decide +kernel
theorem dL_law_23 : decode cL_law 23 = .ok (.if_icmp .gt 651, 3) := by decide +kernel
theorem dL_law_26 : decode cL_law 26 = .ok (.aload_n 0, 1) := by decide +kernel
theorem dL_law_27 : decode cL_law 27 = .ok (.iload_n 3, 1) := by decide +kernel
theorem dL_law_28 : decode cL_law 28 = .ok (.iaload, 1) := by decide +kernel
theorem dL_law_29 : decode cL_law 29 = .ok (.bipush 31, 2) := by decide +kernel
theorem dL_law_31 : decode cL_law 31 = .ok (.iand, 1) := by decide +kernel
theorem dL_law_32 : decode cL_law 32 = .ok (.tableswitch 636 0 19 #[96, 149, 182, 215, 238, 261, 294, 327, 360, 383, 396, 419, 462, 485, 538, 551, 564, 577, 590, 613], 96) := by decide +kernel
theorem dL_law_128 : decode cL_law 128 = .ok (.aload_n 1, 1) := by decide +kernel
theorem dL_law_129 : decode cL_law 129 = .ok (.aload_n 0, 1) := by decide +kernel
theorem dL_law_130 : decode cL_law 130 = .ok (.iload_n 3, 1) := by decide +kernel
theorem dL_law_131 : decode cL_law 131 = .ok (.iconst 1, 1) := by decide +kernel
theorem dL_law_132 : decode cL_law 132 = .ok (.iadd, 1) := by decide +kernel
theorem dL_law_133 : decode cL_law 133 = .ok (.iaload, 1) := by decide +kernel
theorem dL_law_134 : decode cL_law 134 = .ok (.aload_n 0, 1) := by decide +kernel
theorem dL_law_135 : decode cL_law 135 = .ok (.iload_n 3, 1) := by decide +kernel
theorem dL_law_136 : decode cL_law 136 = .ok (.iconst 2, 1) := by decide +kernel
theorem dL_law_137 : decode cL_law 137 = .ok (.iadd, 1) := by decide +kernel
theorem dL_law_138 : decode cL_law 138 = .ok (.iaload, 1) := by decide +kernel
theorem dL_law_139 : decode cL_law 139 = .ok (.aload_n 0, 1) := by decide +kernel
theorem dL_law_140 : decode cL_law 140 = .ok (.iload_n 3, 1) := by decide +kernel
theorem dL_law_141 : decode cL_law 141 = .ok (.iconst 3, 1) := by decide +kernel
theorem dL_law_142 : decode cL_law 142 = .ok (.iadd, 1) := by decide +kernel
theorem dL_law_143 : decode cL_law 143 = .ok (.iaload, 1) := by decide +kernel
theorem dL_law_144 : decode cL_law 144 = .ok (.aload_n 0, 1) := by decide +kernel
theorem dL_law_145 : decode cL_law 145 = .ok (.iload_n 3, 1) := by decide +kernel
theorem dL_law_146 : decode cL_law 146 = .ok (.iconst 4, 1) := by decide +kernel
theorem dL_law_147 : decode cL_law 147 = .ok (.iadd, 1) := by decide +kernel
theorem dL_law_148 : decode cL_law 148 = .ok (.iaload, 1) := by decide +kernel
theorem dL_law_149 : decode cL_law 149 = .ok (.invokevirtual 13, 3) := by decide +kernel
theorem dL_law_152 : decode cL_law 152 = .ok (.aload_n 2, 1) := by decide +kernel
theorem dL_law_153 : decode cL_law 153 = .ok (.aload_n 0, 1) := by decide +kernel
theorem dL_law_154 : decode cL_law 154 = .ok (.iload_n 3, 1) := by decide +kernel
theorem dL_law_155 : decode cL_law 155 = .ok (.iconst 1, 1) := by decide +kernel
theorem dL_law_156 : decode cL_law 156 = .ok (.iadd, 1) := by decide +kernel
theorem dL_law_157 : decode cL_law 157 = .ok (.iaload, 1) := by decide +kernel
theorem dL_law_158 : decode cL_law 158 = .ok (.aload_n 0, 1) := by decide +kernel
theorem dL_law_159 : decode cL_law 159 = .ok (.iload_n 3, 1) := by decide +kernel
theorem dL_law_160 : decode cL_law 160 = .ok (.iconst 2, 1) := by decide +kernel
theorem dL_law_161 : decode cL_law 161 = .ok (.iadd, 1) := by decide +kernel
theorem dL_law_162 : decode cL_law 162 = .ok (.iaload, 1) := by decide +kernel
theorem dL_law_163 : decode cL_law 163 = .ok (.aload_n 0, 1) := by decide +kernel
theorem dL_law_164 : decode cL_law 164 = .ok (.iload_n 3, 1) := by decide +kernel
theorem dL_law_165 : decode cL_law 165 = .ok (.iconst 3, 1) := by decide +kernel
theorem dL_law_166 : decode cL_law 166 = .ok (.iadd, 1) := by decide +kernel
theorem dL_law_167 : decode cL_law 167 = .ok (.iaload, 1) := by decide +kernel
theorem dL_law_168 : decode cL_law 168 = .ok (.aload_n 0, 1) := by decide +kernel
theorem dL_law_169 : decode cL_law 169 = .ok (.iload_n 3, 1) := by decide +kernel
theorem dL_law_170 : decode cL_law 170 = .ok (.iconst 4, 1) := by decide +kernel
theorem dL_law_171 : decode cL_law 171 = .ok (.iadd, 1) := by decide +kernel
theorem dL_law_172 : decode cL_law 172 = .ok (.iaload, 1) := by decide +kernel
theorem dL_law_173 : decode cL_law 173 = .ok (.invokevirtual 17, 3) := by decide +kernel
theorem dL_law_176 : decode cL_law 176 = .ok (.if_icmp .eq 492, 3) := by decide +kernel
theorem dL_law_179 : decode cL_law 179 = .ok (.iconst 0, 1) := by decide +kernel
theorem dL_law_180 : decode cL_law 180 = .ok (.ireturn, 1) := by decide +kernel
theorem dL_law_181 : decode cL_law 181 = .ok (.aload_n 1, 1) := by decide +kernel
theorem dL_law_182 : decode cL_law 182 = .ok (.aload_n 0, 1) := by decide +kernel
theorem dL_law_183 : decode cL_law 183 = .ok (.iload_n 3, 1) := by decide +kernel
theorem dL_law_184 : decode cL_law 184 = .ok (.iconst 1, 1) := by decide +kernel
theorem dL_law_185 : decode cL_law 185 = .ok (.iadd, 1) := by decide +kernel
theorem dL_law_186 : decode cL_law 186 = .ok (.iaload, 1) := by decide +kernel
theorem dL_law_187 : decode cL_law 187 = .ok (.aload_n 0, 1) := by decide +kernel
theorem dL_law_188 : decode cL_law 188 = .ok (.iload_n 3, 1) := by decide +kernel
theorem dL_law_189 : decode cL_law 189 = .ok (.iconst 2, 1) := by decide +kernel
theorem dL_law_190 : decode cL_law 190 = .ok (.iadd, 1) := by decide +kernel
theorem dL_law_191 : decode cL_law 191 = .ok (.iaload, 1) := by decide +kernel
theorem dL_law_192 : decode cL_law 192 = .ok (.invokevirtual 18, 3) := by decide +kernel
theorem dL_law_195 : decode cL_law 195 = .ok (.aload_n 2, 1) := by decide +kernel
theorem dL_law_196 : decode cL_law 196 = .ok (.aload_n 0, 1) := by decide +kernel
theorem dL_law_197 : decode cL_law 197 = .ok (.iload_n 3, 1) := by decide +kernel
theorem dL_law_198 : decode cL_law 198 = .ok (.iconst 1, 1) := by decide +kernel
theorem dL_law_199 : decode cL_law 199 = .ok (.iadd, 1) := by decide +kernel
theorem dL_law_200 : decode cL_law 200 = .ok (.iaload, 1) := by decide +kernel
theorem dL_law_201 : decode cL_law 201 = .ok (.aload_n 0, 1) := by decide +kernel
theorem dL_law_202 : decode cL_law 202 = .ok (.iload_n 3, 1) := by decide +kernel
theorem dL_law_203 : decode cL_law 203 = .ok (.iconst 2, 1) := by decide +kernel
theorem dL_law_204 : decode cL_law 204 = .ok (.iadd, 1) := by decide +kernel
theorem dL_law_205 : decode cL_law 205 = .ok (.iaload, 1) := by decide +kernel
theorem dL_law_206 : decode cL_law 206 = .ok (.invokevirtual 22, 3) := by decide +kernel
theorem dL_law_209 : decode cL_law 209 = .ok (.if_icmp .eq 459, 3) := by decide +kernel
theorem dL_law_212 : decode cL_law 212 = .ok (.iconst 0, 1) := by decide +kernel
theorem dL_law_213 : decode cL_law 213 = .ok (.ireturn, 1) := by decide +kernel
theorem dL_law_214 : decode cL_law 214 = .ok (.aload_n 1, 1) := by decide +kernel
theorem dL_law_215 : decode cL_law 215 = .ok (.aload_n 0, 1) := by decide +kernel
theorem dL_law_216 : decode cL_law 216 = .ok (.iload_n 3, 1) := by decide +kernel
theorem dL_law_217 : decode cL_law 217 = .ok (.iconst 1, 1) := by decide +kernel
theorem dL_law_218 : decode cL_law 218 = .ok (.iadd, 1) := by decide +kernel
theorem dL_law_219 : decode cL_law 219 = .ok (.iaload, 1) := by decide +kernel
theorem dL_law_220 : decode cL_law 220 = .ok (.aload_n 0, 1) := by decide +kernel
theorem dL_law_221 : decode cL_law 221 = .ok (.iload_n 3, 1) := by decide +kernel
theorem dL_law_222 : decode cL_law 222 = .ok (.iconst 2, 1) := by decide +kernel
theorem dL_law_223 : decode cL_law 223 = .ok (.iadd, 1) := by decide +kernel
theorem dL_law_224 : decode cL_law 224 = .ok (.iaload, 1) := by decide +kernel
theorem dL_law_225 : decode cL_law 225 = .ok (.invokevirtual 23, 3) := by decide +kernel
theorem dL_law_228 : decode cL_law 228 = .ok (.aload_n 2, 1) := by decide +kernel
theorem dL_law_229 : decode cL_law 229 = .ok (.aload_n 0, 1) := by decide +kernel
theorem dL_law_230 : decode cL_law 230 = .ok (.iload_n 3, 1) := by decide +kernel
theorem dL_law_231 : decode cL_law 231 = .ok (.iconst 1, 1) := by decide +kernel
theorem dL_law_232 : decode cL_law 232 = .ok (.iadd, 1) := by decide +kernel
theorem dL_law_233 : decode cL_law 233 = .ok (.iaload, 1) := by decide +kernel
theorem dL_law_234 : decode cL_law 234 = .ok (.aload_n 0, 1) := by decide +kernel
theorem dL_law_235 : decode cL_law 235 = .ok (.iload_n 3, 1) := by decide +kernel
theorem dL_law_236 : decode cL_law 236 = .ok (.iconst 2, 1) := by decide +kernel
theorem dL_law_237 : decode cL_law 237 = .ok (.iadd, 1) := by decide +kernel
theorem dL_law_238 : decode cL_law 238 = .ok (.iaload, 1) := by decide +kernel
theorem dL_law_239 : decode cL_law 239 = .ok (.invokevirtual 26, 3) := by decide +kernel
theorem dL_law_242 : decode cL_law 242 = .ok (.if_icmp .eq 426, 3) := by decide +kernel
theorem dL_law_245 : decode cL_law 245 = .ok (.iconst 0, 1) := by decide +kernel
theorem dL_law_246 : decode cL_law 246 = .ok (.ireturn, 1) := by decide +kernel
theorem dL_law_247 : decode cL_law 247 = .ok (.aload_n 1, 1) := by decide +kernel
theorem dL_law_248 : decode cL_law 248 = .ok (.aload_n 0, 1) := by decide +kernel
theorem dL_law_249 : decode cL_law 249 = .ok (.iload_n 3, 1) := by decide +kernel
theorem dL_law_250 : decode cL_law 250 = .ok (.iconst 1, 1) := by decide +kernel
theorem dL_law_251 : decode cL_law 251 = .ok (.iadd, 1) := by decide +kernel
theorem dL_law_252 : decode cL_law 252 = .ok (.iaload, 1) := by decide +kernel
theorem dL_law_253 : decode cL_law 253 = .ok (.invokevirtual 27, 3) := by decide +kernel
theorem dL_law_256 : decode cL_law 256 = .ok (.aload_n 2, 1) := by decide +kernel
theorem dL_law_257 : decode cL_law 257 = .ok (.aload_n 0, 1) := by decide +kernel
theorem dL_law_258 : decode cL_law 258 = .ok (.iload_n 3, 1) := by decide +kernel
theorem dL_law_259 : decode cL_law 259 = .ok (.iconst 1, 1) := by decide +kernel
theorem dL_law_260 : decode cL_law 260 = .ok (.iadd, 1) := by decide +kernel
theorem dL_law_261 : decode cL_law 261 = .ok (.iaload, 1) := by decide +kernel
theorem dL_law_262 : decode cL_law 262 = .ok (.invokevirtual 31, 3) := by decide +kernel
theorem dL_law_265 : decode cL_law 265 = .ok (.if_icmp .eq 403, 3) := by decide +kernel
theorem dL_law_268 : decode cL_law 268 = .ok (.iconst 0, 1) := by decide +kernel
theorem dL_law_269 : decode cL_law 269 = .ok (.ireturn, 1) := by decide +kernel
theorem dL_law_270 : decode cL_law 270 = .ok (.aload_n 1, 1) := by decide +kernel
theorem dL_law_271 : decode cL_law 271 = .ok (.aload_n 0, 1) := by decide +kernel
theorem dL_law_272 : decode cL_law 272 = .ok (.iload_n 3, 1) := by decide +kernel
theorem dL_law_273 : decode cL_law 273 = .ok (.iconst 1, 1) := by decide +kernel
theorem dL_law_274 : decode cL_law 274 = .ok (.iadd, 1) := by decide +kernel
theorem dL_law_275 : decode cL_law 275 = .ok (.iaload, 1) := by decide +kernel
theorem dL_law_276 : decode cL_law 276 = .ok (.invokevirtual 32, 3) := by decide +kernel
theorem dL_law_279 : decode cL_law 279 = .ok (.aload_n 2, 1) := by decide +kernel
theorem dL_law_280 : decode cL_law 280 = .ok (.aload_n 0, 1) := by decide +kernel
theorem dL_law_281 : decode cL_law 281 = .ok (.iload_n 3, 1) := by decide +kernel
theorem dL_law_282 : decode cL_law 282 = .ok (.iconst 1, 1) := by decide +kernel
theorem dL_law_283 : decode cL_law 283 = .ok (.iadd, 1) := by decide +kernel
theorem dL_law_284 : decode cL_law 284 = .ok (.iaload, 1) := by decide +kernel
theorem dL_law_285 : decode cL_law 285 = .ok (.invokevirtual 35, 3) := by decide +kernel
theorem dL_law_288 : decode cL_law 288 = .ok (.if_icmp .eq 380, 3) := by decide +kernel
theorem dL_law_291 : decode cL_law 291 = .ok (.iconst 0, 1) := by decide +kernel
theorem dL_law_292 : decode cL_law 292 = .ok (.ireturn, 1) := by decide +kernel
theorem dL_law_293 : decode cL_law 293 = .ok (.aload_n 1, 1) := by decide +kernel
theorem dL_law_294 : decode cL_law 294 = .ok (.aload_n 0, 1) := by decide +kernel
theorem dL_law_295 : decode cL_law 295 = .ok (.iload_n 3, 1) := by decide +kernel
theorem dL_law_296 : decode cL_law 296 = .ok (.iconst 1, 1) := by decide +kernel
theorem dL_law_297 : decode cL_law 297 = .ok (.iadd, 1) := by decide +kernel
theorem dL_law_298 : decode cL_law 298 = .ok (.iaload, 1) := by decide +kernel
theorem dL_law_299 : decode cL_law 299 = .ok (.aload_n 0, 1) := by decide +kernel
theorem dL_law_300 : decode cL_law 300 = .ok (.iload_n 3, 1) := by decide +kernel
theorem dL_law_301 : decode cL_law 301 = .ok (.iconst 2, 1) := by decide +kernel
theorem dL_law_302 : decode cL_law 302 = .ok (.iadd, 1) := by decide +kernel
theorem dL_law_303 : decode cL_law 303 = .ok (.iaload, 1) := by decide +kernel
theorem dL_law_304 : decode cL_law 304 = .ok (.invokevirtual 36, 3) := by decide +kernel
theorem dL_law_307 : decode cL_law 307 = .ok (.aload_n 2, 1) := by decide +kernel
theorem dL_law_308 : decode cL_law 308 = .ok (.aload_n 0, 1) := by decide +kernel
theorem dL_law_309 : decode cL_law 309 = .ok (.iload_n 3, 1) := by decide +kernel
theorem dL_law_310 : decode cL_law 310 = .ok (.iconst 1, 1) := by decide +kernel
theorem dL_law_311 : decode cL_law 311 = .ok (.iadd, 1) := by decide +kernel
theorem dL_law_312 : decode cL_law 312 = .ok (.iaload, 1) := by decide +kernel
theorem dL_law_313 : decode cL_law 313 = .ok (.aload_n 0, 1) := by decide +kernel
theorem dL_law_314 : decode cL_law 314 = .ok (.iload_n 3, 1) := by decide +kernel
theorem dL_law_315 : decode cL_law 315 = .ok (.iconst 2, 1) := by decide +kernel
theorem dL_law_316 : decode cL_law 316 = .ok (.iadd, 1) := by decide +kernel
theorem dL_law_317 : decode cL_law 317 = .ok (.iaload, 1) := by decide +kernel
theorem dL_law_318 : decode cL_law 318 = .ok (.invokevirtual 39, 3) := by decide +kernel
theorem dL_law_321 : decode cL_law 321 = .ok (.if_icmp .eq 347, 3) := by decide +kernel
theorem dL_law_324 : decode cL_law 324 = .ok (.iconst 0, 1) := by decide +kernel
theorem dL_law_325 : decode cL_law 325 = .ok (.ireturn, 1) := by decide +kernel
theorem dL_law_326 : decode cL_law 326 = .ok (.aload_n 1, 1) := by decide +kernel
theorem dL_law_327 : decode cL_law 327 = .ok (.aload_n 0, 1) := by decide +kernel
theorem dL_law_328 : decode cL_law 328 = .ok (.iload_n 3, 1) := by decide +kernel
theorem dL_law_329 : decode cL_law 329 = .ok (.iconst 1, 1) := by decide +kernel
theorem dL_law_330 : decode cL_law 330 = .ok (.iadd, 1) := by decide +kernel
theorem dL_law_331 : decode cL_law 331 = .ok (.iaload, 1) := by decide +kernel
theorem dL_law_332 : decode cL_law 332 = .ok (.aload_n 0, 1) := by decide +kernel
theorem dL_law_333 : decode cL_law 333 = .ok (.iload_n 3, 1) := by decide +kernel
theorem dL_law_334 : decode cL_law 334 = .ok (.iconst 2, 1) := by decide +kernel
theorem dL_law_335 : decode cL_law 335 = .ok (.iadd, 1) := by decide +kernel
theorem dL_law_336 : decode cL_law 336 = .ok (.iaload, 1) := by decide +kernel
theorem dL_law_337 : decode cL_law 337 = .ok (.invokevirtual 40, 3) := by decide +kernel
theorem dL_law_340 : decode cL_law 340 = .ok (.aload_n 2, 1) := by decide +kernel
theorem dL_law_341 : decode cL_law 341 = .ok (.aload_n 0, 1) := by decide +kernel
theorem dL_law_342 : decode cL_law 342 = .ok (.iload_n 3, 1) := by decide +kernel
theorem dL_law_343 : decode cL_law 343 = .ok (.iconst 1, 1) := by decide +kernel
theorem dL_law_344 : decode cL_law 344 = .ok (.iadd, 1) := by decide +kernel
theorem dL_law_345 : decode cL_law 345 = .ok (.iaload, 1) := by decide +kernel
theorem dL_law_346 : decode cL_law 346 = .ok (.aload_n 0, 1) := by decide +kernel
theorem dL_law_347 : decode cL_law 347 = .ok (.iload_n 3, 1) := by decide +kernel
theorem dL_law_348 : decode cL_law 348 = .ok (.iconst 2, 1) := by decide +kernel
theorem dL_law_349 : decode cL_law 349 = .ok (.iadd, 1) := by decide +kernel
theorem dL_law_350 : decode cL_law 350 = .ok (.iaload, 1) := by decide +kernel
theorem dL_law_351 : decode cL_law 351 = .ok (.invokevirtual 43, 3) := by decide +kernel
theorem dL_law_354 : decode cL_law 354 = .ok (.if_icmp .eq 314, 3) := by decide +kernel
theorem dL_law_357 : decode cL_law 357 = .ok (.iconst 0, 1) := by decide +kernel
theorem dL_law_358 : decode cL_law 358 = .ok (.ireturn, 1) := by decide +kernel
theorem dL_law_359 : decode cL_law 359 = .ok (.aload_n 1, 1) := by decide +kernel
theorem dL_law_360 : decode cL_law 360 = .ok (.aload_n 0, 1) := by decide +kernel
theorem dL_law_361 : decode cL_law 361 = .ok (.iload_n 3, 1) := by decide +kernel
theorem dL_law_362 : decode cL_law 362 = .ok (.iconst 1, 1) := by decide +kernel
theorem dL_law_363 : decode cL_law 363 = .ok (.iadd, 1) := by decide +kernel
theorem dL_law_364 : decode cL_law 364 = .ok (.iaload, 1) := by decide +kernel
theorem dL_law_365 : decode cL_law 365 = .ok (.aload_n 0, 1) := by decide +kernel
theorem dL_law_366 : decode cL_law 366 = .ok (.iload_n 3, 1) := by decide +kernel
theorem dL_law_367 : decode cL_law 367 = .ok (.iconst 2, 1) := by decide +kernel
theorem dL_law_368 : decode cL_law 368 = .ok (.iadd, 1) := by decide +kernel
theorem dL_law_369 : decode cL_law 369 = .ok (.iaload, 1) := by decide +kernel
theorem dL_law_370 : decode cL_law 370 = .ok (.invokevirtual 44, 3) := by decide +kernel
theorem dL_law_373 : decode cL_law 373 = .ok (.aload_n 2, 1) := by decide +kernel
theorem dL_law_374 : decode cL_law 374 = .ok (.aload_n 0, 1) := by decide +kernel
theorem dL_law_375 : decode cL_law 375 = .ok (.iload_n 3, 1) := by decide +kernel
theorem dL_law_376 : decode cL_law 376 = .ok (.iconst 1, 1) := by decide +kernel
theorem dL_law_377 : decode cL_law 377 = .ok (.iadd, 1) := by decide +kernel
theorem dL_law_378 : decode cL_law 378 = .ok (.iaload, 1) := by decide +kernel
theorem dL_law_379 : decode cL_law 379 = .ok (.aload_n 0, 1) := by decide +kernel
theorem dL_law_380 : decode cL_law 380 = .ok (.iload_n 3, 1) := by decide +kernel
theorem dL_law_381 : decode cL_law 381 = .ok (.iconst 2, 1) := by decide +kernel
theorem dL_law_382 : decode cL_law 382 = .ok (.iadd, 1) := by decide +kernel
theorem dL_law_383 : decode cL_law 383 = .ok (.iaload, 1) := by decide +kernel
theorem dL_law_384 : decode cL_law 384 = .ok (.invokevirtual 47, 3) := by decide +kernel
theorem dL_law_387 : decode cL_law 387 = .ok (.if_icmp .eq 281, 3) := by decide +kernel
theorem dL_law_390 : decode cL_law 390 = .ok (.iconst 0, 1) := by decide +kernel
theorem dL_law_391 : decode cL_law 391 = .ok (.ireturn, 1) := by decide +kernel
theorem dL_law_392 : decode cL_law 392 = .ok (.aload_n 1, 1) := by decide +kernel
theorem dL_law_393 : decode cL_law 393 = .ok (.aload_n 0, 1) := by decide +kernel
theorem dL_law_394 : decode cL_law 394 = .ok (.iload_n 3, 1) := by decide +kernel
theorem dL_law_395 : decode cL_law 395 = .ok (.iconst 1, 1) := by decide +kernel
theorem dL_law_396 : decode cL_law 396 = .ok (.iadd, 1) := by decide +kernel
theorem dL_law_397 : decode cL_law 397 = .ok (.iaload, 1) := by decide +kernel
theorem dL_law_398 : decode cL_law 398 = .ok (.invokevirtual 48, 3) := by decide +kernel
theorem dL_law_401 : decode cL_law 401 = .ok (.aload_n 2, 1) := by decide +kernel
theorem dL_law_402 : decode cL_law 402 = .ok (.aload_n 0, 1) := by decide +kernel
theorem dL_law_403 : decode cL_law 403 = .ok (.iload_n 3, 1) := by decide +kernel
theorem dL_law_404 : decode cL_law 404 = .ok (.iconst 1, 1) := by decide +kernel
theorem dL_law_405 : decode cL_law 405 = .ok (.iadd, 1) := by decide +kernel
theorem dL_law_406 : decode cL_law 406 = .ok (.iaload, 1) := by decide +kernel
theorem dL_law_407 : decode cL_law 407 = .ok (.invokevirtual 51, 3) := by decide +kernel
theorem dL_law_410 : decode cL_law 410 = .ok (.if_icmp .eq 258, 3) := by decide +kernel
theorem dL_law_413 : decode cL_law 413 = .ok (.iconst 0, 1) := by decide +kernel
theorem dL_law_414 : decode cL_law 414 = .ok (.ireturn, 1) := by decide +kernel
theorem dL_law_415 : decode cL_law 415 = .ok (.aload_n 1, 1) := by decide +kernel
theorem dL_law_416 : decode cL_law 416 = .ok (.invokevirtual 52, 3) := by decide +kernel
theorem dL_law_419 : decode cL_law 419 = .ok (.aload_n 2, 1) := by decide +kernel
theorem dL_law_420 : decode cL_law 420 = .ok (.invokevirtual 56, 3) := by decide +kernel
theorem dL_law_423 : decode cL_law 423 = .ok (.if_icmp .eq 245, 3) := by decide +kernel
theorem dL_law_426 : decode cL_law 426 = .ok (.iconst 0, 1) := by decide +kernel
theorem dL_law_427 : decode cL_law 427 = .ok (.ireturn, 1) := by decide +kernel
theorem dL_law_428 : decode cL_law 428 = .ok (.aload_n 1, 1) := by decide +kernel
theorem dL_law_429 : decode cL_law 429 = .ok (.aload_n 0, 1) := by decide +kernel
theorem dL_law_430 : decode cL_law 430 = .ok (.iload_n 3, 1) := by decide +kernel
theorem dL_law_431 : decode cL_law 431 = .ok (.iconst 1, 1) := by decide +kernel
theorem dL_law_432 : decode cL_law 432 = .ok (.iadd, 1) := by decide +kernel
theorem dL_law_433 : decode cL_law 433 = .ok (.iaload, 1) := by decide +kernel
theorem dL_law_434 : decode cL_law 434 = .ok (.invokevirtual 57, 3) := by decide +kernel
theorem dL_law_437 : decode cL_law 437 = .ok (.aload_n 2, 1) := by decide +kernel
theorem dL_law_438 : decode cL_law 438 = .ok (.aload_n 0, 1) := by decide +kernel
theorem dL_law_439 : decode cL_law 439 = .ok (.iload_n 3, 1) := by decide +kernel
theorem dL_law_440 : decode cL_law 440 = .ok (.iconst 1, 1) := by decide +kernel
theorem dL_law_441 : decode cL_law 441 = .ok (.iadd, 1) := by decide +kernel
theorem dL_law_442 : decode cL_law 442 = .ok (.iaload, 1) := by decide +kernel
theorem dL_law_443 : decode cL_law 443 = .ok (.invokevirtual 60, 3) := by decide +kernel
theorem dL_law_446 : decode cL_law 446 = .ok (.if_icmp .eq 222, 3) := by decide +kernel
theorem dL_law_449 : decode cL_law 449 = .ok (.iconst 0, 1) := by decide +kernel
theorem dL_law_450 : decode cL_law 450 = .ok (.ireturn, 1) := by decide +kernel
theorem dL_law_451 : decode cL_law 451 = .ok (.aload_n 1, 1) := by decide +kernel
theorem dL_law_452 : decode cL_law 452 = .ok (.aload_n 0, 1) := by decide +kernel
theorem dL_law_453 : decode cL_law 453 = .ok (.iload_n 3, 1) := by decide +kernel
theorem dL_law_454 : decode cL_law 454 = .ok (.iconst 1, 1) := by decide +kernel
theorem dL_law_455 : decode cL_law 455 = .ok (.iadd, 1) := by decide +kernel
theorem dL_law_456 : decode cL_law 456 = .ok (.iaload, 1) := by decide +kernel
theorem dL_law_457 : decode cL_law 457 = .ok (.aload_n 0, 1) := by decide +kernel
theorem dL_law_458 : decode cL_law 458 = .ok (.iload_n 3, 1) := by decide +kernel
theorem dL_law_459 : decode cL_law 459 = .ok (.iconst 2, 1) := by decide +kernel
theorem dL_law_460 : decode cL_law 460 = .ok (.iadd, 1) := by decide +kernel
theorem dL_law_461 : decode cL_law 461 = .ok (.iaload, 1) := by decide +kernel
theorem dL_law_462 : decode cL_law 462 = .ok (.aload_n 0, 1) := by decide +kernel
theorem dL_law_463 : decode cL_law 463 = .ok (.iload_n 3, 1) := by decide +kernel
theorem dL_law_464 : decode cL_law 464 = .ok (.iconst 3, 1) := by decide +kernel
theorem dL_law_465 : decode cL_law 465 = .ok (.iadd, 1) := by decide +kernel
theorem dL_law_466 : decode cL_law 466 = .ok (.iaload, 1) := by decide +kernel
theorem dL_law_467 : decode cL_law 467 = .ok (.invokevirtual 61, 3) := by decide +kernel
theorem dL_law_470 : decode cL_law 470 = .ok (.aload_n 2, 1) := by decide +kernel
theorem dL_law_471 : decode cL_law 471 = .ok (.aload_n 0, 1) := by decide +kernel
theorem dL_law_472 : decode cL_law 472 = .ok (.iload_n 3, 1) := by decide +kernel
theorem dL_law_473 : decode cL_law 473 = .ok (.iconst 1, 1) := by decide +kernel
theorem dL_law_474 : decode cL_law 474 = .ok (.iadd, 1) := by decide +kernel
theorem dL_law_475 : decode cL_law 475 = .ok (.iaload, 1) := by decide +kernel
theorem dL_law_476 : decode cL_law 476 = .ok (.aload_n 0, 1) := by decide +kernel
theorem dL_law_477 : decode cL_law 477 = .ok (.iload_n 3, 1) := by decide +kernel
theorem dL_law_478 : decode cL_law 478 = .ok (.iconst 2, 1) := by decide +kernel
theorem dL_law_479 : decode cL_law 479 = .ok (.iadd, 1) := by decide +kernel
theorem dL_law_480 : decode cL_law 480 = .ok (.iaload, 1) := by decide +kernel
theorem dL_law_481 : decode cL_law 481 = .ok (.aload_n 0, 1) := by decide +kernel
theorem dL_law_482 : decode cL_law 482 = .ok (.iload_n 3, 1) := by decide +kernel
theorem dL_law_483 : decode cL_law 483 = .ok (.iconst 3, 1) := by decide +kernel
theorem dL_law_484 : decode cL_law 484 = .ok (.iadd, 1) := by decide +kernel
theorem dL_law_485 : decode cL_law 485 = .ok (.iaload, 1) := by decide +kernel
theorem dL_law_486 : decode cL_law 486 = .ok (.invokevirtual 65, 3) := by decide +kernel
theorem dL_law_489 : decode cL_law 489 = .ok (.if_icmp .eq 179, 3) := by decide +kernel
theorem dL_law_492 : decode cL_law 492 = .ok (.iconst 0, 1) := by decide +kernel
theorem dL_law_493 : decode cL_law 493 = .ok (.ireturn, 1) := by decide +kernel
theorem dL_law_494 : decode cL_law 494 = .ok (.aload_n 1, 1) := by decide +kernel
theorem dL_law_495 : decode cL_law 495 = .ok (.aload_n 0, 1) := by decide +kernel
theorem dL_law_496 : decode cL_law 496 = .ok (.iload_n 3, 1) := by decide +kernel
theorem dL_law_497 : decode cL_law 497 = .ok (.iconst 1, 1) := by decide +kernel
theorem dL_law_498 : decode cL_law 498 = .ok (.iadd, 1) := by decide +kernel
theorem dL_law_499 : decode cL_law 499 = .ok (.iaload, 1) := by decide +kernel
theorem dL_law_500 : decode cL_law 500 = .ok (.invokevirtual 66, 3) := by decide +kernel
theorem dL_law_503 : decode cL_law 503 = .ok (.aload_n 2, 1) := by decide +kernel
theorem dL_law_504 : decode cL_law 504 = .ok (.aload_n 0, 1) := by decide +kernel
theorem dL_law_505 : decode cL_law 505 = .ok (.iload_n 3, 1) := by decide +kernel
theorem dL_law_506 : decode cL_law 506 = .ok (.iconst 1, 1) := by decide +kernel
theorem dL_law_507 : decode cL_law 507 = .ok (.iadd, 1) := by decide +kernel
theorem dL_law_508 : decode cL_law 508 = .ok (.iaload, 1) := by decide +kernel
theorem dL_law_509 : decode cL_law 509 = .ok (.invokevirtual 69, 3) := by decide +kernel
theorem dL_law_512 : decode cL_law 512 = .ok (.if_icmp .eq 156, 3) := by decide +kernel
theorem dL_law_515 : decode cL_law 515 = .ok (.iconst 0, 1) := by decide +kernel
theorem dL_law_516 : decode cL_law 516 = .ok (.ireturn, 1) := by decide +kernel
theorem dL_law_517 : decode cL_law 517 = .ok (.aload_n 1, 1) := by decide +kernel
theorem dL_law_518 : decode cL_law 518 = .ok (.aload_n 0, 1) := by decide +kernel
theorem dL_law_519 : decode cL_law 519 = .ok (.iload_n 3, 1) := by decide +kernel
theorem dL_law_520 : decode cL_law 520 = .ok (.iconst 1, 1) := by decide +kernel
theorem dL_law_521 : decode cL_law 521 = .ok (.iadd, 1) := by decide +kernel
theorem dL_law_522 : decode cL_law 522 = .ok (.iaload, 1) := by decide +kernel
theorem dL_law_523 : decode cL_law 523 = .ok (.i2l, 1) := by decide +kernel
theorem dL_law_524 : decode cL_law 524 = .ok (.bipush 32, 2) := by decide +kernel
theorem dL_law_526 : decode cL_law 526 = .ok (.lshl, 1) := by decide +kernel
theorem dL_law_527 : decode cL_law 527 = .ok (.aload_n 0, 1) := by decide +kernel
theorem dL_law_528 : decode cL_law 528 = .ok (.iload_n 3, 1) := by decide +kernel
theorem dL_law_529 : decode cL_law 529 = .ok (.iconst 2, 1) := by decide +kernel
theorem dL_law_530 : decode cL_law 530 = .ok (.iadd, 1) := by decide +kernel
theorem dL_law_531 : decode cL_law 531 = .ok (.iaload, 1) := by decide +kernel
theorem dL_law_532 : decode cL_law 532 = .ok (.i2l, 1) := by decide +kernel
theorem dL_law_533 : decode cL_law 533 = .ok (.ldc2_w 70, 3) := by decide +kernel
theorem dL_law_536 : decode cL_law 536 = .ok (.land, 1) := by decide +kernel
theorem dL_law_537 : decode cL_law 537 = .ok (.lor, 1) := by decide +kernel
theorem dL_law_538 : decode cL_law 538 = .ok (.invokevirtual 72, 3) := by decide +kernel
theorem dL_law_541 : decode cL_law 541 = .ok (.aload_n 2, 1) := by decide +kernel
theorem dL_law_542 : decode cL_law 542 = .ok (.aload_n 0, 1) := by decide +kernel
theorem dL_law_543 : decode cL_law 543 = .ok (.iload_n 3, 1) := by decide +kernel
theorem dL_law_544 : decode cL_law 544 = .ok (.iconst 1, 1) := by decide +kernel
theorem dL_law_545 : decode cL_law 545 = .ok (.iadd, 1) := by decide +kernel
theorem dL_law_546 : decode cL_law 546 = .ok (.iaload, 1) := by decide +kernel
theorem dL_law_547 : decode cL_law 547 = .ok (.i2l, 1) := by decide +kernel
theorem dL_law_548 : decode cL_law 548 = .ok (.bipush 32, 2) := by decide +kernel
theorem dL_law_550 : decode cL_law 550 = .ok (.lshl, 1) := by decide +kernel
theorem dL_law_551 : decode cL_law 551 = .ok (.aload_n 0, 1) := by decide +kernel
theorem dL_law_552 : decode cL_law 552 = .ok (.iload_n 3, 1) := by decide +kernel
theorem dL_law_553 : decode cL_law 553 = .ok (.iconst 2, 1) := by decide +kernel
theorem dL_law_554 : decode cL_law 554 = .ok (.iadd, 1) := by decide +kernel
theorem dL_law_555 : decode cL_law 555 = .ok (.iaload, 1) := by decide +kernel
theorem dL_law_556 : decode cL_law 556 = .ok (.i2l, 1) := by decide +kernel
theorem dL_law_557 : decode cL_law 557 = .ok (.ldc2_w 70, 3) := by decide +kernel
theorem dL_law_560 : decode cL_law 560 = .ok (.land, 1) := by decide +kernel
theorem dL_law_561 : decode cL_law 561 = .ok (.lor, 1) := by decide +kernel
theorem dL_law_562 : decode cL_law 562 = .ok (.invokevirtual 76, 3) := by decide +kernel
theorem dL_law_565 : decode cL_law 565 = .ok (.if_icmp .eq 103, 3) := by decide +kernel
theorem dL_law_568 : decode cL_law 568 = .ok (.iconst 0, 1) := by decide +kernel
theorem dL_law_569 : decode cL_law 569 = .ok (.ireturn, 1) := by decide +kernel
theorem dL_law_570 : decode cL_law 570 = .ok (.aload_n 1, 1) := by decide +kernel
theorem dL_law_571 : decode cL_law 571 = .ok (.invokevirtual 77, 3) := by decide +kernel
theorem dL_law_574 : decode cL_law 574 = .ok (.aload_n 2, 1) := by decide +kernel
theorem dL_law_575 : decode cL_law 575 = .ok (.invokevirtual 80, 3) := by decide +kernel
theorem dL_law_578 : decode cL_law 578 = .ok (.if_icmp .eq 90, 3) := by decide +kernel
theorem dL_law_581 : decode cL_law 581 = .ok (.iconst 0, 1) := by decide +kernel
theorem dL_law_582 : decode cL_law 582 = .ok (.ireturn, 1) := by decide +kernel
theorem dL_law_583 : decode cL_law 583 = .ok (.aload_n 1, 1) := by decide +kernel
theorem dL_law_584 : decode cL_law 584 = .ok (.invokevirtual 81, 3) := by decide +kernel
theorem dL_law_587 : decode cL_law 587 = .ok (.aload_n 2, 1) := by decide +kernel
theorem dL_law_588 : decode cL_law 588 = .ok (.invokevirtual 84, 3) := by decide +kernel
theorem dL_law_591 : decode cL_law 591 = .ok (.if_icmp .eq 77, 3) := by decide +kernel
theorem dL_law_594 : decode cL_law 594 = .ok (.iconst 0, 1) := by decide +kernel
theorem dL_law_595 : decode cL_law 595 = .ok (.ireturn, 1) := by decide +kernel
theorem dL_law_596 : decode cL_law 596 = .ok (.aload_n 1, 1) := by decide +kernel
theorem dL_law_597 : decode cL_law 597 = .ok (.invokevirtual 85, 3) := by decide +kernel
theorem dL_law_600 : decode cL_law 600 = .ok (.aload_n 2, 1) := by decide +kernel
theorem dL_law_601 : decode cL_law 601 = .ok (.invokevirtual 88, 3) := by decide +kernel
theorem dL_law_604 : decode cL_law 604 = .ok (.if_icmp .eq 64, 3) := by decide +kernel
theorem dL_law_607 : decode cL_law 607 = .ok (.iconst 0, 1) := by decide +kernel
theorem dL_law_608 : decode cL_law 608 = .ok (.ireturn, 1) := by decide +kernel
theorem dL_law_609 : decode cL_law 609 = .ok (.aload_n 1, 1) := by decide +kernel
theorem dL_law_610 : decode cL_law 610 = .ok (.invokevirtual 89, 3) := by decide +kernel
theorem dL_law_613 : decode cL_law 613 = .ok (.aload_n 2, 1) := by decide +kernel
theorem dL_law_614 : decode cL_law 614 = .ok (.invokevirtual 92, 3) := by decide +kernel
theorem dL_law_617 : decode cL_law 617 = .ok (.if_icmp .eq 51, 3) := by decide +kernel
theorem dL_law_620 : decode cL_law 620 = .ok (.iconst 0, 1) := by decide +kernel
theorem dL_law_621 : decode cL_law 621 = .ok (.ireturn, 1) := by decide +kernel
theorem dL_law_622 : decode cL_law 622 = .ok (.aload_n 1, 1) := by decide +kernel
theorem dL_law_623 : decode cL_law 623 = .ok (.aload_n 0, 1) := by decide +kernel
theorem dL_law_624 : decode cL_law 624 = .ok (.iload_n 3, 1) := by decide +kernel
theorem dL_law_625 : decode cL_law 625 = .ok (.iconst 1, 1) := by decide +kernel
theorem dL_law_626 : decode cL_law 626 = .ok (.iadd, 1) := by decide +kernel
theorem dL_law_627 : decode cL_law 627 = .ok (.iaload, 1) := by decide +kernel
theorem dL_law_628 : decode cL_law 628 = .ok (.invokevirtual 93, 3) := by decide +kernel
theorem dL_law_631 : decode cL_law 631 = .ok (.aload_n 2, 1) := by decide +kernel
theorem dL_law_632 : decode cL_law 632 = .ok (.aload_n 0, 1) := by decide +kernel
theorem dL_law_633 : decode cL_law 633 = .ok (.iload_n 3, 1) := by decide +kernel
theorem dL_law_634 : decode cL_law 634 = .ok (.iconst 1, 1) := by decide +kernel
theorem dL_law_635 : decode cL_law 635 = .ok (.iadd, 1) := by decide +kernel
theorem dL_law_636 : decode cL_law 636 = .ok (.iaload, 1) := by decide +kernel
theorem dL_law_637 : decode cL_law 637 = .ok (.invokevirtual 96, 3) := by decide +kernel
theorem dL_law_640 : decode cL_law 640 = .ok (.if_icmp .eq 28, 3) := by decide +kernel
theorem dL_law_643 : decode cL_law 643 = .ok (.iconst 0, 1) := by decide +kernel
theorem dL_law_644 : decode cL_law 644 = .ok (.ireturn, 1) := by decide +kernel
theorem dL_law_645 : decode cL_law 645 = .ok (.aload_n 1, 1) := by decide +kernel
theorem dL_law_646 : decode cL_law 646 = .ok (.aload_n 0, 1) := by decide +kernel
theorem dL_law_647 : decode cL_law 647 = .ok (.iload_n 3, 1) := by decide +kernel
theorem dL_law_648 : decode cL_law 648 = .ok (.iconst 1, 1) := by decide +kernel
theorem dL_law_649 : decode cL_law 649 = .ok (.iadd, 1) := by decide +kernel
theorem dL_law_650 : decode cL_law 650 = .ok (.iaload, 1) := by decide +kernel
theorem dL_law_651 : decode cL_law 651 = .ok (.invokevirtual 97, 3) := by decide +kernel
theorem dL_law_654 : decode cL_law 654 = .ok (.aload_n 2, 1) := by decide +kernel
theorem dL_law_655 : decode cL_law 655 = .ok (.aload_n 0, 1) := by decide +kernel
theorem dL_law_656 : decode cL_law 656 = .ok (.iload_n 3, 1) := by decide +kernel
theorem dL_law_657 : decode cL_law 657 = .ok (.iconst 1, 1) := by decide +kernel
theorem dL_law_658 : decode cL_law 658 = .ok (.iadd, 1) := by decide +kernel
theorem dL_law_659 : decode cL_law 659 = .ok (.iaload, 1) := by decide +kernel
theorem dL_law_660 : decode cL_law 660 = .ok (.invokevirtual 100, 3) := by decide +kernel
theorem dL_law_663 : decode cL_law 663 = .ok (.if_icmp .eq 5, 3) := by decide +kernel
theorem dL_law_666 : decode cL_law 666 = .ok (.iconst 0, 1) := by decide +kernel
theorem dL_law_667 : decode cL_law 667 = .ok (.ireturn, 1) := by decide +kernel
theorem dL_law_668 : decode cL_law 668 = .ok (.iinc 3 5, 3) := by decide +kernel
theorem dL_law_671 : decode cL_law 671 = .ok (.goto (-653), 3) := by decide +kernel
theorem dL_law_674 : decode cL_law 674 = .ok (.iconst 1, 1) := by decide +kernel
theorem dL_law_675 : decode cL_law 675 = .ok (.ireturn, 1) := by decide +kernel
end
section
/-! making -/
def q_nS (Sh : q_Sh) (kd : q_Kd) : q_Sh := (Sh.1 + 1, fun l => if l = Sh.1 then kd else Sh.2.1 l, fun l k => if l = Sh.1 then none else Sh.2.2 l k)
def q_nI (I : q_Mem) (n : Nat) : q_Mem := fun l k => if l = n then 0 else I l k
theorem q_E_new {cA : Nat → ClassId} {ad : Nat → Nat} {Sh : q_Sh} {I : q_Mem} {kd : q_Kd} {a l : Nat} (hl : l < Sh.1) (hf : ∀ j, Sh.2.2 l j ≠ some Sh.1) :
    q_E cA (fun x => if x = Sh.1 then a else ad x) (q_nS Sh kd).2.1 (q_nS Sh kd).2.2 (q_nI I Sh.1) l = q_E cA ad Sh.2.1 Sh.2.2 I l := by
  have hne : ¬ l = Sh.1 := by omega
  have e1 : (q_nS Sh kd).2.1 l = Sh.2.1 l := by simp [q_nS, hne]
  have e2 : q_nI I Sh.1 l = I l := by funext b; simp [q_nI, hne]
  have e3 : ∀ j, ((q_nS Sh kd).2.2 l j).map (fun x => if x = Sh.1 then a else ad x) = (Sh.2.2 l j).map ad := by
    intro j
    have e4 : (q_nS Sh kd).2.2 l j = Sh.2.2 l j := by simp [q_nS, hne]
    rw [e4]
    cases hx : Sh.2.2 l j with
    | none => rfl
    | some x =>
      have : ¬ x = Sh.1 := fun q => hf j (by rw [hx, q])
      simp [this]
  unfold q_E q_fv
  simp only [e1, e2, e3]
theorem q_ws_new {cA : Nat → ClassId} {ad : Nat → Nat} {Sh : q_Sh} {I : q_Mem} {kd : q_Kd} {a : Nat} (hf : ∀ l j, l < Sh.1 → Sh.2.2 l j ≠ some Sh.1) :
    q_ws cA (fun x => if x = Sh.1 then a else ad x) (q_nS Sh kd) (q_nI I Sh.1) = q_ws cA ad Sh I ++ [(a, q_E cA (fun x => if x = Sh.1 then a else ad x) (q_nS Sh kd).2.1 (q_nS Sh kd).2.2 (q_nI I Sh.1) Sh.1)] := by
  unfold q_ws
  have e : (q_nS Sh kd).1 = Sh.1 + 1 := rfl
  rw [e, List.range_succ, List.map_append]
  congr 1
  · refine List.map_congr_left fun l hl => ?_
    have hl := List.mem_range.mp hl
    have hne : ¬ l = Sh.1 := by omega
    rw [q_E_new hl (fun j => hf l j hl)]
    simp [hne]
  · simp
theorem q_grow_new {n0 : Nat} {ad0 : Nat → Nat} {n a : Nat} {ad : Nat → Nat} (h : q_grow n0 ad0 n ad) : q_grow n0 ad0 (n + 1) (fun x => if x = n then a else ad x) := by
  obtain ⟨h1, h2, h3⟩ := h
  exact ⟨by omega, fun l hl => (if_neg (by omega)).trans (h2 l hl), fun e => by omega⟩
theorem q_new_lv {ad : Nat → Nat} {n a : Nat} {lv : List (Nat × Value)} (h : ∀ q ∈ lv, q_old n q.2) : q_lvm ad lv = q_lvm (fun x => if x = n then a else ad x) lv :=
  List.map_congr_left fun q hq => by rw [q_cv_old (n := n) (ad := ad) (ad' := fun x => if x = n then a else ad x) (fun l hl => if_neg (by omega)) (h q hq)]
theorem q_new_st {ad : Nat → Nat} {n a : Nat} {st : List Value} (h : ∀ v ∈ st, q_old n v) : st.map (q_cv ad) = st.map (q_cv (fun x => if x = n then a else ad x)) :=
  List.map_congr_left fun q hq => by rw [q_cv_old (n := n) (ad := ad) (ad' := fun x => if x = n then a else ad x) (fun l hl => if_neg (by omega)) (h q hq)]
/-- an array class by its name is one class -/
theorem q_arr_one {D : va_G} {cA : Nat → ClassId} {s : State} {t : Nat} {ty : FieldType} {c : ClassId} (hK : va_K D vwCl (q_tys cA) s) (ht : (q_tys cA)[t]? = some (cA t, ty)) (hK2 : va_K D vwCl (q_tys cA ++ [(c, ty)]) s) : c = cA t := by
  have h1 := (hK.2 t _ ht).2
  have h2 := (hK2.2 (q_tys cA).length (c, ty) (by simp)).2
  cases ty with
  | object C =>
    obtain ⟨_, _, -, -, -, e1⟩ := h1
    obtain ⟨_, _, -, -, -, e2⟩ := h2
    exact Option.some.inj (e2.symm.trans e1)
  | _ => exact Option.some.inj (Eq.trans (Eq.symm h2) h1)
section QROWS2
variable {K0 : Option Value → q_Sh → q_Mem → Prop} {Γ : q_Cx} {Y : q_Mth} {d rc rs : Nat} {Sh : q_Sh} {I : q_Mem} {pc : Nat} {lv : List (Nat × Value)} {st : List Value}
theorem q_new (B : q_Ok Γ Y d) {C : String} {T : u_T} {N ci i : Nat} (hC : q_Cl ci C T N) (hcl : Cond.classLink Y.1.cls i C ∈ q_WS) (hins : Cond.instantiable C N ∈ q_WS) (hini : Cond.initialized C ∈ q_WS) (hdf : ∀ j, j < N → defaultValue (q_ty ci j) = if q_isR (q_ty ci j) = true then .null else .int 0)
    (hf : ∀ l j, l < Sh.1 → Sh.2.2 l j ≠ some Sh.1) (ho : (∀ q ∈ lv, q_old Sh.1 q.2) ∧ ∀ v ∈ st, q_old Sh.1 v) (hd : decode Y.2.1 pc = .ok (.new i, 3))
    (kk : q_W Γ Y rc rs (q_nS Sh (.inl ci)) (q_nI I Sh.1) (pc + 3) lv (.ref Sh.1 :: st)) : q_W Γ Y (rc + 1) (rs + N) Sh I pc lv st := by
  intro ad H locs cells slots ls h1 h2 hP hD hS hg hls
  have hts := B.2.2.2.2.1
  have hb := B.2.2.2.2.2.2.2.2.2.1
  refine va_new (fs := (List.range N).map (fun j => if q_isR (q_ty ci j) = true then Value.null else .int 0)) B.1 B.2.1 hts hC.2.1 (q_ty ci) hC.2.2.1 B.2.2.2.1 (hts _ hcl) (hts _ hins) (hts _ hini) B.2.2.2.2.2.2.1 hP hD hS B.2.2.2.2.2.2.2.1 hC.1 (fun j hj => by rw [hdf j hj]; simp [vp_V, hj]) (by omega) (by omega) hd (fun a H1 hP1 hD1 hS1 => ?_)
  have e : q_ws (q_cA Γ) (fun x => if x = Sh.1 then a else ad x) (q_nS Sh (.inl ci)) (q_nI I Sh.1) = q_ws (q_cA Γ) ad Sh I ++ [(a, .inr (ci, (List.range N).map (fun j => if q_isR (q_ty ci j) = true then Value.null else .int 0)))] := by
    rw [q_ws_new hf]
    congr 3
    rw [q_E_obj (ci := ci) (by simp [q_nS]), hC.2.2.2.2]
    congr 2
    refine List.map_congr_left fun j _ => ?_
    simp [q_fv, q_nS, q_nI, va_rf]
  rw [← e] at hP1 hD1
  have k2 := kk (fun x => if x = Sh.1 then a else ad x) H1 locs (cells + 1) (slots + N) ls (by omega) (by omega) hP1 hD1 hS1 (q_grow_new hg) (by rw [← q_new_lv ho.1]; exact hls)
  rw [List.map_cons, ← q_new_st ho.2] at k2
  simp only [q_cv, if_true] at k2
  exact k2
theorem q_newa (B : q_Ok Γ Y d) {atype : ArrayType} {ty : FieldType} {t : Nat} (hty : newarray.typeOf atype = ty) (ht : (q_tys (q_cA Γ))[t]? = some (q_cA Γ t, ty)) (ht3 : t < 3) (hdf : defaultValue ty = .int 0) (harr : Cond.arrayClass ty ∈ q_WS) {n : Int32} {N : Nat} (hn0 : ¬ n < 0) (hN : n.toNatClampNeg = N) (hby : N * componentBytes ty ≤ 536870912)
    (hf : ∀ l j, l < Sh.1 → Sh.2.2 l j ≠ some Sh.1) (ho : (∀ q ∈ lv, q_old Sh.1 q.2) ∧ ∀ v ∈ st, q_old Sh.1 v) (hd : decode Y.2.1 pc = .ok (.newarray atype, 2))
    (kk : q_W Γ Y rc rs (q_nS Sh (.inr (t, N))) (q_nI I Sh.1) (pc + 2) lv (.ref Sh.1 :: st)) : q_W Γ Y (rc + 1) (rs + N) Sh I pc lv (.int n :: st) := by
  intro ad H locs cells slots ls h1 h2 hP hD hS hg hls
  have hts := B.2.2.2.2.1
  have hb := B.2.2.2.2.2.2.2.2.2.1
  have harr' := hts _ harr
  rw [← hty] at harr'
  refine va_newa (a0 := (N, .inl (fun _ => 0))) B.1 B.2.1 harr' hty B.2.2.2.2.2.2.1 hP hD hS B.2.2.2.2.2.2.2.1 (fun cA => by rw [vp_cell_i, hdf]) hn0 hN hby (by omega) (by omega) hd (fun a cA H1 hK1 hP1 hD1 hS1 => ?_)
  have ec := q_arr_one B.2.2.2.2.2.2.1 ht hK1
  subst ec
  have e : q_ws (q_cA Γ) (fun x => if x = Sh.1 then a else ad x) (q_nS Sh (.inr (t, N))) (q_nI I Sh.1) = q_ws (q_cA Γ) ad Sh I ++ [(a, .inl (q_cA Γ t, (N, .inl (fun _ => 0))))] := by
    have e1 : q_nI I Sh.1 Sh.1 = fun _ => 0 := by funext k; simp [q_nI]
    rw [q_ws_new hf, q_E_arr (t := t) (n := N) (by simp [q_nS]), if_pos ht3, e1]
  rw [← e] at hP1 hD1
  have k2 := kk (fun x => if x = Sh.1 then a else ad x) H1 locs (cells + 1) (slots + N) ls (by omega) (by omega) hP1 hD1 hS1 (q_grow_new hg) (by rw [← q_new_lv ho.1]; exact hls)
  rw [List.map_cons, ← q_new_st ho.2] at k2
  simp only [q_cv, if_true] at k2
  exact k2
theorem q_anew (B : q_Ok Γ Y d) {C : String} {i t : Nat} (hcl : Cond.classLink Y.1.cls i C ∈ q_WS) (hal : C ∈ q_al) (ht : (q_tys (q_cA Γ))[t]? = some (q_cA Γ t, .object C)) {n : Int32} {N : Nat} (hn0 : ¬ n < 0) (hN : n.toNatClampNeg = N) (hby : N * 4 ≤ 536870912)
    (hf : ∀ l j, l < Sh.1 → Sh.2.2 l j ≠ some Sh.1) (ho : (∀ q ∈ lv, q_old Sh.1 q.2) ∧ ∀ v ∈ st, q_old Sh.1 v) (hd : decode Y.2.1 pc = .ok (.anewarray i, 3))
    (kk : q_W Γ Y rc rs (q_nS Sh (.inr (t, N))) (q_nI I Sh.1) (pc + 3) lv (.ref Sh.1 :: st)) : q_W Γ Y (rc + 1) (rs + N) Sh I pc lv (.int n :: st) := by
  intro ad H locs cells slots ls h1 h2 hP hD hS hg hls
  have hts := B.2.2.2.2.1
  have hb := B.2.2.2.2.2.2.2.2.2.1
  refine va_newq B.1 B.2.1 B.2.2.2.1 (hts _ hcl) (B.2.2.2.2.2.2.2.2.1.2 C hal) B.2.2.2.2.2.2.1 hP hD hS B.2.2.2.2.2.2.2.1 hn0 hN hby (by omega) (by omega) hd (fun a cA H1 hK1 hP1 hD1 hS1 => ?_)
  have ec := q_arr_one B.2.2.2.2.2.2.1 ht hK1
  subst ec
  have e : q_ws (q_cA Γ) (fun x => if x = Sh.1 then a else ad x) (q_nS Sh (.inr (t, N))) (q_nI I Sh.1) = q_ws (q_cA Γ) ad Sh I ++ [(a, .inl (q_cA Γ t, (N, .inr (.inr (.inr (.inr (fun _ => none)))))))] := by
    have e1 : (fun j => Option.map (fun x => if x = Sh.1 then a else ad x) ((q_nS Sh (.inr (t, N))).2.2 Sh.1 j)) = fun _ => none := by funext k; simp [q_nS]
    rw [q_ws_new hf, q_E_arr (t := t) (n := N) (by simp [q_nS]), if_neg (q_tyq ht), e1]
  rw [← e] at hP1 hD1
  have k2 := kk (fun x => if x = Sh.1 then a else ad x) H1 locs (cells + 1) (slots + N) ls (by omega) (by omega) hP1 hD1 hS1 (q_grow_new hg) (by rw [← q_new_lv ho.1]; exact hls)
  rw [List.map_cons, ← q_new_st ho.2] at k2
  simp only [q_cv, if_true] at k2
  exact k2
theorem q_objInit (B : q_Ok Γ Y d) {i b : Nat} (hl : Cond.methodLink Y.1.cls i objectInit ∈ q_WS) (hin : Cond.instanceMethod objectInit ∈ q_WS) (hco : Cond.code objectInit ⟨#[0xb1]⟩ 1 none ∈ q_WS) (hdd : 1 ≤ d) (hsum : (st.map fun v => v.category).sum ≤ 8) (hd : decode Y.2.1 pc = .ok (.invokespecial i, 3))
    (kk : q_W Γ Y rc rs Sh I (pc + 3) lv st) : q_W Γ Y rc rs Sh I pc lv (.ref b :: st) := by
  intro ad H locs cells slots ls h1 h2 hP hD hS hg hls
  have hts := B.2.2.2.2.1
  obtain ⟨q1, q2⟩ := B.2.2.2.2.2.2.2.2.2.2.2
  have q3 := q_wsum ad st
  refine W.objInit B.1 B.2.1 B.2.2.2.1 (hts _ hl) (hts _ hin) (hts _ hco) rfl (by rw [B.2.2.1]; exact hls.1) rfl hd (by omega) ?_ (W.eq (g2 := F0 (q_m Γ) (pc + 3) ls (st.map (q_cv ad))) rfl (kk ad H locs cells slots ls h1 h2 hP hD hS hg hls))
  show 2 * 0 + _ + 12 ≤ _
  rw [q3]
  omega
theorem q_mmin (B : q_Ok Γ Y d) {i : Nat} {x y : Int32} (hl : Cond.methodLink Y.1.cls i Lib.Math.min.name ∈ q_WS) (hstt : Cond.static Lib.Math.min.name ∈ q_WS) (hini : Cond.initialized "java/lang/Math" ∈ q_WS) (hco : Cond.code Lib.Math.min.name Lib.Math.min.code 2 (some .int) ∈ q_WS) (hdd : 1 ≤ d) (hsum : (st.map fun v => v.category).sum ≤ 8) (hd : decode Y.2.1 pc = .ok (.invokestatic i, 3))
    (kk : q_W Γ Y rc rs Sh I (pc + 3) lv (.int (if y < x then y else x) :: st)) : q_W Γ Y rc rs Sh I pc lv (.int y :: .int x :: st) := by
  intro ad H locs cells slots ls h1 h2 hP hD hS hg hls
  have hts := B.2.2.2.2.1
  have hb := B.2.2.2.2.2.2.2.2.2.1
  obtain ⟨q1, q2⟩ := B.2.2.2.2.2.2.2.2.2.2.2
  exact va_mmin B.1 B.2.1 (by rw [B.2.2.1]; exact hls.1.symm) B.2.2.2.1 (hts _ hl) (hts _ hstt) (hts _ hini) (hts _ hco) (by omega) (by rw [q_wsum]; omega) (by omega) (by omega) hd (kk ad H locs cells slots ls h1 h2 hP hD hS hg hls)
theorem q_ldc2 (B : q_Ok Γ Y d) {i : Nat} {v : Int64} (hl : Cond.constantLong Y.1.cls i v ∈ q_WS) (hd : decode Y.2.1 pc = .ok (.ldc2_w i, 3)) (kk : q_W Γ Y rc rs Sh I (pc + 3) lv (.long v :: st)) : q_W Γ Y rc rs Sh I pc lv st := by
  intro ad H locs cells slots ls h1 h2 hP hD hS hg hls
  exact lv_ldc2 B.1 B.2.1 B.2.2.2.1 (B.2.2.2.2.1 _ hl) hd (kk ad H locs cells slots ls h1 h2 hP hD hS hg hls)
/-! a call whose answer and memory are known -/
def q_Rt (Y : q_Mth) (d : Nat) (args : List Value) (Sh : q_Sh) (I : q_Mem) (v : Option Value) (I' : q_Mem) : Prop := q_Call Y d 0 0 args Sh I (fun w Sh' I2 => w = v ∧ Sh' = Sh ∧ I2 = I')
theorem q_rtV (B : q_Ok Γ Y d) {Y' : q_Mth} {d' n i ci b : Nat} {As stk : List Value} {q : vw_C} {v : Option Value} {I' : q_Mem} (hM : q_Rt Y' d' (.ref b :: As) Sh I v I') (hV : q_Vm Y' n) (hin : Cond.instanceMethod Y'.1 ∈ q_WS) (hse : Cond.selects Y'.1.cls Y'.1 Y'.1 ∈ q_WS) (hl : Cond.methodLink Y.1.cls i Y'.1 ∈ q_WS) (hn : As.length = n) (hc : vwCl[ci]? = some q) (hq : q.1 = Y'.1.cls) (hb : q_is Sh b ci) (hdd : d' + 1 ≤ d)
    (hst : stk = As.reverse ++ .ref b :: st) (hsum : (st.map fun v => v.category).sum ≤ 8) (hd : decode Y.2.1 pc = .ok (.invokevirtual i, 3)) (kk : q_W Γ Y rc rs Sh I' (pc + 3) lv (v.toList ++ st)) : q_W Γ Y rc rs Sh I pc lv stk := by
  rw [hst]
  exact q_callV (mc := 0) (ms := 0) B hM hV hin hse hl hn hc hq hb hdd hsum hd (fun w Sh' I2 h => by obtain ⟨rfl, rfl, rfl⟩ := h; exact ⟨Or.inl rfl, kk⟩)
theorem q_rtS (B : q_Ok Γ Y d) {Y' : q_Mth} {d' n i : Nat} {As stk : List Value} {v : Option Value} {I' : q_Mem} (hM : q_Rt Y' d' As Sh I v I') (hV : q_Vm Y' n) (hin : Cond.static Y'.1 ∈ q_WS) (hl : Cond.methodLink Y.1.cls i Y'.1 ∈ q_WS) (hn : As.length = n) (hdd : d' + 1 ≤ d)
    (hst : stk = As.reverse ++ st) (hsum : (st.map fun v => v.category).sum ≤ 8) (hd : decode Y.2.1 pc = .ok (.invokestatic i, 3)) (kk : q_W Γ Y rc rs Sh I' (pc + 3) lv (v.toList ++ st)) : q_W Γ Y rc rs Sh I pc lv stk := by
  rw [hst]
  exact q_callS (mc := 0) (ms := 0) B hM hV hin hl hn hdd hsum hd (fun w Sh' I2 h => by obtain ⟨rfl, rfl, rfl⟩ := h; exact ⟨Or.inl rfl, kk⟩)
theorem q_rtSN (B : q_Ok Γ Y d) {Y' : q_Mth} {d' n i : Nat} {As stk : List Value} {v : Option Value} {I' : q_Mem} (hM : q_Rt Y' d' As Sh I v I') (hV : q_Vm Y' n) (hin : Cond.static Y'.1 ∈ q_WS) (hl : Cond.methodLinkNest Y.1.cls i Y'.1 RX6 ∈ q_nl) (hn : As.length = n) (hdd : d' + 1 ≤ d)
    (hst : stk = As.reverse ++ st) (hsum : (st.map fun v => v.category).sum ≤ 8) (hd : decode Y.2.1 pc = .ok (.invokestatic i, 3)) (kk : q_W Γ Y rc rs Sh I' (pc + 3) lv (v.toList ++ st)) : q_W Γ Y rc rs Sh I pc lv stk := by
  rw [hst]
  exact q_callSN (mc := 0) (ms := 0) B hM hV hin hl hn hdd hsum hd (fun w Sh' I2 h => by obtain ⟨rfl, rfl, rfl⟩ := h; exact ⟨Or.inl rfl, kk⟩)
/-- .. and one of which only a property is known -/
def q_Rp (Y : q_Mth) (d : Nat) (args : List Value) (Sh : q_Sh) (I : q_Mem) (K : Option Value → q_Mem → Prop) : Prop := q_Call Y d 0 0 args Sh I (fun w Sh' I2 => Sh' = Sh ∧ K w I2)
theorem q_rpV (B : q_Ok Γ Y d) {Y' : q_Mth} {d' n i ci b : Nat} {As stk : List Value} {q : vw_C} {K : Option Value → q_Mem → Prop} (hM : q_Rp Y' d' (.ref b :: As) Sh I K) (hV : q_Vm Y' n) (hin : Cond.instanceMethod Y'.1 ∈ q_WS) (hse : Cond.selects Y'.1.cls Y'.1 Y'.1 ∈ q_WS) (hl : Cond.methodLink Y.1.cls i Y'.1 ∈ q_WS) (hn : As.length = n) (hc : vwCl[ci]? = some q) (hq : q.1 = Y'.1.cls) (hb : q_is Sh b ci) (hdd : d' + 1 ≤ d)
    (hst : stk = As.reverse ++ .ref b :: st) (hsum : (st.map fun v => v.category).sum ≤ 8) (hd : decode Y.2.1 pc = .ok (.invokevirtual i, 3)) (kk : ∀ v I', K v I' → q_W Γ Y rc rs Sh I' (pc + 3) lv (v.toList ++ st)) : q_W Γ Y rc rs Sh I pc lv stk := by
  rw [hst]
  exact q_callV (mc := 0) (ms := 0) B hM hV hin hse hl hn hc hq hb hdd hsum hd (fun w Sh' I2 h => by obtain ⟨rfl, h⟩ := h; exact ⟨Or.inl rfl, kk _ _ h⟩)
theorem q_rt_rp {Y' : q_Mth} {d' : Nat} {args : List Value} {v : Option Value} {I' : q_Mem} (h : q_Rt Y' d' args Sh I v I') : q_Rp Y' d' args Sh I (fun w I2 => w = v ∧ I2 = I') := q_call_mono h (fun _ _ _ q => ⟨q.2.1, q.1, q.2.2⟩)
theorem q_rp_mono {Y' : q_Mth} {d' : Nat} {args : List Value} {K K' : Option Value → q_Mem → Prop} (h : q_Rp Y' d' args Sh I K) (hk : ∀ v I', K v I' → K' v I') : q_Rp Y' d' args Sh I K' := q_call_mono h (fun _ _ _ q => ⟨q.1, hk _ _ q.2⟩)
theorem q_rt_of {Y : q_Mth} {args : List Value} {v : Option Value} {I' : q_Mem} (hy : plainName Y.1.cls = true) (hn : (lg_sl args).length ≤ Y.2.2.1)
    (body : ∀ Γ : q_Cx, q_OkM Γ Y d (fun w Sh' I2 => w = v ∧ Sh' = Sh ∧ I2 = I') → q_W Γ Y 0 0 Sh I 0 (lv_args 0 args) []) : q_Rt Y d args Sh I v I' := q_call_of hy hn body
theorem q_rp_of {Y : q_Mth} {args : List Value} {K : Option Value → q_Mem → Prop} (hy : plainName Y.1.cls = true) (hn : (lg_sl args).length ≤ Y.2.2.1)
    (body : ∀ Γ : q_Cx, q_OkM Γ Y d (fun w Sh' I2 => Sh' = Sh ∧ K w I2) → q_W Γ Y 0 0 Sh I 0 (lv_args 0 args) []) : q_Rp Y d args Sh I K := q_call_of hy hn body
theorem q_rt_mono {Y' : q_Mth} {d' : Nat} {args : List Value} {v v' : Option Value} {I' I2 : q_Mem} (h : q_Rt Y' d' args Sh I v I') (e1 : v = v') (e2 : I' = I2) : q_Rt Y' d' args Sh I v' I2 := by subst e1; subst e2; exact h
theorem q_mem_eq {I2 : q_Mem} (h : I = I2) (k : q_W Γ Y rc rs Sh I2 pc lv st) : q_W Γ Y rc rs Sh I pc lv st := by rw [h]; exact k
theorem q_st_eq {st2 : List Value} (h : st = st2) (k : q_W Γ Y rc rs Sh I pc lv st2) : q_W Γ Y rc rs Sh I pc lv st := by rw [h]; exact k
/-- locals as they are asked for -/
theorem q_to {lv2 : List (Nat × Value)} {st2 : List Value} (he : ∀ q ∈ lv2, q_lk lv q.1 = some q.2) (hs : st = st2) (k : q_W Γ Y rc rs Sh I pc lv2 st2) : q_W Γ Y rc rs Sh I pc lv st := by
  subst hs
  exact q_lvto (List.all_eq_true.mpr fun q hq => by rw [he q hq]; rfl) he k
end QROWS2
/-! an array of the memory as a whole -/
def q_setA (I : q_Mem) (l : Nat) (f : Nat → Int32) : q_Mem := fun a => if a = l then f else I a
theorem q_setA_at (I : q_Mem) (l : Nat) (f : Nat → Int32) : q_setA I l f l = f := by simp [q_setA]
theorem q_setA_ne {I : q_Mem} {l m : Nat} {f : Nat → Int32} (h : m ≠ l) : q_setA I l f m = I m := by simp [q_setA, h]
theorem q_setA_setA (I : q_Mem) (l : Nat) (f g : Nat → Int32) : q_setA (q_setA I l f) l g = q_setA I l g := by
  funext a; by_cases h : a = l <;> simp [q_setA, h]
theorem q_setA_self (I : q_Mem) (l : Nat) : q_setA I l (I l) = I := by
  funext a; by_cases h : a = l <;> simp [q_setA, h]
theorem q_upI_setA (I : q_Mem) (l k : Nat) (v : Int32) : q_upI I l k v = q_setA I l (upd (I l) k v) := by
  funext a b; by_cases h : a = l <;> simp [q_setA, q_upI, upd, h]
theorem q_upd_at (f : Nat → Int32) (k : Nat) (v : Int32) : upd f k v k = v := by simp [upd]
theorem q_upd_ne {f : Nat → Int32} {k j : Nat} {v : Int32} (h : j ≠ k) : upd f k v j = f j := by simp [upd, h]
/-! numbers -/
theorem q_nI_mul (a b : Nat) : nI a * nI b = nI (a * b) := (Int32.ofNat_mul a b).symm
theorem q_nI_sub {a b : Nat} (h : b ≤ a) : nI a - nI b = nI (a - b) := by
  have e : nI a = nI (a - b) + nI b := by rw [nI_add, Nat.sub_add_cancel h]
  rw [e, Int32.add_sub_cancel]
def q_fold {α : Type} (f : Nat → α → α) : Nat → α → α
  | 0, a => a
  | n + 1, a => f n (q_fold f n a)
end
section
/-! rows as the walker lays them -/
def q_all (lv : List (Nat × Value)) : List (Nat × Value) → Prop
  | [] => True
  | (i, v) :: t => q_lk lv i = some v ∧ q_all lv t
theorem q_all_mem {lv l : List (Nat × Value)} (h : q_all lv l) : ∀ q ∈ l, q_lk lv q.1 = some q.2 := by
  induction l with
  | nil => intro q hq; cases hq
  | cons a t ih =>
    obtain ⟨i, v⟩ := a
    intro q hq
    rcases List.mem_cons.mp hq with rfl | hq
    · exact h.1
    · exact ih h.2 q hq
theorem q_ac {lv t : List (Nat × Value)} {i : Nat} {v : Value} (h : q_lk lv i = some v) (k : q_all lv t) : q_all lv ((i, v) :: t) := ⟨h, k⟩
theorem q_an {lv : List (Nat × Value)} : q_all lv [] := trivial
theorem q_inc1 (i : Nat) : nI i + Int32.ofInt 1 = nI (i + 1) := nI_1 i
section QROWS3
variable {K0 : Option Value → q_Sh → q_Mem → Prop} {Γ : q_Cx} {Y : q_Mth} {d rc rs : Nat} {Sh : q_Sh} {I : q_Mem} {pc : Nat} {lv : List (Nat × Value)} {st : List Value}
theorem q_tol {lv2 : List (Nat × Value)} {st2 : List Value} (he : q_all lv lv2) (hs : st = st2) (k : q_W Γ Y rc rs Sh I pc lv2 st2) : q_W Γ Y rc rs Sh I pc lv st := q_to (q_all_mem he) hs k
theorem q_tk {lv2 : List (Nat × Value)} {st2 : List Value} (k : q_W Γ Y rc rs Sh I pc lv2 st2) (hs : st = st2) (he : q_all lv lv2) : q_W Γ Y rc rs Sh I pc lv st := q_to (q_all_mem he) hs k
theorem q_tkm {lv2 : List (Nat × Value)} {st2 : List Value} {I2 : q_Mem} (k : q_W Γ Y rc rs Sh I2 pc lv2 st2) (hI : I = I2) (hs : st = st2) (he : q_all lv lv2) : q_W Γ Y rc rs Sh I pc lv st := by
  subst hI
  exact q_tk k hs he
theorem q_tom {lv2 : List (Nat × Value)} {st2 : List Value} {I2 : q_Mem} (he : q_all lv lv2) (hs : st = st2) (hI : I = I2) (k : q_W Γ Y rc rs Sh I2 pc lv2 st2) : q_W Γ Y rc rs Sh I pc lv st := by
  subst hI
  exact q_tol he hs k
theorem q_join (jp : Nat) (E : Int32) {pc : Nat} (k : q_W Γ Y rc rs Sh I jp lv (.int E :: st)) (f : q_W Γ Y rc rs Sh I jp lv (.int E :: st) → q_W Γ Y rc rs Sh I pc lv st) : q_W Γ Y rc rs Sh I pc lv st := f k
theorem q_top {x y : Int32} (e : x = y) (k : q_W Γ Y rc rs Sh I pc lv (.int y :: st)) : q_W Γ Y rc rs Sh I pc lv (.int x :: st) := by rw [e]; exact k
theorem q_iinc2 (B : q_Ok Γ Y d) {i : Nat} {n : Int} {x y : Int32} (hd : decode Y.2.1 pc = .ok (.iinc i n, 3)) (hx : q_lk lv i = some (.int x)) (e : x + Int32.ofInt n = y) (hn : i < Y.2.2.1) (hf : q_fr lv i = true) (k : q_W Γ Y rc rs Sh I (pc + 3) (q_set lv i (.int y)) st) : q_W Γ Y rc rs Sh I pc lv st := by
  subst e
  exact q_iinc B hd hx hn hf k
theorem q_getI2 (B : q_Ok Γ Y d) {C : String} {T : u_T} {N ci i k l : Nat} {v : Int32} (hC : q_Cl ci C T N) (hk : k < N) (hr : q_isR (q_ty ci k) = false) (hw : Cond.fieldLink Y.1.cls i (T k).1 (T k).2.1 (T k).2.2.1 ∈ q_WS) (hl : q_is Sh l ci) (e : I l k = v) (hd : decode Y.2.1 pc = .ok (.getfield i, 3))
    (kk : q_W Γ Y rc rs Sh I (pc + 3) lv (.int v :: st)) : q_W Γ Y rc rs Sh I pc lv (.ref l :: st) := by
  subst e
  exact q_getI B hC hk hr hw hl hd kk
theorem q_clamp {i : Int32} {n N : Nat} (e : i = nI n) (hlt : n < N) (hN : N < 2 ^ 31) : vp_in i N ∧ i.toNatClampNeg = n := by
  subst e
  exact ⟨vp_in_nI hlt hN, nI_clamp (by omega)⟩
theorem q_iald (B : q_Ok Γ Y d) {l n N : Nat} {i : Int32} (hl : q_ar Sh l 0 N) (e : i = nI n) (hlt : n < N) (hN : N < 2 ^ 31) (hd : decode Y.2.1 pc = .ok (.iaload, 1)) (kk : q_W Γ Y rc rs Sh I (pc + 1) lv (.int (I l n) :: st)) : q_W Γ Y rc rs Sh I pc lv (.int i :: .ref l :: st) := by
  obtain ⟨h1, h2⟩ := q_clamp e hlt hN
  exact q_ialoadI B hl h1 hd (by rw [h2]; exact kk)
theorem q_iald2 (B : q_Ok Γ Y d) {l n N : Nat} {i v : Int32} (hl : q_ar Sh l 0 N) (e : i = nI n) (hlt : n < N) (hN : N < 2 ^ 31) (ev : I l n = v) (hd : decode Y.2.1 pc = .ok (.iaload, 1)) (kk : q_W Γ Y rc rs Sh I (pc + 1) lv (.int v :: st)) : q_W Γ Y rc rs Sh I pc lv (.int i :: .ref l :: st) := by
  subst ev
  exact q_iald B hl e hlt hN hd kk
theorem q_zald (B : q_Ok Γ Y d) {l n N : Nat} {i : Int32} (hl : q_ar Sh l 1 N) (e : i = nI n) (hlt : n < N) (hN : N < 2 ^ 31) (hd : decode Y.2.1 pc = .ok (.baload, 1)) (kk : q_W Γ Y rc rs Sh I (pc + 1) lv (.int (I l n) :: st)) : q_W Γ Y rc rs Sh I pc lv (.int i :: .ref l :: st) := by
  obtain ⟨h1, h2⟩ := q_clamp e hlt hN
  exact q_zaload B hl h1 hd (by rw [h2]; exact kk)
theorem q_cald (B : q_Ok Γ Y d) {l n N : Nat} {i : Int32} (hl : q_ar Sh l 2 N) (e : i = nI n) (hlt : n < N) (hN : N < 2 ^ 31) (hd : decode Y.2.1 pc = .ok (.caload, 1)) (kk : q_W Γ Y rc rs Sh I (pc + 1) lv (.int (I l n) :: st)) : q_W Γ Y rc rs Sh I pc lv (.int i :: .ref l :: st) := by
  obtain ⟨h1, h2⟩ := q_clamp e hlt hN
  exact q_caload B hl h1 hd (by rw [h2]; exact kk)
theorem q_iast (B : q_Ok Γ Y d) {l n N : Nat} {i v : Int32} (hl : q_ar Sh l 0 N) (e : i = nI n) (hlt : n < N) (hN : N < 2 ^ 31) (hd : decode Y.2.1 pc = .ok (.iastore, 1)) (kk : q_W Γ Y rc rs Sh (q_setA I l (upd (I l) n v)) (pc + 1) lv st) : q_W Γ Y rc rs Sh I pc lv (.int v :: .int i :: .ref l :: st) := by
  obtain ⟨h1, h2⟩ := q_clamp e hlt hN
  exact q_iastore B hl h1 hd (by rw [h2, q_upI_setA]; exact kk)
theorem q_zast (B : q_Ok Γ Y d) {l n N : Nat} {i v : Int32} (hl : q_ar Sh l 1 N) (e : i = nI n) (hlt : n < N) (hN : N < 2 ^ 31) (hv : vp_nar .boolean v = v) (hd : decode Y.2.1 pc = .ok (.bastore, 1)) (kk : q_W Γ Y rc rs Sh (q_setA I l (upd (I l) n v)) (pc + 1) lv st) : q_W Γ Y rc rs Sh I pc lv (.int v :: .int i :: .ref l :: st) := by
  obtain ⟨h1, h2⟩ := q_clamp e hlt hN
  exact q_zastore B hl h1 hd (by rw [h2, hv, q_upI_setA]; exact kk)
theorem q_cast (B : q_Ok Γ Y d) {l n N : Nat} {i v : Int32} (hl : q_ar Sh l 2 N) (e : i = nI n) (hlt : n < N) (hN : N < 2 ^ 31) (hv : vp_nar .char v = v) (hd : decode Y.2.1 pc = .ok (.castore, 1)) (kk : q_W Γ Y rc rs Sh (q_setA I l (upd (I l) n v)) (pc + 1) lv st) : q_W Γ Y rc rs Sh I pc lv (.int v :: .int i :: .ref l :: st) := by
  obtain ⟨h1, h2⟩ := q_clamp e hlt hN
  exact q_castore B hl h1 hd (by rw [h2, hv, q_upI_setA]; exact kk)
theorem q_putI2 (B : q_Ok Γ Y d) {C : String} {T : u_T} {N ci i k l : Nat} {v : Int32} (hC : q_Cl ci C T N) (hk : k < N) (hr : q_isR (q_ty ci k) = false) (hw : Cond.fieldLink Y.1.cls i (T k).1 (T k).2.1 (T k).2.2.1 ∈ q_WS) (hfin : (T k).2.2.2 = false) (hnar : narrow (q_ty ci k) (.int v) = .int v) (hfit : fits (q_ty ci k) (.int v) = true) (hl : q_is Sh l ci) (hd : decode Y.2.1 pc = .ok (.putfield i, 3))
    (kk : q_W Γ Y rc rs Sh (q_setA I l (upd (I l) k v)) (pc + 3) lv st) : q_W Γ Y rc rs Sh I pc lv (.int v :: .ref l :: st) := q_putI B hC hk hr hw hfin hnar hfit hl hd (by rw [q_upI_setA]; exact kk)
theorem q_ialdS (B : q_Ok Γ Y d) {l n N : Nat} {i : Int32} {σ : Nat → Int32} (hl : q_ar Sh l 0 N) (e : i = nI n) (hlt : n < N) (hN : N < 2 ^ 31) (hd : decode Y.2.1 pc = .ok (.iaload, 1)) (kk : q_W Γ Y rc rs Sh (q_setA I l σ) (pc + 1) lv (.int (σ n) :: st)) : q_W Γ Y rc rs Sh (q_setA I l σ) pc lv (.int i :: .ref l :: st) :=
  q_iald2 B hl e hlt hN (by rw [q_setA_at]) hd kk
theorem q_ialdS2 (B : q_Ok Γ Y d) {l n N : Nat} {i v : Int32} {σ : Nat → Int32} (hl : q_ar Sh l 0 N) (e : i = nI n) (hlt : n < N) (hN : N < 2 ^ 31) (ev : σ n = v) (hd : decode Y.2.1 pc = .ok (.iaload, 1)) (kk : q_W Γ Y rc rs Sh (q_setA I l σ) (pc + 1) lv (.int v :: st)) : q_W Γ Y rc rs Sh (q_setA I l σ) pc lv (.int i :: .ref l :: st) :=
  q_iald2 B hl e hlt hN (by rw [q_setA_at]; exact ev) hd kk
theorem q_iastS (B : q_Ok Γ Y d) {l n N : Nat} {i v : Int32} {σ : Nat → Int32} (hl : q_ar Sh l 0 N) (e : i = nI n) (hlt : n < N) (hN : N < 2 ^ 31) (hd : decode Y.2.1 pc = .ok (.iastore, 1)) (kk : q_W Γ Y rc rs Sh (q_setA I l (upd σ n v)) (pc + 1) lv st) : q_W Γ Y rc rs Sh (q_setA I l σ) pc lv (.int v :: .int i :: .ref l :: st) :=
  q_iast B hl e hlt hN hd (by rw [q_setA_at, q_setA_setA]; exact kk)
end QROWS3
/-! comparing numbers below 2^31 -/
theorem q_le {a b : Nat} (h : a ≤ b) (hb : b < 2 ^ 31) : nI a ≤ nI b := nI_le h hb
theorem q_nle {a b : Nat} (h : b < a) (ha : a < 2 ^ 31) : ¬ nI a ≤ nI b := nI_ge h ha
theorem q_lt {a b : Nat} (h : a < b) (hb : b < 2 ^ 31) : nI a < nI b := nI_lt h hb
theorem q_nlt {a b : Nat} (h : b ≤ a) (ha : a < 2 ^ 31) : ¬ nI a < nI b := nI_nlt h ha
end
section
/-! what a state IS: the reference's row of numbers. Its steps, as functions -/
abbrev a_A : Type := Nat → Int32
def a_n (x : Int32) : Nat := x.toNatClampNeg
def a_T (σ : a_A) : Nat := a_n (σ 1)
def a_F (σ : a_A) : Nat := a_n (σ 2)
/-- the parts of a kind, as a mask -/
def a_pm : Nat → Nat
  | 0 => 7
  | 1 => 14
  | 2 => 28
  | 3 => 56
  | 4 => 112
  | _ => 224
def a_bit (m i : Nat) : Nat := m / 2 ^ i % 2
def a_low (m : Nat) : Nat := if a_bit m 0 = 1 then 0 else if a_bit m 1 = 1 then 1 else if a_bit m 2 = 1 then 2 else if a_bit m 3 = 1 then 3 else if a_bit m 4 = 1 then 4 else if a_bit m 5 = 1 then 5 else if a_bit m 6 = 1 then 6 else 7
theorem a_bit_i : ∀ m, m < 256 → ∀ i, i < 8 → (nI m >>> (nI i &&& 31)) &&& nI 1 = nI (a_bit m i) := by decide +kernel
theorem a_low_ok : ∀ m, m < 256 → m ≠ 0 → a_low m < 8 ∧ a_bit m (a_low m) = 1 ∧ ∀ j, j < a_low m → a_bit m j = 0 := by decide +kernel
theorem a_pm_i : ∀ k, k < 6 → ((nI 1 <<< (nI k &&& 31)) ||| (nI 1 <<< (((nI k + nI 1) - (nI k + nI 1) / nI 8 * nI 8) &&& 31))) ||| (nI 1 <<< (((nI k + nI 2) - (nI k + nI 2) / nI 8 * nI 8) &&& 31)) = nI (a_pm k) := by decide +kernel
def a_good (σ : a_A) (i : Nat) : Int32 := nI (a_pm (a_n (σ (57 + 7 * i)))) &&& (σ (57 + 7 * i + 1) ^^^ (-1))
def a_goes (σ : a_A) (p : Nat) : Int32 := if σ (3 + p) < nI 99 then 1 else 0
def a_strip1 (g : Int32) (p : Nat) (x : a_A × Int32) : a_A × Int32 :=
  if (g >>> (nI p &&& 31)) &&& nI 1 = nI 1 then (upd (upd x.1 (19 + p) (x.1 (19 + p) + 1)) (3 + p) (x.1 (3 + p) + a_goes x.1 p), x.2 + a_goes x.1 p) else x
def a_strips (σ : a_A) (i : Nat) : a_A × Int32 :=
  let r := q_fold (a_strip1 (a_good σ i)) 8 (σ, 0)
  (upd r.1 (57 + 7 * i + 4) (nI 3), r.2)
def a_isNext (σ : a_A) (kinds : Int32) (i : Nat) : Prop := σ (57 + 7 * i + 4) = 0 ∧ (kinds >>> (σ (57 + 7 * i) &&& 31)) &&& nI 1 = nI 1
def a_next1 (σ : a_A) (kinds : Int32) (i : Nat) (b : Int32) : Int32 :=
  if (σ (57 + 7 * i + 4) = 0 ∧ (kinds >>> (σ (57 + 7 * i) &&& 31)) &&& nI 1 = nI 1) ∧ (b = -6 ∨ σ (57 + 7 * i + 2) < σ (57 + 7 * a_n b + 2)) then nI i else b
def a_next (σ : a_A) (kinds : Int32) : Int32 := q_fold (a_next1 σ kinds) (a_T σ) (-6)
def a_first (P : Nat → Bool) : Nat → Nat → Int32
  | 0, _ => -6
  | n + 1, i => if P i = true then nI i else a_first P n (i + 1)
def a_fixerOf (σ : a_A) (x : Int32) : Int32 := a_first (fun f => decide (σ (27 + 6 * f + 2) = x + 1)) (a_F σ) 0
def a_givesUp (σ : a_A) (f i : Nat) : a_A :=
  let r := (a_strips σ i).1
  upd (upd r (27 + 6 * f + 4) (r (27 + 6 * f + 4) + 1)) (27 + 6 * f + 2) 0
def a_exch (σ : a_A) (i : Nat) : a_A × Int32 :=
  let p := a_low (a_n (σ (57 + 7 * i + 1)))
  if σ (3 + p) = 0 then (σ, 0) else
    let r := upd (upd σ (3 + p) (σ (3 + p) - 1)) (11 + p) (σ (11 + p) + 1)
    (upd (upd r (57 + 7 * i + 1) (σ (57 + 7 * i + 1) &&& ((nI 1 <<< (nI p &&& 31)) ^^^ (-1)))) (57 + 7 * i + 6) (σ (57 + 7 * i + 6) + 1), 1)
def a_test (σ : a_A) (i : Nat) (care : Int32) : a_A × Int32 :=
  let x := (σ 0 + care) + σ (57 + 7 * i)
  if x - x / nI 3 * nI 3 = 0 then
    (upd (upd σ (57 + 7 * i + 1) (σ (57 + 7 * i + 1) ||| (nI 1 <<< (σ (57 + 7 * i) &&& 31)))) (57 + 7 * i + 5) (σ (57 + 7 * i + 5) + 1), if σ (57 + 7 * i + 5) + 1 < nI 3 then 1 else 0)
  else (upd σ (57 + 7 * i + 3) (σ (57 + 7 * i + 3) &&& (σ (57 + 7 * i + 3) - 1)), 1)
def a_work1 (σ : a_A) (f i : Nat) : a_A × Int32 :=
  if σ (57 + 7 * i + 1) = 0 then (if σ (57 + 7 * i + 3) = 0 then (σ, 1) else a_test σ i (σ (27 + 6 * f + 1))) else a_exch σ i
def a_works (σ : a_A) (f : Nat) : a_A :=
  let i := a_n (σ (27 + 6 * f + 2)) - 1
  let s1 := upd σ (27 + 6 * f + 5) (σ (27 + 6 * f + 5) + 1)
  let r := a_work1 s1 f i
  if r.2 = 0 then a_givesUp r.1 f i
  else if r.1 (57 + 7 * i + 1) = 0 ∧ r.1 (57 + 7 * i + 3) = 0 then
    let s2 := upd r.1 (57 + 7 * i + 4) (nI 2)
    upd (upd s2 (27 + 6 * f + 3) (s2 (27 + 6 * f + 3) + 1)) (27 + 6 * f + 2) 0
  else r.1
def a_takes (σ : a_A) (f : Nat) : a_A :=
  let b := a_next σ (σ (27 + 6 * f))
  if b = -6 then σ else upd (upd σ (57 + 7 * a_n b + 4) (nI 1)) (27 + 6 * f + 2) (b + 1)
def a_min1 (f : Nat) (σ : a_A) : a_A := if σ (27 + 6 * f + 2) = 0 then a_takes σ f else σ
def a_min2 (f : Nat) (σ : a_A) : a_A := if 0 < σ (27 + 6 * f + 2) then a_works σ f else σ
def a_min3 (i : Nat) (σ : a_A) : a_A :=
  if σ (57 + 7 * i + 4) = 0 then upd (upd σ (57 + 7 * i + 2) (σ (57 + 7 * i + 2) - 1)) (57 + 7 * i + 4) (if σ (57 + 7 * i + 2) - 1 = 0 then nI 4 else 0) else σ
def a_minute (σ : a_A) : a_A :=
  let s1 := q_fold a_min1 (a_F σ) σ
  let s2 := q_fold a_min2 (a_F σ) s1
  let s3 := q_fold a_min3 (a_T σ) s2
  upd s3 0 (s3 0 + 1)
def a_how (σ : a_A) (h : Int32) : Int32 := q_fold (fun i (n : Int32) => n + (if σ (57 + 7 * i + 4) = h then 1 else 0)) (a_T σ) 0
def a_minutes (n : Nat) (σ : a_A) : a_A := q_fold (fun _ s => a_minute s) n σ
def a_comes (σ : a_A) (k b p t : Int32) : a_A :=
  let i := a_T σ
  upd (upd (upd (upd (upd (upd (upd (upd σ 1 (σ 1 + 1)) (57 + 7 * i) k) (57 + 7 * i + 1) b) (57 + 7 * i + 2) p) (57 + 7 * i + 3) t) (57 + 7 * i + 4) 0) (57 + 7 * i + 5) 0) (57 + 7 * i + 6) 0
def a_comesF (σ : a_A) (k c : Int32) : a_A :=
  let f := a_F σ
  let z := q_fold (fun j (s : a_A) => upd s (27 + 6 * f + j) 0) 6 σ
  let w := upd (upd z (27 + 6 * f) k) (27 + 6 * f + 1) c
  upd w 2 (w 2 + 1)
def a_place (σ : a_A) (t : Nat) : Int32 :=
  if σ (57 + 7 * t + 4) = 0 then q_fold (fun i (n : Int32) => n + (if σ (57 + 7 * i + 4) = 0 ∧ (0 < σ (57 + 7 * t + 2) - σ (57 + 7 * i + 2) ∨ (σ (57 + 7 * t + 2) - σ (57 + 7 * i + 2) = 0 ∧ i < t)) then 1 else 0)) (a_T σ) 0 else -6
def a_broken (σ : a_A) (p : Int32) : Int32 := q_fold (fun i (n : Int32) => n + (if σ (57 + 7 * i + 4) < nI 2 then (σ (57 + 7 * i + 1) >>> (p &&& 31)) &&& nI 1 else 0)) (a_T σ) 0
/-! numbers that a call refuses -/
def a_refT (σ : a_A) (k b p t : Int32) : Int32 :=
  if ¬ (nI 0 ≤ k ∧ k ≤ nI 5) then -1 else if (b &&& (nI (a_pm (a_n k)) ^^^ (-1)) ≠ 0 ∨ ¬ (nI 1 ≤ p ∧ p ≤ nI 99)) ∨ ¬ (nI 0 ≤ t ∧ t ≤ nI 7) then -2 else if σ 1 = nI 30 then -4 else 0
def a_refF (σ : a_A) (k c : Int32) : Int32 := if ¬ (nI 1 ≤ k ∧ k ≤ nI 63) ∨ ¬ (nI 0 ≤ c ∧ c ≤ nI 9) then -2 else if σ 2 = nI 5 then -4 else 0
def a_refD (p m : Int32) : Int32 := if ¬ (nI 0 ≤ p ∧ p ≤ nI 7) then -1 else if nI 0 ≤ m ∧ m ≤ nI 99 then 0 else -2
def a_refP (σ : a_A) (m : Int32) : Int32 := if ¬ (nI 1 ≤ m ∧ m ≤ nI 99) then -2 else if nI 9999 < σ 0 + m then -5 else 0
def a_scar1 (σ : a_A) (p : Nat) (x : Int32 × Int32) : Int32 × Int32 :=
  (if x.2 < a_broken σ (nI p) - σ (3 + p) then nI p else x.1, if x.2 < a_broken σ (nI p) - σ (3 + p) then a_broken σ (nI p) - σ (3 + p) else x.2)
def a_scar (σ : a_A) : Int32 := (q_fold (a_scar1 σ) 8 (-6, 0)).1
theorem a_in06 {k a b : Int32} {n : Nat} (ha : a = nI 0) (hb : b = nI n) (hn : n < 2 ^ 31) (h : a ≤ k ∧ k ≤ b) : ∃ j, j ≤ n ∧ k = nI j := by
  subst ha; subst hb
  refine nI_of2 (M := nI n) (nI_toInt hn) ?_ h.2
  rw [← nI_0]
  exact Int32.not_lt.mpr h.1
/-! what holds of every state -/
def a_wf (σ : a_A) : Prop :=
  (σ 1 = nI (a_T σ) ∧ a_T σ ≤ 30) ∧ (σ 2 = nI (a_F σ) ∧ a_F σ ≤ 5) ∧
  (∀ i, i < a_T σ → ∃ k, k < 6 ∧ σ (57 + 7 * i) = nI k) ∧
  (∀ i, i < a_T σ → ∃ m, m < 256 ∧ σ (57 + 7 * i + 1) = nI m) ∧
  (∀ i, i < a_T σ → ∃ h, h ≤ 4 ∧ σ (57 + 7 * i + 4) = nI h) ∧
  (∀ i, i < a_T σ → σ (57 + 7 * i + 4) = 0 → ∃ p, 1 ≤ p ∧ p ≤ 99 ∧ σ (57 + 7 * i + 2) = nI p) ∧
  (∀ f, f < a_F σ → ∃ h, h ≤ a_T σ ∧ σ (27 + 6 * f + 2) = nI h ∧ ∀ i, h = i + 1 → σ (57 + 7 * i + 4) = nI 1) ∧
  (∀ f g, f < a_F σ → g < a_F σ → σ (27 + 6 * f + 2) = σ (27 + 6 * g + 2) → σ (27 + 6 * f + 2) ≠ 0 → f = g) ∧
  (∀ p, p < 8 → ∃ s, s ≤ 99 ∧ σ (3 + p) = nI s)
end
section
/-! the reference: its object at o, its arrays behind it, in the order of making -/
def mOk (Sh : q_Sh) (o : Nat) : Prop := q_is Sh o 7 ∧ (Sh.2.2 o 1 = some (o + 1) ∧ q_ar Sh (o + 1) 0 267) ∧ (Sh.2.2 o 2 = some (o + 2) ∧ q_ar Sh (o + 2) 0 267) ∧ (Sh.2.2 o 3 = some (o + 3) ∧ q_ar Sh (o + 3) 0 1602) ∧ (Sh.2.2 o 5 = some (o + 4) ∧ q_ar Sh (o + 4) 0 534) ∧ (Sh.2.2 o 6 = some (o + 5) ∧ q_ar Sh (o + 5) 1 2) ∧ (Sh.2.2 o 7 = some (o + 6) ∧ q_ar Sh (o + 6) 0 80) ∧ (Sh.2.2 o 11 = some (o + 7) ∧ q_ar Sh (o + 7) 0 240)
theorem mR_s {Sh : q_Sh} {o : Nat} (h : mOk Sh o) : Sh.2.2 o 1 = some (o + 1) := h.2.1.1
theorem mA_s {Sh : q_Sh} {o : Nat} (h : mOk Sh o) : q_ar Sh (o + 1) 0 267 := h.2.1.2
theorem mR_aside {Sh : q_Sh} {o : Nat} (h : mOk Sh o) : Sh.2.2 o 2 = some (o + 2) := h.2.2.1.1
theorem mA_aside {Sh : q_Sh} {o : Nat} (h : mOk Sh o) : q_ar Sh (o + 2) 0 267 := h.2.2.1.2
theorem mR_undos {Sh : q_Sh} {o : Nat} (h : mOk Sh o) : Sh.2.2 o 3 = some (o + 3) := h.2.2.2.1.1
theorem mA_undos {Sh : q_Sh} {o : Nat} (h : mOk Sh o) : q_ar Sh (o + 3) 0 1602 := h.2.2.2.1.2
theorem mR_slots {Sh : q_Sh} {o : Nat} (h : mOk Sh o) : Sh.2.2 o 5 = some (o + 4) := h.2.2.2.2.1.1
theorem mA_slots {Sh : q_Sh} {o : Nat} (h : mOk Sh o) : q_ar Sh (o + 4) 0 534 := h.2.2.2.2.1.2
theorem mR_hasSlot {Sh : q_Sh} {o : Nat} (h : mOk Sh o) : Sh.2.2 o 6 = some (o + 5) := h.2.2.2.2.2.1.1
theorem mA_hasSlot {Sh : q_Sh} {o : Nat} (h : mOk Sh o) : q_ar Sh (o + 5) 1 2 := h.2.2.2.2.2.1.2
theorem mR_pad {Sh : q_Sh} {o : Nat} (h : mOk Sh o) : Sh.2.2 o 7 = some (o + 6) := h.2.2.2.2.2.2.1.1
theorem mA_pad {Sh : q_Sh} {o : Nat} (h : mOk Sh o) : q_ar Sh (o + 6) 0 80 := h.2.2.2.2.2.2.1.2
theorem mR_orders {Sh : q_Sh} {o : Nat} (h : mOk Sh o) : Sh.2.2 o 11 = some (o + 7) := h.2.2.2.2.2.2.2.1
theorem mA_orders {Sh : q_Sh} {o : Nat} (h : mOk Sh o) : q_ar Sh (o + 7) 0 240 := h.2.2.2.2.2.2.2.2
theorem q_ofT {σ : a_A} (h : σ 1 = nI (a_T σ)) : σ 1 = nI (a_T σ) := h
set_option maxRecDepth 100000 in
set_option maxHeartbeats 4000000 in
theorem s_in {Sh : q_Sh} {I : q_Mem} {v a b : Int32} : q_Rt mX7_in 0 [.int v, .int a, .int b] Sh (I) (some (.int (if a ≤ v ∧ v ≤ b then 1 else 0))) (I) := by
  refine q_rt_of (by decide) (Nat.le_of_ble_eq_true rfl) fun Γ BM => ?_
  have B := BM.1
  show q_W Γ mX7_in 0 0 Sh (I) 0 [(0, .int v), (1, .int a), (2, .int b)] []
  refine q_join 15 ((if a ≤ v ∧ v ≤ b then 1 else 0)) ?_ (fun j_0 => ?_)
  · skip
    exact q_zret BM rfl (by split <;> simp) dX7_in_15 ⟨rfl, rfl, rfl⟩
  · skip
    refine q_iload_n B dX7_in_0 rfl rfl ?_
    refine q_iload_n B dX7_in_1 rfl rfl ?_
    refine q_icmp_lt (tgt := 14) B dX7_in_2 (by decide) (fun c_2 => ?_) (fun c_2 => ?_)
    · skip
      refine q_iconst (v := 0) B dX7_in_14 rfl ?_
      exact q_top (by first | (rw [if_pos ⟨Int32.not_lt.mp c_2, Int32.not_lt.mp c_7⟩]; done) | (rw [if_neg (fun h => absurd h.1 (Int32.not_le.mpr c_2))]; done) | (rw [if_neg (fun h => absurd h.2 (Int32.not_le.mpr c_7))]; done)) j_0
    · skip
      refine q_iload_n B dX7_in_5 rfl rfl ?_
      refine q_iload_n B dX7_in_6 rfl rfl ?_
      refine q_icmp_gt (tgt := 14) B dX7_in_7 (by decide) (fun c_7 => ?_) (fun c_7 => ?_)
      · skip
        refine q_iconst (v := 0) B dX7_in_14 rfl ?_
        exact q_top (by first | (rw [if_pos ⟨Int32.not_lt.mp c_2, Int32.not_lt.mp c_7⟩]; done) | (rw [if_neg (fun h => absurd h.1 (Int32.not_le.mpr c_2))]; done) | (rw [if_neg (fun h => absurd h.2 (Int32.not_le.mpr c_7))]; done)) j_0
      · skip
        refine q_iconst (v := 1) B dX7_in_10 rfl ?_
        refine q_goto (tgt := 15) B dX7_in_11 (by decide) ?_
        exact q_top (by first | (rw [if_pos ⟨Int32.not_lt.mp c_2, Int32.not_lt.mp c_7⟩]; done) | (rw [if_neg (fun h => absurd h.1 (Int32.not_le.mpr c_2))]; done) | (rw [if_neg (fun h => absurd h.2 (Int32.not_le.mpr c_7))]; done)) j_0
set_option maxRecDepth 100000 in
set_option maxHeartbeats 4000000 in
theorem s_of {Sh : q_Sh} {I : q_Mem} {σ : a_A} {o : Nat} (hm : mOk Sh o) {i k : Nat} (hi : i < 30) (hk : k < 7) : q_Rt mX7_of 0 [.ref o, .int (nI i), .int (nI k)] Sh (q_setA I (o + 1) σ) (some (.int (σ (57 + 7 * i + k)))) (q_setA I (o + 1) σ) := by
  refine q_rt_of (by decide) (Nat.le_of_ble_eq_true rfl) fun Γ BM => ?_
  have B := BM.1
  show q_W Γ mX7_of 0 0 Sh (q_setA I (o + 1) σ) 0 [(0, .ref o), (1, .int (nI i)), (2, .int (nI k))] []
  refine q_aload_n B dX7_of_0 rfl rfl ?_
  refine q_getR B kC_X7 (k := 1) (by decide) rfl kf_X7_7 hm.1 (mR_s hm) dX7_of_1 ?_
  refine q_bipush (v := nI 57) B dX7_of_4 rfl ?_
  refine q_bipush (v := nI 7) B dX7_of_6 rfl ?_
  refine q_iload_n B dX7_of_8 rfl rfl ?_
  refine q_imul B dX7_of_9 ?_
  refine q_iadd B dX7_of_10 ?_
  refine q_iload_n B dX7_of_11 rfl rfl ?_
  refine q_iadd B dX7_of_12 ?_
  refine q_ialdS (n := 57 + 7 * i + k) B (mA_s hm) (by simp only [nI_add, q_nI_mul]) (by omega) (by decide) dX7_of_13 ?_
  exact q_iret BM rfl dX7_of_14 ⟨rfl, rfl, rfl⟩
theorem s_of_0 {Sh : q_Sh} {I : q_Mem} {σ : a_A} {o : Nat} (hm : mOk Sh o) {i : Nat} (hi : i < 30) : q_Rt mX7_of 0 [.ref o, .int (nI i), .int (nI 0)] Sh (q_setA I (o + 1) σ) (some (.int (σ (57 + 7 * i)))) (q_setA I (o + 1) σ) := s_of hm hi (by decide)
set_option maxRecDepth 100000 in
set_option maxHeartbeats 4000000 in
theorem s_fixer0 {Sh : q_Sh} {I : q_Mem} {σ : a_A} {o : Nat} (hm : mOk Sh o) {i k : Nat} (hi : i < 5) (hk : k < 6) : q_Rt mX7_fixer0 0 [.ref o, .int (nI i), .int (nI k)] Sh (q_setA I (o + 1) σ) (some (.int (σ (27 + 6 * i + k)))) (q_setA I (o + 1) σ) := by
  refine q_rt_of (by decide) (Nat.le_of_ble_eq_true rfl) fun Γ BM => ?_
  have B := BM.1
  show q_W Γ mX7_fixer0 0 0 Sh (q_setA I (o + 1) σ) 0 [(0, .ref o), (1, .int (nI i)), (2, .int (nI k))] []
  refine q_aload_n B dX7_fixer0_0 rfl rfl ?_
  refine q_getR B kC_X7 (k := 1) (by decide) rfl kf_X7_7 hm.1 (mR_s hm) dX7_fixer0_1 ?_
  refine q_bipush (v := nI 27) B dX7_fixer0_4 rfl ?_
  refine q_bipush (v := nI 6) B dX7_fixer0_6 rfl ?_
  refine q_iload_n B dX7_fixer0_8 rfl rfl ?_
  refine q_imul B dX7_fixer0_9 ?_
  refine q_iadd B dX7_fixer0_10 ?_
  refine q_iload_n B dX7_fixer0_11 rfl rfl ?_
  refine q_iadd B dX7_fixer0_12 ?_
  refine q_ialdS (n := 27 + 6 * i + k) B (mA_s hm) (by simp only [nI_add, q_nI_mul]) (by omega) (by decide) dX7_fixer0_13 ?_
  exact q_iret BM rfl dX7_fixer0_14 ⟨rfl, rfl, rfl⟩
theorem s_fixer0_0 {Sh : q_Sh} {I : q_Mem} {σ : a_A} {o : Nat} (hm : mOk Sh o) {i : Nat} (hi : i < 5) : q_Rt mX7_fixer0 0 [.ref o, .int (nI i), .int (nI 0)] Sh (q_setA I (o + 1) σ) (some (.int (σ (27 + 6 * i)))) (q_setA I (o + 1) σ) := s_fixer0 hm hi (by decide)
set_option maxRecDepth 100000 in
set_option maxHeartbeats 4000000 in
theorem s_lay {Sh : q_Sh} {I : q_Mem} {σ : a_A} {o : Nat} (hm : mOk Sh o) {i k : Nat} {v : Int32} (hi : i < 30) (hk : k < 7) : q_Rt mX7_lay 0 [.ref o, .int (nI i), .int (nI k), .int v] Sh (q_setA I (o + 1) σ) (none) (q_setA I (o + 1) (upd σ (57 + 7 * i + k) v)) := by
  refine q_rt_of (by decide) (Nat.le_of_ble_eq_true rfl) fun Γ BM => ?_
  have B := BM.1
  show q_W Γ mX7_lay 0 0 Sh (q_setA I (o + 1) σ) 0 [(0, .ref o), (1, .int (nI i)), (2, .int (nI k)), (3, .int v)] []
  refine q_aload_n B dX7_lay_0 rfl rfl ?_
  refine q_getR B kC_X7 (k := 1) (by decide) rfl kf_X7_7 hm.1 (mR_s hm) dX7_lay_1 ?_
  refine q_bipush (v := nI 57) B dX7_lay_4 rfl ?_
  refine q_bipush (v := nI 7) B dX7_lay_6 rfl ?_
  refine q_iload_n B dX7_lay_8 rfl rfl ?_
  refine q_imul B dX7_lay_9 ?_
  refine q_iadd B dX7_lay_10 ?_
  refine q_iload_n B dX7_lay_11 rfl rfl ?_
  refine q_iadd B dX7_lay_12 ?_
  refine q_iload_n B dX7_lay_13 rfl rfl ?_
  refine q_iastS (n := 57 + 7 * i + k) B (mA_s hm) (by simp only [nI_add, q_nI_mul]) (by omega) (by decide) dX7_lay_14 ?_
  exact q_vret BM rfl dX7_lay_15 ⟨rfl, rfl, rfl⟩
theorem s_lay_0 {Sh : q_Sh} {I : q_Mem} {σ : a_A} {o : Nat} (hm : mOk Sh o) {i : Nat} {v : Int32} (hi : i < 30) : q_Rt mX7_lay 0 [.ref o, .int (nI i), .int (nI 0), .int v] Sh (q_setA I (o + 1) σ) none (q_setA I (o + 1) (upd σ (57 + 7 * i) v)) := s_lay hm hi (by decide)
set_option maxRecDepth 100000 in
set_option maxHeartbeats 4000000 in
theorem s_more {Sh : q_Sh} {I : q_Mem} {σ : a_A} {o : Nat} (hm : mOk Sh o) {i k : Nat} (hi : i < 5) (hk : k < 6) : q_Rt mX7_more 0 [.ref o, .int (nI i), .int (nI k)] Sh (q_setA I (o + 1) σ) (none) (q_setA I (o + 1) (upd σ (27 + 6 * i + k) (σ (27 + 6 * i + k) + 1))) := by
  refine q_rt_of (by decide) (Nat.le_of_ble_eq_true rfl) fun Γ BM => ?_
  have B := BM.1
  show q_W Γ mX7_more 0 0 Sh (q_setA I (o + 1) σ) 0 [(0, .ref o), (1, .int (nI i)), (2, .int (nI k))] []
  refine q_aload_n B dX7_more_0 rfl rfl ?_
  refine q_getR B kC_X7 (k := 1) (by decide) rfl kf_X7_7 hm.1 (mR_s hm) dX7_more_1 ?_
  refine q_bipush (v := nI 27) B dX7_more_4 rfl ?_
  refine q_bipush (v := nI 6) B dX7_more_6 rfl ?_
  refine q_iload_n B dX7_more_8 rfl rfl ?_
  refine q_imul B dX7_more_9 ?_
  refine q_iadd B dX7_more_10 ?_
  refine q_iload_n B dX7_more_11 rfl rfl ?_
  refine q_iadd B dX7_more_12 ?_
  refine q_dup2 B dX7_more_13 rfl rfl ?_
  refine q_ialdS (n := 27 + 6 * i + k) B (mA_s hm) (by simp only [nI_add, q_nI_mul]) (by omega) (by decide) dX7_more_14 ?_
  refine q_iconst (v := 1) B dX7_more_15 rfl ?_
  refine q_iadd B dX7_more_16 ?_
  refine q_iastS (n := 27 + 6 * i + k) B (mA_s hm) (by simp only [nI_add, q_nI_mul]) (by omega) (by decide) dX7_more_17 ?_
  exact q_vret BM rfl dX7_more_18 ⟨rfl, rfl, rfl⟩
set_option maxRecDepth 100000 in
set_option maxHeartbeats 4000000 in
theorem s_frees {Sh : q_Sh} {I : q_Mem} {σ : a_A} {o : Nat} (hm : mOk Sh o) {i : Nat} (hi : i < 5) : q_Rt mX7_frees 0 [.ref o, .int (nI i)] Sh (q_setA I (o + 1) σ) (none) (q_setA I (o + 1) (upd σ (27 + 6 * i + 2) 0)) := by
  refine q_rt_of (by decide) (Nat.le_of_ble_eq_true rfl) fun Γ BM => ?_
  have B := BM.1
  show q_W Γ mX7_frees 0 0 Sh (q_setA I (o + 1) σ) 0 [(0, .ref o), (1, .int (nI i))] []
  refine q_aload_n B dX7_frees_0 rfl rfl ?_
  refine q_getR B kC_X7 (k := 1) (by decide) rfl kf_X7_7 hm.1 (mR_s hm) dX7_frees_1 ?_
  refine q_bipush (v := nI 27) B dX7_frees_4 rfl ?_
  refine q_bipush (v := nI 6) B dX7_frees_6 rfl ?_
  refine q_iload_n B dX7_frees_8 rfl rfl ?_
  refine q_imul B dX7_frees_9 ?_
  refine q_iadd B dX7_frees_10 ?_
  refine q_iconst (v := nI 2) B dX7_frees_11 rfl ?_
  refine q_iadd B dX7_frees_12 ?_
  refine q_iconst (v := 0) B dX7_frees_13 rfl ?_
  refine q_iastS (n := 27 + 6 * i + 2) B (mA_s hm) (by simp only [nI_add, q_nI_mul]) (by omega) (by decide) dX7_frees_14 ?_
  exact q_vret BM rfl dX7_frees_15 ⟨rfl, rfl, rfl⟩
set_option maxRecDepth 100000 in
set_option maxHeartbeats 4000000 in
theorem s_partsOf {Sh : q_Sh} {I : q_Mem} {k : Nat} (hk : k < 6) : q_Rt mX7_partsOf 0 [.int (nI k)] Sh (I) (some (.int (nI (a_pm k)))) (I) := by
  refine q_rt_of (by decide) (Nat.le_of_ble_eq_true rfl) fun Γ BM => ?_
  have B := BM.1
  show q_W Γ mX7_partsOf 0 0 Sh (I) 0 [(0, .int (nI k))] []
  refine q_iconst (v := nI 1) B dX7_partsOf_0 rfl ?_
  refine q_iload_n B dX7_partsOf_1 rfl rfl ?_
  refine q_ishl B dX7_partsOf_2 ?_
  refine q_iconst (v := nI 1) B dX7_partsOf_3 rfl ?_
  refine q_iload_n B dX7_partsOf_4 rfl rfl ?_
  refine q_iconst (v := nI 1) B dX7_partsOf_5 rfl ?_
  refine q_iadd B dX7_partsOf_6 ?_
  refine q_bipush (v := nI 8) B dX7_partsOf_7 rfl ?_
  refine q_irem B dX7_partsOf_9 (by decide +kernel) ?_
  refine q_ishl B dX7_partsOf_10 ?_
  refine q_ior B dX7_partsOf_11 ?_
  refine q_iconst (v := nI 1) B dX7_partsOf_12 rfl ?_
  refine q_iload_n B dX7_partsOf_13 rfl rfl ?_
  refine q_iconst (v := nI 2) B dX7_partsOf_14 rfl ?_
  refine q_iadd B dX7_partsOf_15 ?_
  refine q_bipush (v := nI 8) B dX7_partsOf_16 rfl ?_
  refine q_irem B dX7_partsOf_18 (by decide +kernel) ?_
  refine q_ishl B dX7_partsOf_19 ?_
  refine q_ior B dX7_partsOf_20 ?_
  exact q_iret BM rfl dX7_partsOf_21 ⟨by rw [a_pm_i k hk], rfl, rfl⟩
set_option maxRecDepth 100000 in
set_option maxHeartbeats 4000000 in
theorem s_lowest {Sh : q_Sh} {I : q_Mem} {m : Nat} (hm0 : m < 256) (hmz : m ≠ 0) : q_Rt mX7_lowest 0 [.int (nI m)] Sh (I) (some (.int (nI (a_low m)))) (I) := by
  refine q_rt_of (by decide) (Nat.le_of_ble_eq_true rfl) fun Γ BM => ?_
  have B := BM.1
  obtain ⟨hl1, hl2, hl3⟩ := a_low_ok m hm0 hmz
  show q_W Γ mX7_lowest 0 0 Sh (I) 0 [(0, .int (nI m))] []
  refine q_iconst (v := nI 0) B dX7_lowest_0 rfl ?_
  refine q_istore_n B dX7_lowest_1 rfl (Nat.le_of_ble_eq_true rfl) rfl ?_
  have hl_2 : ∀ (n i : Nat) , i + n = a_low m → q_W Γ mX7_lowest 0 0 Sh I 2 [(0, .int (nI m)), (1, .int (nI i))] [] := by
    intro n
    induction n with
    | zero =>
      intro i  hin
      have hi : i = a_low m := by omega
      subst hi
      refine q_iload_n B dX7_lowest_2 rfl rfl ?_
      refine q_iload_n B dX7_lowest_3 rfl rfl ?_
      refine q_ishr B dX7_lowest_4 ?_
      refine q_iconst (v := nI 1) B dX7_lowest_5 rfl ?_
      refine q_iand B dX7_lowest_6 ?_
      refine q_if_ne (tgt := 16) B dX7_lowest_7 (by decide) (fun _ => ?_) (fun h => absurd h ((by rw [a_bit_i m hm0 _ hl1, hl2]; decide)))
      refine q_iload_n B dX7_lowest_16 rfl rfl ?_
      exact q_iret BM rfl dX7_lowest_17 ⟨rfl, rfl, rfl⟩
    | succ n ih =>
      intro i  hin
      have hiN : i < a_low m := by omega
      refine q_iload_n B dX7_lowest_2 rfl rfl ?_
      refine q_iload_n B dX7_lowest_3 rfl rfl ?_
      refine q_ishr B dX7_lowest_4 ?_
      refine q_iconst (v := nI 1) B dX7_lowest_5 rfl ?_
      refine q_iand B dX7_lowest_6 ?_
      refine q_if_ne (tgt := 16) B dX7_lowest_7 (by decide) (fun h => absurd ((by rw [a_bit_i m hm0 i (by omega), hl3 i hiN]; rfl)) h) (fun _ => ?_)
      refine q_iinc2 (y := nI (i + 1)) B dX7_lowest_10 rfl (q_inc1 _) (Nat.le_of_ble_eq_true rfl) rfl ?_
      refine q_goto (tgt := 2) B dX7_lowest_13 (by decide) ?_
      exact q_tk (ih (i + 1) (by omega)) rfl (q_ac rfl (q_ac rfl q_an))
  exact q_tk (hl_2 (a_low m) 0  (by omega)) rfl (q_ac rfl (q_ac rfl q_an))
end
section
theorem a_b0 {P : Prop} {h : Decidable P} : ((@ite Int32 P h 1 0) = 0) → ¬ P := by
  intro q hp
  rw [if_pos hp] at q
  exact absurd q (by decide)
theorem a_b1 {P : Prop} {h : Decidable P} : ¬ ((@ite Int32 P h 1 0) = 0) → P := by
  intro q
  by_cases hp : P
  · exact hp
  · exact absurd (if_neg hp) q
theorem a_goes_1 {σ : a_A} {p : Nat} (h : ¬ a_goes σ p = 0) : a_goes σ p = 1 := by
  unfold a_goes at h ⊢
  rw [if_pos (a_b1 h)]
theorem a_next1_in {σ : a_A} {kinds b : Int32} {i : Nat} (hi : i < 30) (h : b = -6 ∨ ∃ j, j < 30 ∧ b = nI j) : a_next1 σ kinds i b = -6 ∨ ∃ j, j < 30 ∧ a_next1 σ kinds i b = nI j := by
  unfold a_next1
  split
  · exact Or.inr ⟨i, hi, rfl⟩
  · exact h
set_option maxRecDepth 100000 in
set_option maxHeartbeats 4000000 in
theorem s_strips {Sh : q_Sh} {I : q_Mem} {σ : a_A} {o : Nat} (hm : mOk Sh o) {t k : Nat} (ht : t < 30) (hk : k < 6) (hkd : σ (57 + 7 * t) = nI k) : q_Rt mX7_strips 1 [.ref o, .int (nI t)] Sh (q_setA I (o + 1) σ) (some (.int (a_strips σ t).2)) (q_setA I (o + 1) (a_strips σ t).1) := by
  refine q_rt_of (by decide) (Nat.le_of_ble_eq_true rfl) fun Γ BM => ?_
  have B := BM.1
  have hk2 : a_n (σ (57 + 7 * t)) = k := by rw [hkd]; exact nI_clamp (by omega)
  show q_W Γ mX7_strips 0 0 Sh (q_setA I (o + 1) σ) 0 [(0, .ref o), (1, .int (nI t))] []
  refine q_aload_n B dX7_strips_0 rfl rfl ?_
  refine q_iload_n B dX7_strips_1 rfl rfl ?_
  refine q_iconst (v := nI 0) B dX7_strips_2 rfl ?_
  refine q_rtV B (s_of_0 hm ht) kv_yX7_of ki_yX7_of ks_yX7_of km_X7_39 rfl (ci := 7) rfl rfl hm.1 (by decide) rfl (Nat.le_of_ble_eq_true rfl) dX7_strips_3 ?_
  refine q_top hkd ?_
  refine q_rtS B (s_partsOf hk) kv_yX7_partsOf kt_yX7_partsOf km_X7_43 rfl (by decide) rfl (Nat.le_of_ble_eq_true rfl) dX7_strips_6 ?_
  refine q_aload_n B dX7_strips_9 rfl rfl ?_
  refine q_iload_n B dX7_strips_10 rfl rfl ?_
  refine q_iconst (v := nI 1) B dX7_strips_11 rfl ?_
  refine q_rtV B (s_of hm ht (by decide)) kv_yX7_of ki_yX7_of ks_yX7_of km_X7_39 rfl (ci := 7) rfl rfl hm.1 (by decide) rfl (Nat.le_of_ble_eq_true rfl) dX7_strips_12 ?_
  refine q_iconst (v := -1) B dX7_strips_15 rfl ?_
  refine q_ixor B dX7_strips_16 ?_
  refine q_iand B dX7_strips_17 ?_
  refine q_top (y := a_good σ t) (by simp only [a_good, hk2]) ?_
  refine q_istore_n B dX7_strips_18 rfl (Nat.le_of_ble_eq_true rfl) rfl ?_
  refine q_iconst (v := 0) B dX7_strips_19 rfl ?_
  refine q_istore_n B dX7_strips_20 rfl (Nat.le_of_ble_eq_true rfl) rfl ?_
  refine q_iconst (v := nI 0) B dX7_strips_21 rfl ?_
  refine q_istore B dX7_strips_22 (Nat.le_of_ble_eq_true rfl) rfl ?_
  have hl_24 : ∀ (n i : Nat) (σ1 : a_A) (c : Int32), i + n = 8 → q_fold (a_strip1 (a_good σ t)) i (σ, 0) = (σ1, c) → q_W Γ mX7_strips 0 0 Sh (q_setA I (o + 1) σ1) 24 [(0, .ref o), (1, .int (nI t)), (2, .int (a_good σ t)), (3, .int c), (4, .int (nI i))] [] := by
    intro n
    induction n with
    | zero =>
      intro i σ1 c hin hinv
      have h8 : i = 8 := by omega
      subst h8
      have hr : a_strips σ t = (upd σ1 (57 + 7 * t + 4) (nI 3), c) := by simp only [a_strips, hinv]
      refine q_iload B dX7_strips_24 rfl ?_
      refine q_bipush (v := nI 8) B dX7_strips_26 rfl ?_
      refine q_icmp_ge (tgt := 117) B dX7_strips_28 (by decide) (fun _ => ?_) (fun h => absurd (q_le (Nat.le_refl 8) (by decide)) h)
      refine q_aload_n B dX7_strips_117 rfl rfl ?_
      refine q_iload_n B dX7_strips_118 rfl rfl ?_
      refine q_iconst (v := nI 4) B dX7_strips_119 rfl ?_
      refine q_iconst (v := nI 3) B dX7_strips_120 rfl ?_
      refine q_rtV B (s_lay hm ht (by decide)) kv_yX7_lay ki_yX7_lay ks_yX7_lay km_X7_47 rfl (ci := 7) rfl rfl hm.1 (by decide) rfl (Nat.le_of_ble_eq_true rfl) dX7_strips_121 ?_
      refine q_iload_n B dX7_strips_124 rfl rfl ?_
      exact q_iret BM rfl dX7_strips_125 ⟨by rw [hr], rfl, by rw [hr]⟩
    | succ n ih =>
      intro i σ1 c hin hinv
      have hiN : i < 8 := by omega
      refine q_iload B dX7_strips_24 rfl ?_
      refine q_bipush (v := nI 8) B dX7_strips_26 rfl ?_
      refine q_icmp_ge (tgt := 117) B dX7_strips_28 (by decide) (fun h => absurd h (q_nle hiN (by decide))) (fun _ => ?_)
      refine q_iload_n B dX7_strips_31 rfl rfl ?_
      refine q_iload B dX7_strips_32 rfl ?_
      refine q_ishr B dX7_strips_34 ?_
      refine q_iconst (v := nI 1) B dX7_strips_35 rfl ?_
      refine q_iand B dX7_strips_36 ?_
      refine q_iconst (v := nI 1) B dX7_strips_37 rfl ?_
      refine q_icmp_ne (tgt := 111) B dX7_strips_38 (by decide) (fun c_38 => ?_) (fun c_38 => ?_)
      · skip
        refine q_iinc2 (y := nI (i + 1)) B dX7_strips_111 rfl (q_inc1 _) (Nat.le_of_ble_eq_true rfl) rfl ?_
        refine q_goto (tgt := 24) B dX7_strips_114 (by decide) ?_
        exact q_tk (ih (i + 1) _ _ (by omega) (by show a_strip1 _ i (q_fold _ i _) = _; rw [hinv]; first | exact if_pos c_38 | exact if_neg c_38)) rfl (q_ac rfl (q_ac rfl (q_ac rfl (q_ac rfl (q_ac rfl q_an)))))
      · skip
        refine q_join 60 (a_goes σ1 i) ?_ (fun j_41 => ?_)
        · skip
          refine q_istore B dX7_strips_60 (Nat.le_of_ble_eq_true rfl) rfl ?_
          refine q_aload_n B dX7_strips_62 rfl rfl ?_
          refine q_getR B kC_X7 (k := 1) (by decide) rfl kf_X7_7 hm.1 (mR_s hm) dX7_strips_63 ?_
          refine q_bipush (v := nI 19) B dX7_strips_66 rfl ?_
          refine q_iload B dX7_strips_68 rfl ?_
          refine q_iadd B dX7_strips_70 ?_
          refine q_dup2 B dX7_strips_71 rfl rfl ?_
          refine q_ialdS (n := 19 + i) B (mA_s hm) (by simp only [nI_add, q_nI_mul]) (by omega) (by decide) dX7_strips_72 ?_
          refine q_iconst (v := 1) B dX7_strips_73 rfl ?_
          refine q_iadd B dX7_strips_74 ?_
          refine q_iastS (n := 19 + i) B (mA_s hm) (by simp only [nI_add, q_nI_mul]) (by omega) (by decide) dX7_strips_75 ?_
          refine q_aload_n B dX7_strips_76 rfl rfl ?_
          refine q_getR B kC_X7 (k := 1) (by decide) rfl kf_X7_7 hm.1 (mR_s hm) dX7_strips_77 ?_
          refine q_iconst (v := nI 3) B dX7_strips_80 rfl ?_
          refine q_iload B dX7_strips_81 rfl ?_
          refine q_iadd B dX7_strips_83 ?_
          refine q_dup2 B dX7_strips_84 rfl rfl ?_
          refine q_ialdS2 (n := 3 + i) B (mA_s hm) (by simp only [nI_add, q_nI_mul]) (by omega) (by decide) (q_upd_ne (by omega)) dX7_strips_85 ?_
          refine q_join 96 (a_goes σ1 i) ?_ (fun j_86 => ?_)
          · skip
            refine q_iadd B dX7_strips_96 ?_
            refine q_iastS (n := 3 + i) B (mA_s hm) (by simp only [nI_add, q_nI_mul]) (by omega) (by decide) dX7_strips_97 ?_
            refine q_iload_n B dX7_strips_98 rfl rfl ?_
            refine q_join 109 (a_goes σ1 i) ?_ (fun j_99 => ?_)
            · skip
              refine q_iadd B dX7_strips_109 ?_
              refine q_istore_n B dX7_strips_110 rfl (Nat.le_of_ble_eq_true rfl) rfl ?_
              refine q_iinc2 (y := nI (i + 1)) B dX7_strips_111 rfl (q_inc1 _) (Nat.le_of_ble_eq_true rfl) rfl ?_
              refine q_goto (tgt := 24) B dX7_strips_114 (by decide) ?_
              exact q_tk (ih (i + 1) _ _ (by omega) (by show a_strip1 _ i (q_fold _ i _) = _; rw [hinv]; first | exact if_pos c_38 | exact if_neg c_38)) rfl (q_ac rfl (q_ac rfl (q_ac rfl (q_ac rfl (q_ac rfl q_an)))))
            · skip
              refine q_iload B dX7_strips_99 rfl ?_
              refine q_if_eq (tgt := 108) B dX7_strips_101 (by decide) (fun c_101 => ?_) (fun c_101 => ?_)
              · skip
                refine q_iconst (v := 0) B dX7_strips_108 rfl ?_
                exact q_top (by first | (rw [c_101]; done) | (rw [a_goes_1 c_101]; done)) j_99
              · skip
                refine q_iconst (v := 1) B dX7_strips_104 rfl ?_
                refine q_goto (tgt := 109) B dX7_strips_105 (by decide) ?_
                exact q_top (by first | (rw [c_101]; done) | (rw [a_goes_1 c_101]; done)) j_99
          · skip
            refine q_iload B dX7_strips_86 rfl ?_
            refine q_if_eq (tgt := 95) B dX7_strips_88 (by decide) (fun c_88 => ?_) (fun c_88 => ?_)
            · skip
              refine q_iconst (v := 0) B dX7_strips_95 rfl ?_
              exact q_top (by first | (rw [c_88]; done) | (rw [a_goes_1 c_88]; done)) j_86
            · skip
              refine q_iconst (v := 1) B dX7_strips_91 rfl ?_
              refine q_goto (tgt := 96) B dX7_strips_92 (by decide) ?_
              exact q_top (by first | (rw [c_88]; done) | (rw [a_goes_1 c_88]; done)) j_86
        · skip
          refine q_aload_n B dX7_strips_41 rfl rfl ?_
          refine q_getR B kC_X7 (k := 1) (by decide) rfl kf_X7_7 hm.1 (mR_s hm) dX7_strips_42 ?_
          refine q_iconst (v := nI 3) B dX7_strips_45 rfl ?_
          refine q_iload B dX7_strips_46 rfl ?_
          refine q_iadd B dX7_strips_48 ?_
          refine q_ialdS (n := 3 + i) B (mA_s hm) (by simp only [nI_add, q_nI_mul]) (by omega) (by decide) dX7_strips_49 ?_
          refine q_bipush (v := nI 99) B dX7_strips_50 rfl ?_
          refine q_icmp_ge (tgt := 59) B dX7_strips_52 (by decide) (fun c_52 => ?_) (fun c_52 => ?_)
          · skip
            refine q_iconst (v := 0) B dX7_strips_59 rfl ?_
            exact q_top (by first | (rw [a_goes, if_neg (Int32.not_lt.mpr c_52)]; done) | (rw [a_goes, if_pos (Int32.not_le.mp c_52)]; done)) j_41
          · skip
            refine q_iconst (v := 1) B dX7_strips_55 rfl ?_
            refine q_goto (tgt := 60) B dX7_strips_56 (by decide) ?_
            exact q_top (by first | (rw [a_goes, if_neg (Int32.not_lt.mpr c_52)]; done) | (rw [a_goes, if_pos (Int32.not_le.mp c_52)]; done)) j_41
  exact q_tk (hl_24 8 0 σ 0 (by omega) rfl) rfl (q_ac rfl (q_ac rfl (q_ac rfl (q_ac rfl (q_ac rfl q_an)))))
set_option maxRecDepth 100000 in
set_option maxHeartbeats 4000000 in
theorem s_nextFor {Sh : q_Sh} {I : q_Mem} {σ : a_A} {o : Nat} (hm : mOk Sh o) {kinds : Int32} (hT : σ 1 = nI (a_T σ)) (hT2 : a_T σ ≤ 30) : q_Rt mX7_nextFor 1 [.ref o, .int kinds] Sh (q_setA I (o + 1) σ) (some (.int (a_next σ kinds))) (q_setA I (o + 1) σ) := by
  refine q_rt_of (by decide) (Nat.le_of_ble_eq_true rfl) fun Γ BM => ?_
  have B := BM.1
  show q_W Γ mX7_nextFor 0 0 Sh (q_setA I (o + 1) σ) 0 [(0, .ref o), (1, .int kinds)] []
  refine q_bipush (v := -6) B dX7_nextFor_0 rfl ?_
  refine q_istore_n B dX7_nextFor_2 rfl (Nat.le_of_ble_eq_true rfl) rfl ?_
  refine q_iconst (v := nI 0) B dX7_nextFor_3 rfl ?_
  refine q_istore_n B dX7_nextFor_4 rfl (Nat.le_of_ble_eq_true rfl) rfl ?_
  have hl_5 : ∀ (n i : Nat) (b : Int32), i + n = a_T σ → (q_fold (a_next1 σ kinds) i (-6) = b ∧ (b = -6 ∨ ∃ j, j < 30 ∧ b = nI j)) → q_W Γ mX7_nextFor 0 0 Sh (q_setA I (o + 1) σ) 5 [(0, .ref o), (1, .int kinds), (2, .int b), (3, .int (nI i))] [] := by
    intro n
    induction n with
    | zero =>
      intro i b hin hinv
      have hi : i = a_T σ := by omega
      subst hi
      refine q_iload_n B dX7_nextFor_5 rfl rfl ?_
      refine q_aload_n B dX7_nextFor_6 rfl rfl ?_
      refine q_getR B kC_X7 (k := 1) (by decide) rfl kf_X7_7 hm.1 (mR_s hm) dX7_nextFor_7 ?_
      refine q_iconst (v := nI 1) B dX7_nextFor_10 rfl ?_
      refine q_ialdS2 (n := 1) B (mA_s hm) rfl (by omega) (by decide) hT dX7_nextFor_11 ?_
      refine q_icmp_ge (tgt := 83) B dX7_nextFor_12 (by decide) (fun _ => ?_) (fun h => absurd (q_le (Nat.le_refl _) (by omega)) h)
      refine q_iload_n B dX7_nextFor_83 rfl rfl ?_
      exact q_iret BM rfl dX7_nextFor_84 ⟨by rw [← hinv.1]; rfl, rfl, rfl⟩
    | succ n ih =>
      intro i b hin hinv
      have hiN : i < a_T σ := by omega
      refine q_iload_n B dX7_nextFor_5 rfl rfl ?_
      refine q_aload_n B dX7_nextFor_6 rfl rfl ?_
      refine q_getR B kC_X7 (k := 1) (by decide) rfl kf_X7_7 hm.1 (mR_s hm) dX7_nextFor_7 ?_
      refine q_iconst (v := nI 1) B dX7_nextFor_10 rfl ?_
      refine q_ialdS2 (n := 1) B (mA_s hm) rfl (by omega) (by decide) hT dX7_nextFor_11 ?_
      refine q_icmp_ge (tgt := 83) B dX7_nextFor_12 (by decide) (fun h => absurd h (q_nle hiN (by omega))) (fun _ => ?_)
      refine q_join 43 (if σ (57 + 7 * i + 4) = 0 ∧ (kinds >>> (σ (57 + 7 * i) &&& 31)) &&& nI 1 = nI 1 then 1 else 0) ?_ (fun j_15 => ?_)
      · skip
        refine q_istore B dX7_nextFor_43 (Nat.le_of_ble_eq_true rfl) rfl ?_
        refine q_join 76 (a_next1 σ kinds i b) ?_ (fun j_45 => ?_)
        · skip
          refine q_istore_n B dX7_nextFor_76 rfl (Nat.le_of_ble_eq_true rfl) rfl ?_
          refine q_iinc2 (y := nI (i + 1)) B dX7_nextFor_77 rfl (q_inc1 _) (Nat.le_of_ble_eq_true rfl) rfl ?_
          refine q_goto (tgt := 5) B dX7_nextFor_80 (by decide) ?_
          exact q_tk (ih (i + 1) _ (by omega) ⟨by show a_next1 σ kinds i (q_fold _ i _) = _; rw [hinv.1], a_next1_in (by omega) hinv.2⟩) rfl (q_ac rfl (q_ac rfl (q_ac rfl (q_ac rfl q_an))))
        · skip
          refine q_iload B dX7_nextFor_45 rfl ?_
          refine q_if_eq (tgt := 75) B dX7_nextFor_47 (by decide) (fun c_47 => ?_) (fun c_47 => ?_)
          · skip
            have nP := a_b0 c_47
            refine q_iload_n B dX7_nextFor_75 rfl rfl ?_
            exact q_top (by first | (rw [a_next1, if_neg (fun h => nP h.1)]; done) | (rw [a_next1, if_pos ⟨hP, Or.inl c_53⟩]; done) | (rw [a_next1, if_pos ⟨hP, Or.inr (by rw [haj]; exact Int32.not_le.mp c_68)⟩]; done) | (rw [a_next1, if_neg (fun h => h.2.elim c_53 (fun q => absurd (haj ▸ q) (Int32.not_lt.mpr c_68)))]; done)) j_45
          · skip
            have hP := a_b1 c_47
            refine q_iload_n B dX7_nextFor_50 rfl rfl ?_
            refine q_bipush (v := -6) B dX7_nextFor_51 rfl ?_
            refine q_icmp_eq (tgt := 71) B dX7_nextFor_53 (by decide) (fun c_53 => ?_) (fun c_53 => ?_)
            · skip
              refine q_iload_n B dX7_nextFor_71 rfl rfl ?_
              refine q_goto (tgt := 76) B dX7_nextFor_72 (by decide) ?_
              exact q_top (by first | (rw [a_next1, if_neg (fun h => nP h.1)]; done) | (rw [a_next1, if_pos ⟨hP, Or.inl c_53⟩]; done) | (rw [a_next1, if_pos ⟨hP, Or.inr (by rw [haj]; exact Int32.not_le.mp c_68)⟩]; done) | (rw [a_next1, if_neg (fun h => h.2.elim c_53 (fun q => absurd (haj ▸ q) (Int32.not_lt.mpr c_68)))]; done)) j_45
            · skip
              obtain ⟨j, hj, hbj⟩ : ∃ j, j < 30 ∧ b = nI j := hinv.2.resolve_left c_53
              have haj : a_n b = j := by rw [hbj]; exact nI_clamp (by omega)
              refine q_aload_n B dX7_nextFor_56 rfl rfl ?_
              refine q_iload_n B dX7_nextFor_57 rfl rfl ?_
              refine q_iconst (v := nI 2) B dX7_nextFor_58 rfl ?_
              refine q_rtV B (s_of hm (by omega) (by decide)) kv_yX7_of ki_yX7_of ks_yX7_of km_X7_39 rfl (ci := 7) rfl rfl hm.1 (by decide) rfl (Nat.le_of_ble_eq_true rfl) dX7_nextFor_59 ?_
              refine q_aload_n B dX7_nextFor_62 rfl rfl ?_
              refine q_iload_n B dX7_nextFor_63 rfl rfl ?_
              refine q_top hbj ?_
              refine q_iconst (v := nI 2) B dX7_nextFor_64 rfl ?_
              refine q_rtV B (s_of hm hj (by decide)) kv_yX7_of ki_yX7_of ks_yX7_of km_X7_39 rfl (ci := 7) rfl rfl hm.1 (by decide) rfl (Nat.le_of_ble_eq_true rfl) dX7_nextFor_65 ?_
              refine q_icmp_ge (tgt := 75) B dX7_nextFor_68 (by decide) (fun c_68 => ?_) (fun c_68 => ?_)
              · skip
                refine q_iload_n B dX7_nextFor_75 rfl rfl ?_
                exact q_top (by first | (rw [a_next1, if_neg (fun h => nP h.1)]; done) | (rw [a_next1, if_pos ⟨hP, Or.inl c_53⟩]; done) | (rw [a_next1, if_pos ⟨hP, Or.inr (by rw [haj]; exact Int32.not_le.mp c_68)⟩]; done) | (rw [a_next1, if_neg (fun h => h.2.elim c_53 (fun q => absurd (haj ▸ q) (Int32.not_lt.mpr c_68)))]; done)) j_45
              · skip
                refine q_iload_n B dX7_nextFor_71 rfl rfl ?_
                refine q_goto (tgt := 76) B dX7_nextFor_72 (by decide) ?_
                exact q_top (by first | (rw [a_next1, if_neg (fun h => nP h.1)]; done) | (rw [a_next1, if_pos ⟨hP, Or.inl c_53⟩]; done) | (rw [a_next1, if_pos ⟨hP, Or.inr (by rw [haj]; exact Int32.not_le.mp c_68)⟩]; done) | (rw [a_next1, if_neg (fun h => h.2.elim c_53 (fun q => absurd (haj ▸ q) (Int32.not_lt.mpr c_68)))]; done)) j_45
      · skip
        refine q_aload_n B dX7_nextFor_15 rfl rfl ?_
        refine q_iload_n B dX7_nextFor_16 rfl rfl ?_
        refine q_iconst (v := nI 4) B dX7_nextFor_17 rfl ?_
        refine q_rtV B (s_of hm (by omega) (by decide)) kv_yX7_of ki_yX7_of ks_yX7_of km_X7_39 rfl (ci := 7) rfl rfl hm.1 (by decide) rfl (Nat.le_of_ble_eq_true rfl) dX7_nextFor_18 ?_
        refine q_if_ne (tgt := 42) B dX7_nextFor_21 (by decide) (fun c_21 => ?_) (fun c_21 => ?_)
        · skip
          refine q_iconst (v := 0) B dX7_nextFor_42 rfl ?_
          exact q_top (by first | (rw [if_pos ⟨c_21, c_35⟩]; done) | (rw [if_neg (fun h => c_21 h.1)]; done) | (rw [if_neg (fun h => c_35 h.2)]; done)) j_15
        · skip
          refine q_iload_n B dX7_nextFor_24 rfl rfl ?_
          refine q_aload_n B dX7_nextFor_25 rfl rfl ?_
          refine q_iload_n B dX7_nextFor_26 rfl rfl ?_
          refine q_iconst (v := nI 0) B dX7_nextFor_27 rfl ?_
          refine q_rtV B (s_of_0 hm (by omega)) kv_yX7_of ki_yX7_of ks_yX7_of km_X7_39 rfl (ci := 7) rfl rfl hm.1 (by decide) rfl (Nat.le_of_ble_eq_true rfl) dX7_nextFor_28 ?_
          refine q_ishr B dX7_nextFor_31 ?_
          refine q_iconst (v := nI 1) B dX7_nextFor_32 rfl ?_
          refine q_iand B dX7_nextFor_33 ?_
          refine q_iconst (v := nI 1) B dX7_nextFor_34 rfl ?_
          refine q_icmp_ne (tgt := 42) B dX7_nextFor_35 (by decide) (fun c_35 => ?_) (fun c_35 => ?_)
          · skip
            refine q_iconst (v := 0) B dX7_nextFor_42 rfl ?_
            exact q_top (by first | (rw [if_pos ⟨c_21, c_35⟩]; done) | (rw [if_neg (fun h => c_21 h.1)]; done) | (rw [if_neg (fun h => c_35 h.2)]; done)) j_15
          · skip
            refine q_iconst (v := 1) B dX7_nextFor_38 rfl ?_
            refine q_goto (tgt := 43) B dX7_nextFor_39 (by decide) ?_
            exact q_top (by first | (rw [if_pos ⟨c_21, c_35⟩]; done) | (rw [if_neg (fun h => c_21 h.1)]; done) | (rw [if_neg (fun h => c_35 h.2)]; done)) j_15
  exact q_tk (hl_5 (a_T σ) 0 (-6) (by omega) ⟨rfl, Or.inl rfl⟩) rfl (q_ac rfl (q_ac rfl (q_ac rfl (q_ac rfl q_an))))
set_option maxRecDepth 100000 in
set_option maxHeartbeats 4000000 in
theorem s_fixerOf {Sh : q_Sh} {I : q_Mem} {σ : a_A} {o : Nat} (hm : mOk Sh o) {x : Int32} (hF : σ 2 = nI (a_F σ)) (hF2 : a_F σ ≤ 5) : q_Rt mX7_fixerOf 1 [.ref o, .int x] Sh (q_setA I (o + 1) σ) (some (.int (a_fixerOf σ x))) (q_setA I (o + 1) σ) := by
  refine q_rt_of (by decide) (Nat.le_of_ble_eq_true rfl) fun Γ BM => ?_
  have B := BM.1
  show q_W Γ mX7_fixerOf 0 0 Sh (q_setA I (o + 1) σ) 0 [(0, .ref o), (1, .int x)] []
  refine q_iconst (v := nI 0) B dX7_fixerOf_0 rfl ?_
  refine q_istore_n B dX7_fixerOf_1 rfl (Nat.le_of_ble_eq_true rfl) rfl ?_
  have hl_2 : ∀ (n i : Nat) , i + n = a_F σ → a_first (fun f => decide (σ (27 + 6 * f + 2) = x + 1)) n i = a_fixerOf σ x → q_W Γ mX7_fixerOf 0 0 Sh (q_setA I (o + 1) σ) 2 [(0, .ref o), (1, .int x), (2, .int (nI i))] [] := by
    intro n
    induction n with
    | zero =>
      intro i  hin hinv
      have hi : i = a_F σ := by omega
      subst hi
      refine q_iload_n B dX7_fixerOf_2 rfl rfl ?_
      refine q_aload_n B dX7_fixerOf_3 rfl rfl ?_
      refine q_getR B kC_X7 (k := 1) (by decide) rfl kf_X7_7 hm.1 (mR_s hm) dX7_fixerOf_4 ?_
      refine q_iconst (v := nI 2) B dX7_fixerOf_7 rfl ?_
      refine q_ialdS2 (n := 2) B (mA_s hm) rfl (by omega) (by decide) hF dX7_fixerOf_8 ?_
      refine q_icmp_ge (tgt := 32) B dX7_fixerOf_9 (by decide) (fun _ => ?_) (fun h => absurd (q_le (Nat.le_refl _) (by omega)) h)
      refine q_bipush (v := -6) B dX7_fixerOf_32 rfl ?_
      exact q_iret BM rfl dX7_fixerOf_34 ⟨by rw [← hinv]; rfl, rfl, rfl⟩
    | succ n ih =>
      intro i  hin hinv
      have hiN : i < a_F σ := by omega
      refine q_iload_n B dX7_fixerOf_2 rfl rfl ?_
      refine q_aload_n B dX7_fixerOf_3 rfl rfl ?_
      refine q_getR B kC_X7 (k := 1) (by decide) rfl kf_X7_7 hm.1 (mR_s hm) dX7_fixerOf_4 ?_
      refine q_iconst (v := nI 2) B dX7_fixerOf_7 rfl ?_
      refine q_ialdS2 (n := 2) B (mA_s hm) rfl (by omega) (by decide) hF dX7_fixerOf_8 ?_
      refine q_icmp_ge (tgt := 32) B dX7_fixerOf_9 (by decide) (fun h => absurd h (q_nle hiN (by omega))) (fun _ => ?_)
      refine q_aload_n B dX7_fixerOf_12 rfl rfl ?_
      refine q_iload_n B dX7_fixerOf_13 rfl rfl ?_
      refine q_iconst (v := nI 2) B dX7_fixerOf_14 rfl ?_
      refine q_rtV B (s_fixer0 hm (by omega) (by decide)) kv_yX7_fixer0 ki_yX7_fixer0 ks_yX7_fixer0 km_X7_51 rfl (ci := 7) rfl rfl hm.1 (by decide) rfl (Nat.le_of_ble_eq_true rfl) dX7_fixerOf_15 ?_
      refine q_iload_n B dX7_fixerOf_18 rfl rfl ?_
      refine q_iconst (v := 1) B dX7_fixerOf_19 rfl ?_
      refine q_iadd B dX7_fixerOf_20 ?_
      refine q_icmp_ne (tgt := 26) B dX7_fixerOf_21 (by decide) (fun c_21 => ?_) (fun c_21 => ?_)
      · skip
        refine q_iinc2 (y := nI (i + 1)) B dX7_fixerOf_26 rfl (q_inc1 _) (Nat.le_of_ble_eq_true rfl) rfl ?_
        refine q_goto (tgt := 2) B dX7_fixerOf_29 (by decide) ?_
        exact q_tk (ih (i + 1) (by omega) (by rw [← hinv]; simp [a_first, c_21])) rfl (q_ac rfl (q_ac rfl (q_ac rfl q_an)))
      · skip
        refine q_iload_n B dX7_fixerOf_24 rfl rfl ?_
        exact q_iret BM rfl dX7_fixerOf_25 ⟨by rw [← hinv]; simp [a_first, c_21], rfl, rfl⟩
  exact q_tk (hl_2 (a_F σ) 0  (by omega) rfl) rfl (q_ac rfl (q_ac rfl (q_ac rfl q_an)))
set_option maxRecDepth 100000 in
set_option maxHeartbeats 4000000 in
theorem s_withHow {Sh : q_Sh} {I : q_Mem} {σ : a_A} {o : Nat} (hm : mOk Sh o) {h : Int32} (hT : σ 1 = nI (a_T σ)) (hT2 : a_T σ ≤ 30) : q_Rt mX7_withHow 1 [.ref o, .int h] Sh (q_setA I (o + 1) σ) (some (.int (a_how σ h))) (q_setA I (o + 1) σ) := by
  refine q_rt_of (by decide) (Nat.le_of_ble_eq_true rfl) fun Γ BM => ?_
  have B := BM.1
  show q_W Γ mX7_withHow 0 0 Sh (q_setA I (o + 1) σ) 0 [(0, .ref o), (1, .int h)] []
  refine q_iconst (v := 0) B dX7_withHow_0 rfl ?_
  refine q_istore_n B dX7_withHow_1 rfl (Nat.le_of_ble_eq_true rfl) rfl ?_
  refine q_iconst (v := nI 0) B dX7_withHow_2 rfl ?_
  refine q_istore_n B dX7_withHow_3 rfl (Nat.le_of_ble_eq_true rfl) rfl ?_
  have hl_4 : ∀ (n i : Nat) (c : Int32), i + n = a_T σ → q_fold (fun i (n : Int32) => n + (if σ (57 + 7 * i + 4) = h then 1 else 0)) i 0 = c → q_W Γ mX7_withHow 0 0 Sh (q_setA I (o + 1) σ) 4 [(0, .ref o), (1, .int h), (2, .int c), (3, .int (nI i))] [] := by
    intro n
    induction n with
    | zero =>
      intro i c hin hinv
      have hi : i = a_T σ := by omega
      subst hi
      refine q_iload_n B dX7_withHow_4 rfl rfl ?_
      refine q_aload_n B dX7_withHow_5 rfl rfl ?_
      refine q_getR B kC_X7 (k := 1) (by decide) rfl kf_X7_7 hm.1 (mR_s hm) dX7_withHow_6 ?_
      refine q_iconst (v := nI 1) B dX7_withHow_9 rfl ?_
      refine q_ialdS2 (n := 1) B (mA_s hm) rfl (by omega) (by decide) hT dX7_withHow_10 ?_
      refine q_icmp_ge (tgt := 38) B dX7_withHow_11 (by decide) (fun _ => ?_) (fun h => absurd (q_le (Nat.le_refl _) (by omega)) h)
      refine q_iload_n B dX7_withHow_38 rfl rfl ?_
      exact q_iret BM rfl dX7_withHow_39 ⟨by rw [← hinv]; rfl, rfl, rfl⟩
    | succ n ih =>
      intro i c hin hinv
      have hiN : i < a_T σ := by omega
      refine q_iload_n B dX7_withHow_4 rfl rfl ?_
      refine q_aload_n B dX7_withHow_5 rfl rfl ?_
      refine q_getR B kC_X7 (k := 1) (by decide) rfl kf_X7_7 hm.1 (mR_s hm) dX7_withHow_6 ?_
      refine q_iconst (v := nI 1) B dX7_withHow_9 rfl ?_
      refine q_ialdS2 (n := 1) B (mA_s hm) rfl (by omega) (by decide) hT dX7_withHow_10 ?_
      refine q_icmp_ge (tgt := 38) B dX7_withHow_11 (by decide) (fun h => absurd h (q_nle hiN (by omega))) (fun _ => ?_)
      refine q_iload_n B dX7_withHow_14 rfl rfl ?_
      refine q_join 30 (if σ (57 + 7 * i + 4) = h then 1 else 0) ?_ (fun j_15 => ?_)
      · skip
        refine q_iadd B dX7_withHow_30 ?_
        refine q_istore_n B dX7_withHow_31 rfl (Nat.le_of_ble_eq_true rfl) rfl ?_
        refine q_iinc2 (y := nI (i + 1)) B dX7_withHow_32 rfl (q_inc1 _) (Nat.le_of_ble_eq_true rfl) rfl ?_
        refine q_goto (tgt := 4) B dX7_withHow_35 (by decide) ?_
        exact q_tk (ih (i + 1) _ (by omega) (by rw [← hinv]; rfl)) rfl (q_ac rfl (q_ac rfl (q_ac rfl (q_ac rfl q_an))))
      · skip
        refine q_aload_n B dX7_withHow_15 rfl rfl ?_
        refine q_iload_n B dX7_withHow_16 rfl rfl ?_
        refine q_iconst (v := nI 4) B dX7_withHow_17 rfl ?_
        refine q_rtV B (s_of hm (by omega) (by decide)) kv_yX7_of ki_yX7_of ks_yX7_of km_X7_39 rfl (ci := 7) rfl rfl hm.1 (by decide) rfl (Nat.le_of_ble_eq_true rfl) dX7_withHow_18 ?_
        refine q_iload_n B dX7_withHow_21 rfl rfl ?_
        refine q_icmp_ne (tgt := 29) B dX7_withHow_22 (by decide) (fun c_22 => ?_) (fun c_22 => ?_)
        · skip
          refine q_iconst (v := 0) B dX7_withHow_29 rfl ?_
          exact q_top (by first | (rw [if_pos c_22]; done) | (rw [if_neg c_22]; done)) j_15
        · skip
          refine q_iconst (v := 1) B dX7_withHow_25 rfl ?_
          refine q_goto (tgt := 30) B dX7_withHow_26 (by decide) ?_
          exact q_top (by first | (rw [if_pos c_22]; done) | (rw [if_neg c_22]; done)) j_15
  exact q_tk (hl_4 (a_T σ) 0 0 (by omega) rfl) rfl (q_ac rfl (q_ac rfl (q_ac rfl (q_ac rfl q_an))))
set_option maxRecDepth 100000 in
set_option maxHeartbeats 4000000 in
theorem s_givesUp {Sh : q_Sh} {I : q_Mem} {σ : a_A} {o : Nat} (hm : mOk Sh o) {f t k : Nat} (hf : f < 5) (ht : t < 30) (hk : k < 6) (hkd : σ (57 + 7 * t) = nI k) : q_Rt mX7_givesUp 2 [.ref o, .int (nI f), .int (nI t)] Sh (q_setA I (o + 1) σ) (none) (q_setA I (o + 1) (a_givesUp σ f t)) := by
  refine q_rt_of (by decide) (Nat.le_of_ble_eq_true rfl) fun Γ BM => ?_
  have B := BM.1
  show q_W Γ mX7_givesUp 0 0 Sh (q_setA I (o + 1) σ) 0 [(0, .ref o), (1, .int (nI f)), (2, .int (nI t))] []
  refine q_aload_n B dX7_givesUp_0 rfl rfl ?_
  refine q_iload_n B dX7_givesUp_1 rfl rfl ?_
  refine q_rtV B (s_strips hm ht hk hkd) kv_yX7_strips ki_yX7_strips ks_yX7_strips km_X7_54 rfl (ci := 7) rfl rfl hm.1 (by decide) rfl (Nat.le_of_ble_eq_true rfl) dX7_givesUp_2 ?_
  refine q_pop B dX7_givesUp_5 rfl ?_
  refine q_aload_n B dX7_givesUp_6 rfl rfl ?_
  refine q_iload_n B dX7_givesUp_7 rfl rfl ?_
  refine q_iconst (v := nI 4) B dX7_givesUp_8 rfl ?_
  refine q_rtV B (s_more hm hf (by decide)) kv_yX7_more ki_yX7_more ks_yX7_more km_X7_57 rfl (ci := 7) rfl rfl hm.1 (by decide) rfl (Nat.le_of_ble_eq_true rfl) dX7_givesUp_9 ?_
  refine q_aload_n B dX7_givesUp_12 rfl rfl ?_
  refine q_iload_n B dX7_givesUp_13 rfl rfl ?_
  refine q_rtV B (s_frees hm hf) kv_yX7_frees ki_yX7_frees ks_yX7_frees km_X7_61 rfl (ci := 7) rfl rfl hm.1 (by decide) rfl (Nat.le_of_ble_eq_true rfl) dX7_givesUp_14 ?_
  exact q_vret BM rfl dX7_givesUp_17 ⟨rfl, rfl, rfl⟩
set_option maxRecDepth 100000 in
set_option maxHeartbeats 4000000 in
theorem s_exchanges {Sh : q_Sh} {I : q_Mem} {σ : a_A} {o : Nat} (hm : mOk Sh o) {t m : Nat} (ht : t < 30) (hm0 : m < 256) (hmz : m ≠ 0) (hb : σ (57 + 7 * t + 1) = nI m) : q_Rt mX7_exchanges 1 [.ref o, .int (nI t)] Sh (q_setA I (o + 1) σ) (some (.int (a_exch σ t).2)) (q_setA I (o + 1) (a_exch σ t).1) := by
  refine q_rt_of (by decide) (Nat.le_of_ble_eq_true rfl) fun Γ BM => ?_
  have B := BM.1
  have hb2 : a_n (σ (57 + 7 * t + 1)) = m := by rw [hb]; exact nI_clamp (by omega)
  have hp8 := (a_low_ok m hm0 hmz).1
  generalize hp : a_low m = p at hp8
  show q_W Γ mX7_exchanges 0 0 Sh (q_setA I (o + 1) σ) 0 [(0, .ref o), (1, .int (nI t))] []
  refine q_aload_n B dX7_exchanges_0 rfl rfl ?_
  refine q_iload_n B dX7_exchanges_1 rfl rfl ?_
  refine q_iconst (v := nI 1) B dX7_exchanges_2 rfl ?_
  refine q_rtV B (s_of hm ht (by decide)) kv_yX7_of ki_yX7_of ks_yX7_of km_X7_39 rfl (ci := 7) rfl rfl hm.1 (by decide) rfl (Nat.le_of_ble_eq_true rfl) dX7_exchanges_3 ?_
  refine q_top hb ?_
  refine q_rtS B (s_lowest hm0 hmz) kv_yX7_lowest kt_yX7_lowest km_X7_65 rfl (by decide) rfl (Nat.le_of_ble_eq_true rfl) dX7_exchanges_6 ?_
  rw [hp]
  refine q_istore_n B dX7_exchanges_9 rfl (Nat.le_of_ble_eq_true rfl) rfl ?_
  refine q_aload_n B dX7_exchanges_10 rfl rfl ?_
  refine q_getR B kC_X7 (k := 1) (by decide) rfl kf_X7_7 hm.1 (mR_s hm) dX7_exchanges_11 ?_
  refine q_iconst (v := nI 3) B dX7_exchanges_14 rfl ?_
  refine q_iload_n B dX7_exchanges_15 rfl rfl ?_
  refine q_iadd B dX7_exchanges_16 ?_
  refine q_ialdS (n := 3 + p) B (mA_s hm) (by simp only [nI_add, q_nI_mul]) (by omega) (by decide) dX7_exchanges_17 ?_
  refine q_if_ne (tgt := 23) B dX7_exchanges_18 (by decide) (fun c_18 => ?_) (fun c_18 => ?_)
  · skip
    refine q_aload_n B dX7_exchanges_23 rfl rfl ?_
    refine q_getR B kC_X7 (k := 1) (by decide) rfl kf_X7_7 hm.1 (mR_s hm) dX7_exchanges_24 ?_
    refine q_iconst (v := nI 3) B dX7_exchanges_27 rfl ?_
    refine q_iload_n B dX7_exchanges_28 rfl rfl ?_
    refine q_iadd B dX7_exchanges_29 ?_
    refine q_dup2 B dX7_exchanges_30 rfl rfl ?_
    refine q_ialdS (n := 3 + p) B (mA_s hm) (by simp only [nI_add, q_nI_mul]) (by omega) (by decide) dX7_exchanges_31 ?_
    refine q_iconst (v := 1) B dX7_exchanges_32 rfl ?_
    refine q_isub B dX7_exchanges_33 ?_
    refine q_iastS (n := 3 + p) B (mA_s hm) (by simp only [nI_add, q_nI_mul]) (by omega) (by decide) dX7_exchanges_34 ?_
    refine q_aload_n B dX7_exchanges_35 rfl rfl ?_
    refine q_getR B kC_X7 (k := 1) (by decide) rfl kf_X7_7 hm.1 (mR_s hm) dX7_exchanges_36 ?_
    refine q_bipush (v := nI 11) B dX7_exchanges_39 rfl ?_
    refine q_iload_n B dX7_exchanges_41 rfl rfl ?_
    refine q_iadd B dX7_exchanges_42 ?_
    refine q_dup2 B dX7_exchanges_43 rfl rfl ?_
    refine q_ialdS2 (n := 11 + p) B (mA_s hm) (by simp only [nI_add, q_nI_mul]) (by omega) (by decide) (q_upd_ne (by omega)) dX7_exchanges_44 ?_
    refine q_iconst (v := 1) B dX7_exchanges_45 rfl ?_
    refine q_iadd B dX7_exchanges_46 ?_
    refine q_iastS (n := 11 + p) B (mA_s hm) (by simp only [nI_add, q_nI_mul]) (by omega) (by decide) dX7_exchanges_47 ?_
    refine q_aload_n B dX7_exchanges_48 rfl rfl ?_
    refine q_iload_n B dX7_exchanges_49 rfl rfl ?_
    refine q_iconst (v := nI 1) B dX7_exchanges_50 rfl ?_
    refine q_aload_n B dX7_exchanges_51 rfl rfl ?_
    refine q_iload_n B dX7_exchanges_52 rfl rfl ?_
    refine q_iconst (v := nI 1) B dX7_exchanges_53 rfl ?_
    refine q_rtV B (s_of hm ht (by decide)) kv_yX7_of ki_yX7_of ks_yX7_of km_X7_39 rfl (ci := 7) rfl rfl hm.1 (by decide) rfl (Nat.le_of_ble_eq_true rfl) dX7_exchanges_54 ?_
    refine q_top (y := σ (57 + 7 * t + 1)) (by simp (disch := omega) only [q_upd_ne, q_upd_at]) ?_
    refine q_iconst (v := nI 1) B dX7_exchanges_57 rfl ?_
    refine q_iload_n B dX7_exchanges_58 rfl rfl ?_
    refine q_ishl B dX7_exchanges_59 ?_
    refine q_iconst (v := -1) B dX7_exchanges_60 rfl ?_
    refine q_ixor B dX7_exchanges_61 ?_
    refine q_iand B dX7_exchanges_62 ?_
    refine q_rtV B (s_lay hm ht (by decide)) kv_yX7_lay ki_yX7_lay ks_yX7_lay km_X7_47 rfl (ci := 7) rfl rfl hm.1 (by decide) rfl (Nat.le_of_ble_eq_true rfl) dX7_exchanges_63 ?_
    refine q_aload_n B dX7_exchanges_66 rfl rfl ?_
    refine q_iload_n B dX7_exchanges_67 rfl rfl ?_
    refine q_bipush (v := nI 6) B dX7_exchanges_68 rfl ?_
    refine q_aload_n B dX7_exchanges_70 rfl rfl ?_
    refine q_iload_n B dX7_exchanges_71 rfl rfl ?_
    refine q_bipush (v := nI 6) B dX7_exchanges_72 rfl ?_
    refine q_rtV B (s_of hm ht (by decide)) kv_yX7_of ki_yX7_of ks_yX7_of km_X7_39 rfl (ci := 7) rfl rfl hm.1 (by decide) rfl (Nat.le_of_ble_eq_true rfl) dX7_exchanges_74 ?_
    refine q_top (y := σ (57 + 7 * t + 6)) (by simp (disch := omega) only [q_upd_ne, q_upd_at]) ?_
    refine q_iconst (v := 1) B dX7_exchanges_77 rfl ?_
    refine q_iadd B dX7_exchanges_78 ?_
    refine q_rtV B (s_lay hm ht (by decide)) kv_yX7_lay ki_yX7_lay ks_yX7_lay km_X7_47 rfl (ci := 7) rfl rfl hm.1 (by decide) rfl (Nat.le_of_ble_eq_true rfl) dX7_exchanges_79 ?_
    refine q_iconst (v := 1) B dX7_exchanges_82 rfl ?_
    exact q_zret BM rfl (Or.inr rfl) dX7_exchanges_83 ⟨by simp [a_exch, hb2, hp, c_18], rfl, by simp [a_exch, hb2, hp, c_18]⟩
  · skip
    refine q_iconst (v := 0) B dX7_exchanges_21 rfl ?_
    exact q_zret BM rfl (Or.inl rfl) dX7_exchanges_22 ⟨by simp [a_exch, hb2, hp, c_18], rfl, by simp [a_exch, hb2, hp, c_18]⟩
set_option maxRecDepth 100000 in
set_option maxHeartbeats 4000000 in
theorem s_tests {Sh : q_Sh} {I : q_Mem} {σ : a_A} {o : Nat} (hm : mOk Sh o) {t : Nat} {care : Int32} (ht : t < 30) : q_Rt mX7_tests 1 [.ref o, .int (nI t), .int care] Sh (q_setA I (o + 1) σ) (some (.int (a_test σ t care).2)) (q_setA I (o + 1) (a_test σ t care).1) := by
  refine q_rt_of (by decide) (Nat.le_of_ble_eq_true rfl) fun Γ BM => ?_
  have B := BM.1
  show q_W Γ mX7_tests 0 0 Sh (q_setA I (o + 1) σ) 0 [(0, .ref o), (1, .int (nI t)), (2, .int care)] []
  refine q_aload_n B dX7_tests_0 rfl rfl ?_
  refine q_iload_n B dX7_tests_1 rfl rfl ?_
  refine q_iconst (v := nI 0) B dX7_tests_2 rfl ?_
  refine q_rtV B (s_of_0 hm ht) kv_yX7_of ki_yX7_of ks_yX7_of km_X7_39 rfl (ci := 7) rfl rfl hm.1 (by decide) rfl (Nat.le_of_ble_eq_true rfl) dX7_tests_3 ?_
  refine q_istore_n B dX7_tests_6 rfl (Nat.le_of_ble_eq_true rfl) rfl ?_
  refine q_aload_n B dX7_tests_7 rfl rfl ?_
  refine q_getR B kC_X7 (k := 1) (by decide) rfl kf_X7_7 hm.1 (mR_s hm) dX7_tests_8 ?_
  refine q_iconst (v := nI 0) B dX7_tests_11 rfl ?_
  refine q_ialdS (n := 0) B (mA_s hm) rfl (by omega) (by decide) dX7_tests_12 ?_
  refine q_iload_n B dX7_tests_13 rfl rfl ?_
  refine q_iadd B dX7_tests_14 ?_
  refine q_iload_n B dX7_tests_15 rfl rfl ?_
  refine q_iadd B dX7_tests_16 ?_
  refine q_iconst (v := nI 3) B dX7_tests_17 rfl ?_
  refine q_irem B dX7_tests_18 (by decide +kernel) ?_
  refine q_if_eq (tgt := 45) B dX7_tests_19 (by decide) (fun c_19 => ?_) (fun c_19 => ?_)
  · skip
    refine q_aload_n B dX7_tests_45 rfl rfl ?_
    refine q_iload_n B dX7_tests_46 rfl rfl ?_
    refine q_iconst (v := nI 1) B dX7_tests_47 rfl ?_
    refine q_aload_n B dX7_tests_48 rfl rfl ?_
    refine q_iload_n B dX7_tests_49 rfl rfl ?_
    refine q_iconst (v := nI 1) B dX7_tests_50 rfl ?_
    refine q_rtV B (s_of hm ht (by decide)) kv_yX7_of ki_yX7_of ks_yX7_of km_X7_39 rfl (ci := 7) rfl rfl hm.1 (by decide) rfl (Nat.le_of_ble_eq_true rfl) dX7_tests_51 ?_
    refine q_iconst (v := nI 1) B dX7_tests_54 rfl ?_
    refine q_iload_n B dX7_tests_55 rfl rfl ?_
    refine q_ishl B dX7_tests_56 ?_
    refine q_ior B dX7_tests_57 ?_
    refine q_rtV B (s_lay hm ht (by decide)) kv_yX7_lay ki_yX7_lay ks_yX7_lay km_X7_47 rfl (ci := 7) rfl rfl hm.1 (by decide) rfl (Nat.le_of_ble_eq_true rfl) dX7_tests_58 ?_
    refine q_aload_n B dX7_tests_61 rfl rfl ?_
    refine q_iload_n B dX7_tests_62 rfl rfl ?_
    refine q_iconst (v := nI 5) B dX7_tests_63 rfl ?_
    refine q_aload_n B dX7_tests_64 rfl rfl ?_
    refine q_iload_n B dX7_tests_65 rfl rfl ?_
    refine q_iconst (v := nI 5) B dX7_tests_66 rfl ?_
    refine q_rtV B (s_of hm ht (by decide)) kv_yX7_of ki_yX7_of ks_yX7_of km_X7_39 rfl (ci := 7) rfl rfl hm.1 (by decide) rfl (Nat.le_of_ble_eq_true rfl) dX7_tests_67 ?_
    refine q_top (y := σ (57 + 7 * t + 5)) (by simp (disch := omega) only [q_upd_ne, q_upd_at]) ?_
    refine q_iconst (v := 1) B dX7_tests_70 rfl ?_
    refine q_iadd B dX7_tests_71 ?_
    refine q_rtV B (s_lay hm ht (by decide)) kv_yX7_lay ki_yX7_lay ks_yX7_lay km_X7_47 rfl (ci := 7) rfl rfl hm.1 (by decide) rfl (Nat.le_of_ble_eq_true rfl) dX7_tests_72 ?_
    refine q_join 90 (if σ (57 + 7 * t + 5) + 1 < nI 3 then 1 else 0) ?_ (fun j_75 => ?_)
    · skip
      exact q_zret BM rfl (by split <;> simp) dX7_tests_90 ⟨by simp only [a_test, if_pos c_19], rfl, by simp only [a_test, if_pos c_19]⟩
    · skip
      refine q_aload_n B dX7_tests_75 rfl rfl ?_
      refine q_iload_n B dX7_tests_76 rfl rfl ?_
      refine q_iconst (v := nI 5) B dX7_tests_77 rfl ?_
      refine q_rtV B (s_of hm ht (by decide)) kv_yX7_of ki_yX7_of ks_yX7_of km_X7_39 rfl (ci := 7) rfl rfl hm.1 (by decide) rfl (Nat.le_of_ble_eq_true rfl) dX7_tests_78 ?_
      refine q_top (y := σ (57 + 7 * t + 5) + 1) (by simp (disch := omega) only [q_upd_ne, q_upd_at]) ?_
      refine q_iconst (v := nI 3) B dX7_tests_81 rfl ?_
      refine q_icmp_ge (tgt := 89) B dX7_tests_82 (by decide) (fun c_82 => ?_) (fun c_82 => ?_)
      · skip
        refine q_iconst (v := 0) B dX7_tests_89 rfl ?_
        exact q_top (by first | (rw [if_pos (Int32.not_le.mp c_82)]; done) | (rw [if_neg (Int32.not_lt.mpr c_82)]; done)) j_75
      · skip
        refine q_iconst (v := 1) B dX7_tests_85 rfl ?_
        refine q_goto (tgt := 90) B dX7_tests_86 (by decide) ?_
        exact q_top (by first | (rw [if_pos (Int32.not_le.mp c_82)]; done) | (rw [if_neg (Int32.not_lt.mpr c_82)]; done)) j_75
  · skip
    refine q_aload_n B dX7_tests_22 rfl rfl ?_
    refine q_iload_n B dX7_tests_23 rfl rfl ?_
    refine q_iconst (v := nI 3) B dX7_tests_24 rfl ?_
    refine q_aload_n B dX7_tests_25 rfl rfl ?_
    refine q_iload_n B dX7_tests_26 rfl rfl ?_
    refine q_iconst (v := nI 3) B dX7_tests_27 rfl ?_
    refine q_rtV B (s_of hm ht (by decide)) kv_yX7_of ki_yX7_of ks_yX7_of km_X7_39 rfl (ci := 7) rfl rfl hm.1 (by decide) rfl (Nat.le_of_ble_eq_true rfl) dX7_tests_28 ?_
    refine q_aload_n B dX7_tests_31 rfl rfl ?_
    refine q_iload_n B dX7_tests_32 rfl rfl ?_
    refine q_iconst (v := nI 3) B dX7_tests_33 rfl ?_
    refine q_rtV B (s_of hm ht (by decide)) kv_yX7_of ki_yX7_of ks_yX7_of km_X7_39 rfl (ci := 7) rfl rfl hm.1 (by decide) rfl (Nat.le_of_ble_eq_true rfl) dX7_tests_34 ?_
    refine q_iconst (v := 1) B dX7_tests_37 rfl ?_
    refine q_isub B dX7_tests_38 ?_
    refine q_iand B dX7_tests_39 ?_
    refine q_rtV B (s_lay hm ht (by decide)) kv_yX7_lay ki_yX7_lay ks_yX7_lay km_X7_47 rfl (ci := 7) rfl rfl hm.1 (by decide) rfl (Nat.le_of_ble_eq_true rfl) dX7_tests_40 ?_
    refine q_iconst (v := 1) B dX7_tests_43 rfl ?_
    exact q_zret BM rfl (Or.inr rfl) dX7_tests_44 ⟨by simp only [a_test, if_neg c_19], rfl, by simp only [a_test, if_neg c_19]⟩
end
section
/-! what holds of every state, kept by every step -/
def a_W (T F : Nat) (σ : a_A) : Prop :=
  (σ 1 = nI T ∧ T ≤ 30) ∧ (σ 2 = nI F ∧ F ≤ 5) ∧
  (∀ i, i < T → ∃ k, k < 6 ∧ σ (57 + 7 * i) = nI k) ∧
  (∀ i, i < T → ∃ m, m < 256 ∧ σ (57 + 7 * i + 1) = nI m) ∧
  (∀ i, i < T → ∃ h, h ≤ 4 ∧ σ (57 + 7 * i + 4) = nI h) ∧
  (∀ i, i < T → σ (57 + 7 * i + 4) = 0 → ∃ p, 1 ≤ p ∧ p ≤ 99 ∧ σ (57 + 7 * i + 2) = nI p) ∧
  (∀ f, f < F → ∃ h, h ≤ T ∧ σ (27 + 6 * f + 2) = nI h ∧ ∀ i, h = i + 1 → σ (57 + 7 * i + 4) = nI 1) ∧
  (∀ f g, f < F → g < F → σ (27 + 6 * f + 2) = σ (27 + 6 * g + 2) → σ (27 + 6 * f + 2) ≠ 0 → f = g) ∧
  (∀ p, p < 8 → ∃ s, s ≤ 99 ∧ σ (3 + p) = nI s)
theorem a_W_T {T F : Nat} {σ : a_A} (h : a_W T F σ) : a_T σ = T := by unfold a_T a_n; rw [h.1.1]; exact nI_clamp (by have := h.1.2; omega)
theorem a_W_F {T F : Nat} {σ : a_A} (h : a_W T F σ) : a_F σ = F := by unfold a_F a_n; rw [h.2.1.1]; exact nI_clamp (by have := h.2.1.2; omega)
theorem a_wf_W {σ : a_A} : a_wf σ ↔ a_W (a_T σ) (a_F σ) σ := Iff.rfl
theorem a_W_wf {T F : Nat} {σ : a_A} (h : a_W T F σ) : a_wf σ := by
  have e1 := a_W_T h
  have e2 := a_W_F h
  rw [a_wf_W, e1, e2]
  exact h
/-- places that nothing is said of -/
def a_free (j : Nat) : Prop := j = 0 ∨ (11 ≤ j ∧ j < 27) ∨ (27 ≤ j ∧ j < 57 ∧ (j - 27) % 6 ≠ 2) ∨ (57 ≤ j ∧ ((j - 57) % 7 = 3 ∨ 5 ≤ (j - 57) % 7))
theorem a_W_free {T F j : Nat} {σ : a_A} {v : Int32} (h : a_W T F σ) (hj : a_free j) : a_W T F (upd σ j v) := by
  obtain ⟨⟨h1, h1'⟩, ⟨h2, h2'⟩, h3, h4, h5, h6, h7, h8, h9⟩ := h
  unfold a_free at hj
  refine ⟨⟨by rw [q_upd_ne (by omega)]; exact h1, h1'⟩, ⟨by rw [q_upd_ne (by omega)]; exact h2, h2'⟩, fun i hi => by rw [q_upd_ne (by omega)]; exact h3 i hi, fun i hi => by rw [q_upd_ne (by omega)]; exact h4 i hi, fun i hi => by rw [q_upd_ne (by omega)]; exact h5 i hi, fun i hi => by rw [q_upd_ne (by omega), q_upd_ne (by omega)]; exact h6 i hi, fun f hf => ?_, fun f g hf hg => by rw [q_upd_ne (by omega), q_upd_ne (by omega)]; exact h8 f g hf hg, fun p hp => by rw [q_upd_ne (by omega)]; exact h9 p hp⟩
  obtain ⟨x, a, b, c⟩ := h7 f hf
  exact ⟨x, a, by rw [q_upd_ne (by omega)]; exact b, fun i hi => by rw [q_upd_ne (by omega)]; exact c i hi⟩
theorem a_W_B {T F t m : Nat} {σ : a_A} (h : a_W T F σ) (hm : m < 256) : a_W T F (upd σ (57 + 7 * t + 1) (nI m)) := by
  obtain ⟨⟨h1, h1'⟩, ⟨h2, h2'⟩, h3, h4, h5, h6, h7, h8, h9⟩ := h
  refine ⟨⟨by rw [q_upd_ne (by omega)]; exact h1, h1'⟩, ⟨by rw [q_upd_ne (by omega)]; exact h2, h2'⟩, fun i hi => by rw [q_upd_ne (by omega)]; exact h3 i hi, fun i hi => ?_, fun i hi => by rw [q_upd_ne (by omega)]; exact h5 i hi, fun i hi => by rw [q_upd_ne (by omega), q_upd_ne (by omega)]; exact h6 i hi, fun f hf => ?_, fun f g hf hg => by rw [q_upd_ne (by omega), q_upd_ne (by omega)]; exact h8 f g hf hg, fun p hp => by rw [q_upd_ne (by omega)]; exact h9 p hp⟩
  · by_cases e : i = t
    · subst e; exact ⟨m, hm, q_upd_at _ _ _⟩
    · rw [q_upd_ne (by omega)]; exact h4 i hi
  · obtain ⟨x, a, b, c⟩ := h7 f hf
    exact ⟨x, a, by rw [q_upd_ne (by omega)]; exact b, fun i hi => by rw [q_upd_ne (by omega)]; exact c i hi⟩
theorem a_W_Q {T F p s : Nat} {σ : a_A} (h : a_W T F σ) (hp : p < 8) (hs : s ≤ 99) : a_W T F (upd σ (3 + p) (nI s)) := by
  obtain ⟨⟨h1, h1'⟩, ⟨h2, h2'⟩, h3, h4, h5, h6, h7, h8, h9⟩ := h
  refine ⟨⟨by rw [q_upd_ne (by omega)]; exact h1, h1'⟩, ⟨by rw [q_upd_ne (by omega)]; exact h2, h2'⟩, fun i hi => by rw [q_upd_ne (by omega)]; exact h3 i hi, fun i hi => by rw [q_upd_ne (by omega)]; exact h4 i hi, fun i hi => by rw [q_upd_ne (by omega)]; exact h5 i hi, fun i hi => by rw [q_upd_ne (by omega), q_upd_ne (by omega)]; exact h6 i hi, fun f hf => ?_, fun f g hf hg => by rw [q_upd_ne (by omega), q_upd_ne (by omega)]; exact h8 f g hf hg, fun q hq => ?_⟩
  · obtain ⟨x, a, b, c⟩ := h7 f hf
    exact ⟨x, a, by rw [q_upd_ne (by omega)]; exact b, fun i hi => by rw [q_upd_ne (by omega)]; exact c i hi⟩
  · by_cases e : q = p
    · subst e; exact ⟨s, hs, q_upd_at _ _ _⟩
    · rw [q_upd_ne (by omega)]; exact h9 q hq
theorem a_ne01 {h : Nat} (hh : h ≤ 4) (h0 : h ≠ 0) : ¬ nI h = 0 := nI_ne0 (by omega) (by omega)
theorem a_how_ne {h k : Nat} (hh : h ≤ 4) (hk : k ≤ 4) (hne : h ≠ k) : ¬ nI h = nI k := fun q => hne ((nI_eq (by omega) (by omega)).mp q)
/-- a thing that no fixer has changes how it is, but not back to waiting -/
theorem a_W_how {T F t x : Nat} {σ : a_A} (h : a_W T F σ) (hx : x ≤ 4) (hx0 : x ≠ 0) (hno : ∀ f, f < F → σ (27 + 6 * f + 2) ≠ nI (t + 1)) : a_W T F (upd σ (57 + 7 * t + 4) (nI x)) := by
  obtain ⟨⟨h1, h1'⟩, ⟨h2, h2'⟩, h3, h4, h5, h6, h7, h8, h9⟩ := h
  refine ⟨⟨by rw [q_upd_ne (by omega)]; exact h1, h1'⟩, ⟨by rw [q_upd_ne (by omega)]; exact h2, h2'⟩, fun i hi => by rw [q_upd_ne (by omega)]; exact h3 i hi, fun i hi => by rw [q_upd_ne (by omega)]; exact h4 i hi, fun i hi => ?_, fun i hi => ?_, fun f hf => ?_, fun f g hf hg => by rw [q_upd_ne (by omega), q_upd_ne (by omega)]; exact h8 f g hf hg, fun p hp => by rw [q_upd_ne (by omega)]; exact h9 p hp⟩
  · by_cases e : i = t
    · subst e; exact ⟨x, hx, q_upd_at _ _ _⟩
    · rw [q_upd_ne (by omega)]; exact h5 i hi
  · by_cases e : i = t
    · subst e; rw [q_upd_at]; exact fun q => absurd q (a_ne01 hx hx0)
    · rw [q_upd_ne (by omega), q_upd_ne (by omega)]; exact h6 i hi
  · obtain ⟨y, a, b, c⟩ := h7 f hf
    refine ⟨y, a, by rw [q_upd_ne (by omega)]; exact b, fun i hi => ?_⟩
    by_cases e : i = t
    · subst e; subst hi; exact absurd b (hno f hf)
    · rw [q_upd_ne (by omega)]; exact c i hi
/-- a fixer's thing ends -/
theorem a_W_end {T F t f x : Nat} {σ : a_A} (h : a_W T F σ) (hf : f < F) (hx : x ≤ 4) (hx0 : x ≠ 0) (hh : σ (27 + 6 * f + 2) = nI (t + 1)) : a_W T F (upd (upd σ (57 + 7 * t + 4) (nI x)) (27 + 6 * f + 2) 0) := by
  have hh0 := h
  obtain ⟨⟨h1, h1'⟩, ⟨h2, h2'⟩, h3, h4, h5, h6, h7, h8, h9⟩ := h
  refine ⟨⟨by simp (disch := omega) only [q_upd_ne]; exact h1, h1'⟩, ⟨by simp (disch := omega) only [q_upd_ne]; exact h2, h2'⟩, fun i hi => by simp (disch := omega) only [q_upd_ne]; exact h3 i hi, fun i hi => by simp (disch := omega) only [q_upd_ne]; exact h4 i hi, fun i hi => ?_, fun i hi => ?_, fun g hg => ?_, fun g1 g2 hg1 hg2 => ?_, fun p hp => by simp (disch := omega) only [q_upd_ne]; exact h9 p hp⟩
  · rw [q_upd_ne (by omega)]
    by_cases e : i = t
    · subst e; exact ⟨x, hx, q_upd_at _ _ _⟩
    · rw [q_upd_ne (by omega)]; exact h5 i hi
  · rw [q_upd_ne (by omega), q_upd_ne (k := 27 + 6 * f + 2) (by omega), q_upd_ne (j := 57 + 7 * i + 2) (by omega)]
    by_cases e : i = t
    · subst e; rw [q_upd_at]; exact fun q => absurd q (a_ne01 hx hx0)
    · rw [q_upd_ne (by omega)]; exact h6 i hi
  · by_cases e : g = f
    · subst e; exact ⟨0, by omega, by rw [q_upd_at]; rfl, fun i hi => by omega⟩
    · obtain ⟨y, a, b, c⟩ := h7 g hg
      refine ⟨y, a, by rw [q_upd_ne (by omega), q_upd_ne (by omega)]; exact b, fun i hi => ?_⟩
      have e2 : i ≠ t := by
        intro q
        subst q; subst hi
        exact e (h8 g f hg hf (b.trans hh.symm) (by rw [b]; exact nI_ne0 (by omega) (by omega)))
      rw [q_upd_ne (by omega), q_upd_ne (by omega)]; exact c i hi
  · by_cases e1 : g1 = f
    · subst e1; rw [q_upd_at]; exact fun _ q => absurd rfl q
    · by_cases e2 : g2 = f
      · subst e2; rw [q_upd_at, q_upd_ne (by omega)]; exact fun q z => absurd q z
      · simp (disch := omega) only [q_upd_ne]; exact h8 g1 g2 hg1 hg2
/-- a free fixer takes a waiting thing -/
theorem a_W_take {T F t f : Nat} {σ : a_A} (h : a_W T F σ) (hf : f < F) (ht : t < T) (hw : σ (57 + 7 * t + 4) = 0) : a_W T F (upd (upd σ (57 + 7 * t + 4) (nI 1)) (27 + 6 * f + 2) (nI (t + 1))) := by
  obtain ⟨⟨h1, h1'⟩, ⟨h2, h2'⟩, h3, h4, h5, h6, h7, h8, h9⟩ := h
  have hno : ∀ g, g < F → σ (27 + 6 * g + 2) ≠ nI (t + 1) := by
    intro g hg q
    obtain ⟨y, a, b, c⟩ := h7 g hg
    have e := (nI_eq (by omega) (by omega)).mp (q.symm.trans b)
    have := c t e.symm
    rw [hw] at this
    exact absurd this (by decide)
  refine ⟨⟨by simp (disch := omega) only [q_upd_ne]; exact h1, h1'⟩, ⟨by simp (disch := omega) only [q_upd_ne]; exact h2, h2'⟩, fun i hi => by simp (disch := omega) only [q_upd_ne]; exact h3 i hi, fun i hi => by simp (disch := omega) only [q_upd_ne]; exact h4 i hi, fun i hi => ?_, fun i hi => ?_, fun g hg => ?_, fun g1 g2 hg1 hg2 => ?_, fun p hp => by simp (disch := omega) only [q_upd_ne]; exact h9 p hp⟩
  · rw [q_upd_ne (by omega)]
    by_cases e : i = t
    · subst e; exact ⟨1, by omega, q_upd_at _ _ _⟩
    · rw [q_upd_ne (by omega)]; exact h5 i hi
  · rw [q_upd_ne (by omega), q_upd_ne (k := 27 + 6 * f + 2) (by omega), q_upd_ne (j := 57 + 7 * i + 2) (by omega)]
    by_cases e : i = t
    · subst e; rw [q_upd_at]; exact fun q => absurd q (by decide)
    · rw [q_upd_ne (by omega)]; exact h6 i hi
  · by_cases e : g = f
    · subst e
      refine ⟨t + 1, by omega, by rw [q_upd_at], fun i hi => ?_⟩
      have : i = t := by omega
      subst this
      rw [q_upd_ne (by omega), q_upd_at]
    · obtain ⟨y, a, b, c⟩ := h7 g hg
      refine ⟨y, a, by rw [q_upd_ne (by omega), q_upd_ne (by omega)]; exact b, fun i hi => ?_⟩
      have e2 : i ≠ t := fun q => by subst q; subst hi; exact hno g hg b
      rw [q_upd_ne (by omega), q_upd_ne (by omega)]; exact c i hi
  · by_cases e1 : g1 = f
    · subst e1
      by_cases e2 : g2 = g1
      · exact fun _ _ => e2.symm
      · rw [q_upd_at, q_upd_ne (by omega), q_upd_ne (by omega)]; exact fun q _ => absurd q.symm (hno g2 hg2)
    · by_cases e2 : g2 = f
      · subst e2; rw [q_upd_at, q_upd_ne (by omega), q_upd_ne (by omega)]; exact fun q _ => absurd q (hno g1 hg1)
      · simp (disch := omega) only [q_upd_ne]; exact h8 g1 g2 hg1 hg2
theorem a_fold_W {T F : Nat} {f : Nat → a_A → a_A} {N : Nat} (hf : ∀ i σ, i < N → a_W T F σ → a_W T F (f i σ)) : ∀ n σ, n ≤ N → a_W T F σ → a_W T F (q_fold f n σ) := by
  intro n
  induction n with
  | zero => intro σ _ h; exact h
  | succ n ih => intro σ hn h; exact hf n _ (by omega) (ih σ (by omega) h)
theorem a_goes_v (σ : a_A) (p : Nat) : (a_goes σ p = 1 ∧ σ (3 + p) < nI 99) ∨ (a_goes σ p = 0 ∧ ¬ σ (3 + p) < nI 99) := by
  unfold a_goes
  by_cases h : σ (3 + p) < nI 99
  · exact Or.inl ⟨if_pos h, h⟩
  · exact Or.inr ⟨if_neg h, h⟩
theorem a_strip1_W {T F p : Nat} {g : Int32} {x : a_A × Int32} (hp : p < 8) (h : a_W T F x.1) : a_W T F (a_strip1 g p x).1 := by
  unfold a_strip1
  split
  · obtain ⟨s, hs, e⟩ := h.2.2.2.2.2.2.2.2 p hp
    have h2 : a_W T F (upd x.1 (19 + p) (x.1 (19 + p) + 1)) := a_W_free h (by unfold a_free; omega)
    rcases a_goes_v x.1 p with ⟨g1, g2⟩ | ⟨g1, -⟩
    · show a_W T F (upd _ (3 + p) (x.1 (3 + p) + a_goes x.1 p))
      rw [g1, e, nI_1]
      rw [e] at g2
      exact a_W_Q h2 hp (by have := (nI_ltI (by omega) (by omega)).mp g2; omega)
    · show a_W T F (upd _ (3 + p) (x.1 (3 + p) + a_goes x.1 p))
      rw [g1, e, show nI s + 0 = nI s from Int32.add_zero _]
      exact a_W_Q h2 hp hs
  · exact h
theorem a_stripF_W {T F : Nat} {g : Int32} {σ : a_A} (h : a_W T F σ) : ∀ n, n ≤ 8 → ∀ c, a_W T F (q_fold (a_strip1 g) n (σ, c)).1 := by
  intro n
  induction n with
  | zero => intro _ c; exact h
  | succ n ih => intro hn c; exact a_strip1_W (by omega) (ih (by omega) c)
/-- what a stripping leaves as it was -/
theorem a_stripF_at {g : Int32} {σ : a_A} {j : Nat} (hj : ¬ (3 ≤ j ∧ j < 27)) : ∀ n, n ≤ 8 → ∀ c, (q_fold (a_strip1 g) n (σ, c)).1 j = σ j := by
  intro n
  induction n with
  | zero => intro _ c; rfl
  | succ n ih =>
    intro hn c
    show (a_strip1 g n (q_fold (a_strip1 g) n (σ, c))).1 j = σ j
    unfold a_strip1
    split
    · simp (disch := omega) only [q_upd_ne]; exact ih (by omega) c
    · exact ih (by omega) c
theorem a_strips_at {σ : a_A} {t j : Nat} (hj : ¬ (3 ≤ j ∧ j < 27)) (hj2 : j ≠ 57 + 7 * t + 4) : (a_strips σ t).1 j = σ j := by
  show upd _ _ _ j = _
  rw [q_upd_ne hj2, a_stripF_at hj 8 (Nat.le_refl 8)]
theorem a_strips_W {T F t : Nat} {σ : a_A} (h : a_W T F σ) (hno : ∀ f, f < F → σ (27 + 6 * f + 2) ≠ nI (t + 1)) : a_W T F (a_strips σ t).1 :=
  a_W_how (a_stripF_W h 8 (Nat.le_refl 8) 0) (by omega) (by omega) (fun f hf => by rw [a_stripF_at (by have := h.2.1.2; omega) 8 (Nat.le_refl 8)]; exact hno f hf)
theorem a_upd_comm {σ : a_A} {i j : Nat} {x y : Int32} (h : i ≠ j) : upd (upd σ i x) j y = upd (upd σ j y) i x := by
  funext k
  by_cases h1 : k = i <;> by_cases h2 : k = j <;> simp_all [upd]
theorem a_givesUp_W {T F f t : Nat} {σ : a_A} (h : a_W T F σ) (hf : f < F) (hh : σ (27 + 6 * f + 2) = nI (t + 1)) : a_W T F (a_givesUp σ f t) := by
  have hF := h.2.1.2
  have h1 := a_stripF_W (g := a_good σ t) h 8 (Nat.le_refl 8) 0
  have h2 := a_W_end (x := 3) (t := t) h1 hf (by omega) (by omega) (by rw [a_stripF_at (by omega) 8 (Nat.le_refl 8)]; exact hh)
  have h3 := a_W_free (j := 27 + 6 * f + 4) (v := (a_strips σ t).1 (27 + 6 * f + 4) + 1) h2 (by unfold a_free; omega)
  unfold a_givesUp
  rw [a_upd_comm (by omega)]
  exact h3
theorem a_mask_ok : ∀ m, m < 256 → ∀ p, p < 8 → ∃ r, r < 256 ∧ nI m &&& ((nI 1 <<< (nI p &&& 31)) ^^^ (-1)) = nI r := by
  have key : ∀ m, m < 256 → ∀ p, p < 8 → (nI m &&& ((nI 1 <<< (nI p &&& 31)) ^^^ (-1))).toNatClampNeg < 256 ∧ nI m &&& ((nI 1 <<< (nI p &&& 31)) ^^^ (-1)) = nI (nI m &&& ((nI 1 <<< (nI p &&& 31)) ^^^ (-1))).toNatClampNeg := by decide +kernel
  exact fun m hm p hp => ⟨_, key m hm p hp⟩
theorem a_or_ok : ∀ m, m < 256 → ∀ k, k < 6 → ∃ r, r < 256 ∧ nI m ||| (nI 1 <<< (nI k &&& 31)) = nI r := by
  have key : ∀ m, m < 256 → ∀ k, k < 6 → (nI m ||| (nI 1 <<< (nI k &&& 31))).toNatClampNeg < 256 ∧ nI m ||| (nI 1 <<< (nI k &&& 31)) = nI (nI m ||| (nI 1 <<< (nI k &&& 31))).toNatClampNeg := by decide +kernel
  exact fun m hm k hk => ⟨_, key m hm k hk⟩
theorem a_exch_W {T F t : Nat} {σ : a_A} (h : a_W T F σ) (ht : t < T) (hb : ¬ σ (57 + 7 * t + 1) = 0) : a_W T F (a_exch σ t).1 := by
  obtain ⟨m, hm, e⟩ := h.2.2.2.1 t ht
  have hmz : m ≠ 0 := fun q => hb (by rw [e, q]; rfl)
  have e2 : a_n (σ (57 + 7 * t + 1)) = m := by rw [e]; exact nI_clamp (by omega)
  have hp := (a_low_ok m hm hmz).1
  unfold a_exch
  rw [e2]
  generalize a_low m = p at hp
  dsimp only
  split
  · exact h
  · rename_i h0
    obtain ⟨s, hs, es⟩ := h.2.2.2.2.2.2.2.2 p hp
    have hs0 : s ≠ 0 := fun q => h0 (by rw [es, q]; rfl)
    have e3 : σ (3 + p) - 1 = nI (s - 1) := by rw [es, show (1 : Int32) = nI 1 from rfl, q_nI_sub (by omega)]
    obtain ⟨r, hr, er⟩ := a_mask_ok m hm p hp
    show a_W T F (upd (upd _ _ _) _ _)
    rw [e3, e, er]
    exact a_W_free (a_W_B (a_W_free (a_W_Q h hp (by omega)) (by unfold a_free; omega)) hr) (by unfold a_free; omega)
theorem a_test_W {T F t : Nat} {σ : a_A} {care : Int32} (h : a_W T F σ) (ht : t < T) : a_W T F (a_test σ t care).1 := by
  obtain ⟨m, hm, e⟩ := h.2.2.2.1 t ht
  obtain ⟨k, hk, ek⟩ := h.2.2.1 t ht
  unfold a_test
  dsimp only
  split
  · obtain ⟨r, hr, er⟩ := a_or_ok m hm k hk
    show a_W T F (upd (upd _ _ _) _ _)
    rw [e, ek, er]
    exact a_W_free (a_W_B h hr) (by unfold a_free; omega)
  · exact a_W_free h (by unfold a_free; omega)
theorem a_work1_W {T F f t : Nat} {σ : a_A} (h : a_W T F σ) (ht : t < T) : a_W T F (a_work1 σ f t).1 := by
  unfold a_work1
  split
  · split
    · exact h
    · exact a_test_W h ht
  · rename_i hb
    exact a_exch_W h ht hb
/-- a turn of work leaves kinds, how things are, and who has what -/
theorem a_exch_at {σ : a_A} {t j : Nat} (hj : ¬ (3 ≤ j ∧ j < 19)) (h1 : j ≠ 57 + 7 * t + 1) (h2 : j ≠ 57 + 7 * t + 6) (hp : a_low (a_n (σ (57 + 7 * t + 1))) < 8) : (a_exch σ t).1 j = σ j := by
  unfold a_exch
  generalize a_low (a_n (σ (57 + 7 * t + 1))) = p at hp
  dsimp only
  split
  · rfl
  · simp (disch := omega) only [q_upd_ne]
theorem a_low8 (m : Nat) : a_low m < 8 := by unfold a_low; (repeat' split) <;> omega
theorem a_test_at {σ : a_A} {t j : Nat} {care : Int32} (h1 : j ≠ 57 + 7 * t + 1) (h2 : j ≠ 57 + 7 * t + 3) (h3 : j ≠ 57 + 7 * t + 5) : (a_test σ t care).1 j = σ j := by
  unfold a_test
  dsimp only
  split
  · simp (disch := omega) only [q_upd_ne]
  · simp (disch := omega) only [q_upd_ne]
theorem a_work1_at {σ : a_A} {f t j : Nat} (hj : ¬ (3 ≤ j ∧ j < 19)) (h1 : j ≠ 57 + 7 * t + 1) (h2 : j ≠ 57 + 7 * t + 6) (h3 : j ≠ 57 + 7 * t + 3) (h4 : j ≠ 57 + 7 * t + 5) : (a_work1 σ f t).1 j = σ j := by
  unfold a_work1
  split
  · split
    · rfl
    · exact a_test_at h1 h3 h4
  · exact a_exch_at hj h1 h2 (a_low8 _)
theorem a_works_W {T F f : Nat} {σ : a_A} (h : a_W T F σ) (hf : f < F) (hp : 0 < σ (27 + 6 * f + 2)) : a_W T F (a_works σ f) := by
  have hF := h.2.1.2
  obtain ⟨x, hx, ex, -⟩ := h.2.2.2.2.2.2.1 f hf
  have hT := h.1.2
  have hx0 : x ≠ 0 := by
    intro q
    rw [ex, q] at hp
    exact absurd hp (by decide)
  obtain ⟨t, rfl⟩ : ∃ t, x = t + 1 := ⟨x - 1, by omega⟩
  have et : a_n (σ (27 + 6 * f + 2)) - 1 = t := by rw [ex]; unfold a_n; rw [nI_clamp (by omega)]; omega
  unfold a_works
  dsimp only
  rw [et]
  have h1 : a_W T F (upd σ (27 + 6 * f + 5) (σ (27 + 6 * f + 5) + 1)) := a_W_free h (by unfold a_free; omega)
  have h2 := a_work1_W (f := f) (t := t) h1 (by omega)
  have e2 : (a_work1 (upd σ (27 + 6 * f + 5) (σ (27 + 6 * f + 5) + 1)) f t).1 (27 + 6 * f + 2) = nI (t + 1) := by
    rw [a_work1_at (by omega) (by omega) (by omega) (by omega) (by omega), q_upd_ne (by omega), ex]
  generalize a_work1 (upd σ (27 + 6 * f + 5) (σ (27 + 6 * f + 5) + 1)) f t = r at h2 e2
  split
  · exact a_givesUp_W h2 hf e2
  · split
    · have h3 := a_W_free (j := 27 + 6 * f + 3) (v := upd r.1 (57 + 7 * t + 4) (nI 2) (27 + 6 * f + 3) + 1) (a_W_end (x := 2) (t := t) h2 hf (by omega) (by omega) e2) (by unfold a_free; omega)
      rw [a_upd_comm (by omega)]
      exact h3
    · exact h2
theorem a_has_pos {T F f : Nat} {σ : a_A} (h : a_W T F σ) (hf : f < F) (hp : 0 < σ (27 + 6 * f + 2)) : ∃ t, t < 30 ∧ σ (27 + 6 * f + 2) = nI (t + 1) := by
  obtain ⟨x, hx, ex, -⟩ := h.2.2.2.2.2.2.1 f hf
  have hT := h.1.2
  have hx0 : x ≠ 0 := by
    intro q
    rw [ex, q] at hp
    exact absurd hp (by decide)
  exact ⟨x - 1, by omega, by rw [ex]; congr 1; omega⟩
theorem a_next_in {T F : Nat} {σ : a_A} (h : a_W T F σ) (kinds : Int32) : a_next σ kinds = -6 ∨ ∃ j, j < T ∧ a_next σ kinds = nI j ∧ σ (57 + 7 * j + 4) = 0 := by
  have key : ∀ n, n ≤ T → q_fold (a_next1 σ kinds) n (-6) = -6 ∨ ∃ j, j < T ∧ q_fold (a_next1 σ kinds) n (-6) = nI j ∧ σ (57 + 7 * j + 4) = 0 := by
    intro n
    induction n with
    | zero => intro _; exact Or.inl rfl
    | succ n ih =>
      intro hn
      show a_next1 σ kinds n (q_fold (a_next1 σ kinds) n (-6)) = -6 ∨ ∃ j, j < T ∧ a_next1 σ kinds n (q_fold (a_next1 σ kinds) n (-6)) = nI j ∧ _
      generalize hb : q_fold (a_next1 σ kinds) n (-6) = b at ih
      unfold a_next1
      split
      · rename_i hc
        exact Or.inr ⟨n, by omega, rfl, hc.1.1⟩
      · exact ih (by omega)
  unfold a_next
  rw [a_W_T h]
  exact key T (Nat.le_refl T)
theorem a_nI_ne6 {j : Nat} (hj : j < 2 ^ 31) : ¬ nI j = -6 := by
  intro q
  have := nI_pos hj
  rw [q] at this
  exact this (by decide)
theorem a_takes_W {T F f : Nat} {σ : a_A} (h : a_W T F σ) (hf : f < F) : a_W T F (a_takes σ f) := by
  unfold a_takes
  dsimp only
  split
  · exact h
  · rename_i h6
    rcases a_next_in h (σ (27 + 6 * f)) with q | ⟨j, hj, e, hw⟩
    · exact absurd q h6
    · have hT := h.1.2
      rw [e]
      have e2 : a_n (nI j) = j := nI_clamp (by omega)
      rw [e2, nI_1]
      exact a_W_take h hf hj hw
theorem a_min1_W {T F f : Nat} {σ : a_A} (hf : f < F) (h : a_W T F σ) : a_W T F (a_min1 f σ) := by
  unfold a_min1
  split
  · exact a_takes_W h hf
  · exact h
theorem a_min2_W {T F f : Nat} {σ : a_A} (hf : f < F) (h : a_W T F σ) : a_W T F (a_min2 f σ) := by
  unfold a_min2
  split
  · rename_i hp
    exact a_works_W h hf hp
  · exact h
theorem a_min3_W {T F t : Nat} {σ : a_A} (ht : t < T) (h : a_W T F σ) : a_W T F (a_min3 t σ) := by
  unfold a_min3
  split
  · rename_i hw
    have hT := h.1.2
    obtain ⟨p, hp1, hp2, ep⟩ := h.2.2.2.2.2.1 t ht hw
    have e1 : σ (57 + 7 * t + 2) - 1 = nI (p - 1) := by rw [ep, show (1 : Int32) = nI 1 from rfl, q_nI_sub (by omega)]
    rw [e1]
    obtain ⟨⟨h1, h1'⟩, ⟨h2, h2'⟩, h3, h4, h5, h6, h7, h8, h9⟩ := h
    have hno : ∀ f, f < F → ∀ x, σ (27 + 6 * f + 2) = nI x → (∀ i, x = i + 1 → σ (57 + 7 * i + 4) = nI 1) → ∀ i, x = i + 1 → i ≠ t := by
      intro f hf x _ c i hi q
      subst q
      have := c i hi
      rw [hw] at this
      exact absurd this (by decide)
    refine ⟨⟨by simp (disch := omega) only [q_upd_ne]; exact h1, h1'⟩, ⟨by simp (disch := omega) only [q_upd_ne]; exact h2, h2'⟩, fun i hi => by simp (disch := omega) only [q_upd_ne]; exact h3 i hi, fun i hi => by simp (disch := omega) only [q_upd_ne]; exact h4 i hi, fun i hi => ?_, fun i hi => ?_, fun f hf => ?_, fun f g hf hg => by simp (disch := omega) only [q_upd_ne]; exact h8 f g hf hg, fun q hq => by simp (disch := omega) only [q_upd_ne]; exact h9 q hq⟩
    · by_cases e : i = t
      · subst e
        rw [q_upd_at]
        split
        · exact ⟨4, by omega, rfl⟩
        · exact ⟨0, by omega, rfl⟩
      · rw [q_upd_ne (by omega), q_upd_ne (by omega)]; exact h5 i hi
    · by_cases e : i = t
      · subst e
        rw [q_upd_at, q_upd_ne (by omega), q_upd_at]
        split
        · exact fun q => absurd q (by decide)
        · rename_i hz
          intro _
          exact ⟨p - 1, by
            rcases Nat.eq_zero_or_pos (p - 1) with z | z
            · exact absurd (by rw [z]; rfl) hz
            · omega, by omega, rfl⟩
      · simp (disch := omega) only [q_upd_ne]; exact h6 i hi
    · obtain ⟨x, a, b, c⟩ := h7 f hf
      refine ⟨x, a, by simp (disch := omega) only [q_upd_ne]; exact b, fun i hi => ?_⟩
      have := hno f hf x b c i hi
      simp (disch := omega) only [q_upd_ne]; exact c i hi
  · exact h
theorem a_minute_W {T F : Nat} {σ : a_A} (h : a_W T F σ) : a_W T F (a_minute σ) := by
  unfold a_minute
  dsimp only
  rw [a_W_F h]
  have h1 := a_fold_W (f := a_min1) (N := F) (fun i s hi hs => a_min1_W hi hs) F σ (Nat.le_refl F) h
  have h2 := a_fold_W (f := a_min2) (N := F) (fun i s hi hs => a_min2_W hi hs) F _ (Nat.le_refl F) h1
  rw [a_W_T h]
  have h3 := a_fold_W (f := a_min3) (N := T) (fun i s hi hs => a_min3_W hi hs) T _ (Nat.le_refl T) h2
  exact a_W_free h3 (by unfold a_free; omega)
theorem a_minutes_W {T F : Nat} {σ : a_A} (h : a_W T F σ) : ∀ n, a_W T F (a_minutes n σ) := by
  intro n
  induction n with
  | zero => exact h
  | succ n ih => exact a_minute_W ih
end
section
theorem s_nextForW {Sh : q_Sh} {I : q_Mem} {σ : a_A} {o : Nat} (hm : mOk Sh o) {T F : Nat} (hW : a_W T F σ) {kinds : Int32} : q_Rt mX7_nextFor 1 [.ref o, .int kinds] Sh (q_setA I (o + 1) σ) (some (.int (a_next σ kinds))) (q_setA I (o + 1) σ) :=
  s_nextFor hm (by rw [a_W_T hW]; exact hW.1.1) (by rw [a_W_T hW]; exact hW.1.2)
theorem s_withHowW {Sh : q_Sh} {I : q_Mem} {σ : a_A} {o : Nat} (hm : mOk Sh o) {T F : Nat} (hW : a_W T F σ) {h : Int32} : q_Rt mX7_withHow 1 [.ref o, .int h] Sh (q_setA I (o + 1) σ) (some (.int (a_how σ h))) (q_setA I (o + 1) σ) :=
  s_withHow hm (by rw [a_W_T hW]; exact hW.1.1) (by rw [a_W_T hW]; exact hW.1.2)
set_option maxRecDepth 100000 in
set_option maxHeartbeats 4000000 in
theorem s_works {Sh : q_Sh} {I : q_Mem} {σ : a_A} {o : Nat} (hm : mOk Sh o) {T F : Nat} (hW : a_W T F σ) {f t : Nat} (hf : f < F) (ht3 : t < 30) (hh : σ (27 + 6 * f + 2) = nI (t + 1)) : q_Rt mX7_works 3 [.ref o, .int (nI f)] Sh (q_setA I (o + 1) σ) (none) (q_setA I (o + 1) (a_works σ f)) := by
  refine q_rt_of (by decide) (Nat.le_of_ble_eq_true rfl) fun Γ BM => ?_
  have B := BM.1
  have hT := hW.1.1
  have hT2 := hW.1.2
  have hF := hW.2.1.1
  have hF2 := hW.2.1.2
  have htT : t < T := by
    obtain ⟨y, a, b, -⟩ := hW.2.2.2.2.2.2.1 f hf
    have := (nI_eq (by omega) (by omega)).mp (hh.symm.trans b)
    omega
  have et : a_n (σ (27 + 6 * f + 2)) - 1 = t := by rw [hh]; unfold a_n; rw [nI_clamp (by omega)]; omega
  show q_W Γ mX7_works 0 0 Sh (q_setA I (o + 1) σ) 0 [(0, .ref o), (1, .int (nI f))] []
  refine q_aload_n B dX7_works_0 rfl rfl ?_
  refine q_iload_n B dX7_works_1 rfl rfl ?_
  refine q_iconst (v := nI 2) B dX7_works_2 rfl ?_
  refine q_rtV B (s_fixer0 hm (by omega) (by decide)) kv_yX7_fixer0 ki_yX7_fixer0 ks_yX7_fixer0 km_X7_51 rfl (ci := 7) rfl rfl hm.1 (by decide) rfl (Nat.le_of_ble_eq_true rfl) dX7_works_3 ?_
  refine q_top hh ?_
  refine q_iconst (v := nI 1) B dX7_works_6 rfl ?_
  refine q_isub B dX7_works_7 ?_
  refine q_top (q_nI_sub (Nat.le_add_left 1 t)) ?_
  rw [Nat.add_sub_cancel]
  refine q_istore_n B dX7_works_8 rfl (Nat.le_of_ble_eq_true rfl) rfl ?_
  refine q_aload_n B dX7_works_9 rfl rfl ?_
  refine q_iload_n B dX7_works_10 rfl rfl ?_
  refine q_iconst (v := nI 5) B dX7_works_11 rfl ?_
  refine q_rtV B (s_more hm (by omega) (by decide)) kv_yX7_more ki_yX7_more ks_yX7_more km_X7_57 rfl (ci := 7) rfl rfl hm.1 (by decide) rfl (Nat.le_of_ble_eq_true rfl) dX7_works_12 ?_
  generalize hs1 : upd σ (27 + 6 * f + 5) (σ (27 + 6 * f + 5) + 1) = s1
  have hW1 : a_W T F s1 := by rw [← hs1]; exact a_W_free hW (by unfold a_free; omega)
  obtain ⟨k, hk, ek⟩ := hW1.2.2.1 t htT
  refine q_iconst (v := 1) B dX7_works_15 rfl ?_
  refine q_istore_n B dX7_works_16 rfl (Nat.le_of_ble_eq_true rfl) rfl ?_
  have j_56 : ∀ (σ1 : a_A) (v : Int32), a_work1 s1 f t = (σ1, v) → q_W Γ mX7_works 0 0 Sh (q_setA I (o + 1) σ1) 56 [(0, .ref o), (1, .int (nI f)), (2, .int (nI t)), (3, .int v)] [] := by
    intro σ1 v hr
    have hwk : a_works σ f = if v = 0 then a_givesUp σ1 f t else if σ1 (57 + 7 * t + 1) = 0 ∧ σ1 (57 + 7 * t + 3) = 0 then upd (upd (upd σ1 (57 + 7 * t + 4) (nI 2)) (27 + 6 * f + 3) (upd σ1 (57 + 7 * t + 4) (nI 2) (27 + 6 * f + 3) + 1)) (27 + 6 * f + 2) 0 else σ1 := by
      unfold a_works
      dsimp only
      rw [et, hs1, hr]
    have ek1 : σ1 (57 + 7 * t) = nI k := by
      have := a_work1_at (σ := s1) (f := f) (t := t) (j := 57 + 7 * t) (by omega) (by omega) (by omega) (by omega) (by omega)
      rw [hr, ek] at this
      exact this
    refine q_iload_n B dX7_works_56 rfl rfl ?_
    refine q_if_ne (tgt := 69) B dX7_works_57 (by decide) (fun c_57 => ?_) (fun c_57 => ?_)
    · skip
      refine q_aload_n B dX7_works_69 rfl rfl ?_
      refine q_iload_n B dX7_works_70 rfl rfl ?_
      refine q_iconst (v := nI 1) B dX7_works_71 rfl ?_
      refine q_rtV B (s_of hm ht3 (by decide)) kv_yX7_of ki_yX7_of ks_yX7_of km_X7_39 rfl (ci := 7) rfl rfl hm.1 (by decide) rfl (Nat.le_of_ble_eq_true rfl) dX7_works_72 ?_
      refine q_if_ne (tgt := 105) B dX7_works_75 (by decide) (fun c_75 => ?_) (fun c_75 => ?_)
      · skip
        exact q_vret BM rfl dX7_works_105 ⟨rfl, rfl, by first | (rw [hwk, if_pos c_57]; done) | (rw [hwk, if_neg c_57, if_pos ⟨c_75, c_84⟩]; done) | (rw [hwk, if_neg c_57, if_neg (fun h => c_75 h.1)]; done) | (rw [hwk, if_neg c_57, if_neg (fun h => c_84 h.2)]; done)⟩
      · skip
        refine q_aload_n B dX7_works_78 rfl rfl ?_
        refine q_iload_n B dX7_works_79 rfl rfl ?_
        refine q_iconst (v := nI 3) B dX7_works_80 rfl ?_
        refine q_rtV B (s_of hm ht3 (by decide)) kv_yX7_of ki_yX7_of ks_yX7_of km_X7_39 rfl (ci := 7) rfl rfl hm.1 (by decide) rfl (Nat.le_of_ble_eq_true rfl) dX7_works_81 ?_
        refine q_if_ne (tgt := 105) B dX7_works_84 (by decide) (fun c_84 => ?_) (fun c_84 => ?_)
        · skip
          exact q_vret BM rfl dX7_works_105 ⟨rfl, rfl, by first | (rw [hwk, if_pos c_57]; done) | (rw [hwk, if_neg c_57, if_pos ⟨c_75, c_84⟩]; done) | (rw [hwk, if_neg c_57, if_neg (fun h => c_75 h.1)]; done) | (rw [hwk, if_neg c_57, if_neg (fun h => c_84 h.2)]; done)⟩
        · skip
          refine q_aload_n B dX7_works_87 rfl rfl ?_
          refine q_iload_n B dX7_works_88 rfl rfl ?_
          refine q_iconst (v := nI 4) B dX7_works_89 rfl ?_
          refine q_iconst (v := nI 2) B dX7_works_90 rfl ?_
          refine q_rtV B (s_lay hm ht3 (by decide)) kv_yX7_lay ki_yX7_lay ks_yX7_lay km_X7_47 rfl (ci := 7) rfl rfl hm.1 (by decide) rfl (Nat.le_of_ble_eq_true rfl) dX7_works_91 ?_
          refine q_aload_n B dX7_works_94 rfl rfl ?_
          refine q_iload_n B dX7_works_95 rfl rfl ?_
          refine q_iconst (v := nI 3) B dX7_works_96 rfl ?_
          refine q_rtV B (s_more hm (by omega) (by decide)) kv_yX7_more ki_yX7_more ks_yX7_more km_X7_57 rfl (ci := 7) rfl rfl hm.1 (by decide) rfl (Nat.le_of_ble_eq_true rfl) dX7_works_97 ?_
          refine q_aload_n B dX7_works_100 rfl rfl ?_
          refine q_iload_n B dX7_works_101 rfl rfl ?_
          refine q_rtV B (s_frees hm (by omega)) kv_yX7_frees ki_yX7_frees ks_yX7_frees km_X7_61 rfl (ci := 7) rfl rfl hm.1 (by decide) rfl (Nat.le_of_ble_eq_true rfl) dX7_works_102 ?_
          exact q_vret BM rfl dX7_works_105 ⟨rfl, rfl, by first | (rw [hwk, if_pos c_57]; done) | (rw [hwk, if_neg c_57, if_pos ⟨c_75, c_84⟩]; done) | (rw [hwk, if_neg c_57, if_neg (fun h => c_75 h.1)]; done) | (rw [hwk, if_neg c_57, if_neg (fun h => c_84 h.2)]; done)⟩
    · skip
      refine q_aload_n B dX7_works_60 rfl rfl ?_
      refine q_iload_n B dX7_works_61 rfl rfl ?_
      refine q_iload_n B dX7_works_62 rfl rfl ?_
      refine q_rtV B (s_givesUp hm (by omega) ht3 hk ek1) kv_yX7_givesUp ki_yX7_givesUp ks_yX7_givesUp km_X7_76 rfl (ci := 7) rfl rfl hm.1 (by decide) rfl (Nat.le_of_ble_eq_true rfl) dX7_works_63 ?_
      refine q_goto (tgt := 105) B dX7_works_66 (by decide) ?_
      exact q_vret BM rfl dX7_works_105 ⟨rfl, rfl, by first | (rw [hwk, if_pos c_57]; done) | (rw [hwk, if_neg c_57, if_pos ⟨c_75, c_84⟩]; done) | (rw [hwk, if_neg c_57, if_neg (fun h => c_75 h.1)]; done) | (rw [hwk, if_neg c_57, if_neg (fun h => c_84 h.2)]; done)⟩
  refine q_aload_n B dX7_works_17 rfl rfl ?_
  refine q_iload_n B dX7_works_18 rfl rfl ?_
  refine q_iconst (v := nI 1) B dX7_works_19 rfl ?_
  refine q_rtV B (s_of hm ht3 (by decide)) kv_yX7_of ki_yX7_of ks_yX7_of km_X7_39 rfl (ci := 7) rfl rfl hm.1 (by decide) rfl (Nat.le_of_ble_eq_true rfl) dX7_works_20 ?_
  refine q_if_eq (tgt := 35) B dX7_works_23 (by decide) (fun c_23 => ?_) (fun c_23 => ?_)
  · skip
    refine q_aload_n B dX7_works_35 rfl rfl ?_
    refine q_iload_n B dX7_works_36 rfl rfl ?_
    refine q_iconst (v := nI 3) B dX7_works_37 rfl ?_
    refine q_rtV B (s_of hm ht3 (by decide)) kv_yX7_of ki_yX7_of ks_yX7_of km_X7_39 rfl (ci := 7) rfl rfl hm.1 (by decide) rfl (Nat.le_of_ble_eq_true rfl) dX7_works_38 ?_
    refine q_if_eq (tgt := 56) B dX7_works_41 (by decide) (fun c_41 => ?_) (fun c_41 => ?_)
    · skip
      exact q_tk (j_56 _ _ (by first | (simp [a_work1, c_23, c_41]; done) | (simp [a_work1, c_23]; done))) rfl (q_ac rfl (q_ac rfl (q_ac rfl (q_ac rfl q_an))))
    · skip
      refine q_aload_n B dX7_works_44 rfl rfl ?_
      refine q_iload_n B dX7_works_45 rfl rfl ?_
      refine q_aload_n B dX7_works_46 rfl rfl ?_
      refine q_iload_n B dX7_works_47 rfl rfl ?_
      refine q_iconst (v := nI 1) B dX7_works_48 rfl ?_
      refine q_rtV B (s_fixer0 hm (by omega) (by decide)) kv_yX7_fixer0 ki_yX7_fixer0 ks_yX7_fixer0 km_X7_51 rfl (ci := 7) rfl rfl hm.1 (by decide) rfl (Nat.le_of_ble_eq_true rfl) dX7_works_49 ?_
      refine q_rtV B (s_tests hm ht3) kv_yX7_tests ki_yX7_tests ks_yX7_tests km_X7_72 rfl (ci := 7) rfl rfl hm.1 (by decide) rfl (Nat.le_of_ble_eq_true rfl) dX7_works_52 ?_
      refine q_istore_n B dX7_works_55 rfl (Nat.le_of_ble_eq_true rfl) rfl ?_
      exact q_tk (j_56 _ _ (by first | (simp [a_work1, c_23, c_41]; done) | (simp [a_work1, c_23]; done))) rfl (q_ac rfl (q_ac rfl (q_ac rfl (q_ac rfl q_an))))
  · skip
    obtain ⟨m, hm2, em⟩ := hW1.2.2.2.1 t htT
    have hmz : m ≠ 0 := fun q => c_23 (by rw [em, q]; rfl)
    refine q_aload_n B dX7_works_26 rfl rfl ?_
    refine q_iload_n B dX7_works_27 rfl rfl ?_
    refine q_rtV B (s_exchanges hm ht3 hm2 hmz em) kv_yX7_exchanges ki_yX7_exchanges ks_yX7_exchanges km_X7_68 rfl (ci := 7) rfl rfl hm.1 (by decide) rfl (Nat.le_of_ble_eq_true rfl) dX7_works_28 ?_
    refine q_istore_n B dX7_works_31 rfl (Nat.le_of_ble_eq_true rfl) rfl ?_
    refine q_goto (tgt := 56) B dX7_works_32 (by decide) ?_
    exact q_tk (j_56 _ _ (by first | (simp [a_work1, c_23, c_41]; done) | (simp [a_work1, c_23]; done))) rfl (q_ac rfl (q_ac rfl (q_ac rfl (q_ac rfl q_an))))
set_option maxRecDepth 100000 in
set_option maxHeartbeats 4000000 in
theorem s_takes {Sh : q_Sh} {I : q_Mem} {σ : a_A} {o : Nat} (hm : mOk Sh o) {T F : Nat} (hW : a_W T F σ) {f : Nat} (hf : f < F) : q_Rt mX7_takes 2 [.ref o, .int (nI f)] Sh (q_setA I (o + 1) σ) (none) (q_setA I (o + 1) (a_takes σ f)) := by
  refine q_rt_of (by decide) (Nat.le_of_ble_eq_true rfl) fun Γ BM => ?_
  have B := BM.1
  have hT := hW.1.1
  have hT2 := hW.1.2
  have hF := hW.2.1.1
  have hF2 := hW.2.1.2
  show q_W Γ mX7_takes 0 0 Sh (q_setA I (o + 1) σ) 0 [(0, .ref o), (1, .int (nI f))] []
  refine q_aload_n B dX7_takes_0 rfl rfl ?_
  refine q_aload_n B dX7_takes_1 rfl rfl ?_
  refine q_iload_n B dX7_takes_2 rfl rfl ?_
  refine q_iconst (v := nI 0) B dX7_takes_3 rfl ?_
  refine q_rtV B (s_fixer0_0 hm (by omega)) kv_yX7_fixer0 ki_yX7_fixer0 ks_yX7_fixer0 km_X7_51 rfl (ci := 7) rfl rfl hm.1 (by decide) rfl (Nat.le_of_ble_eq_true rfl) dX7_takes_4 ?_
  refine q_rtV B (s_nextForW hm hW) kv_yX7_nextFor ki_yX7_nextFor ks_yX7_nextFor km_X7_79 rfl (ci := 7) rfl rfl hm.1 (by decide) rfl (Nat.le_of_ble_eq_true rfl) dX7_takes_7 ?_
  refine q_istore_n B dX7_takes_10 rfl (Nat.le_of_ble_eq_true rfl) rfl ?_
  refine q_iload_n B dX7_takes_11 rfl rfl ?_
  refine q_bipush (v := -6) B dX7_takes_12 rfl ?_
  refine q_icmp_eq (tgt := 41) B dX7_takes_14 (by decide) (fun c_14 => ?_) (fun c_14 => ?_)
  · skip
    exact q_vret BM rfl dX7_takes_41 ⟨rfl, rfl, by unfold a_takes; dsimp only; first | (rw [if_pos c_14]; done) | (rw [if_neg c_14, haj]; done)⟩
  · skip
    obtain ⟨j, hj, hbj, -⟩ := (a_next_in hW (σ (27 + 6 * f))).resolve_left c_14
    have haj : a_n (a_next σ (σ (27 + 6 * f))) = j := by rw [hbj]; exact nI_clamp (by omega)
    refine q_aload_n B dX7_takes_17 rfl rfl ?_
    refine q_iload_n B dX7_takes_18 rfl rfl ?_
    refine q_top hbj ?_
    refine q_iconst (v := nI 4) B dX7_takes_19 rfl ?_
    refine q_iconst (v := nI 1) B dX7_takes_20 rfl ?_
    refine q_rtV B (s_lay hm (by omega) (by decide)) kv_yX7_lay ki_yX7_lay ks_yX7_lay km_X7_47 rfl (ci := 7) rfl rfl hm.1 (by decide) rfl (Nat.le_of_ble_eq_true rfl) dX7_takes_21 ?_
    refine q_aload_n B dX7_takes_24 rfl rfl ?_
    refine q_getR B kC_X7 (k := 1) (by decide) rfl kf_X7_7 hm.1 (mR_s hm) dX7_takes_25 ?_
    refine q_bipush (v := nI 27) B dX7_takes_28 rfl ?_
    refine q_bipush (v := nI 6) B dX7_takes_30 rfl ?_
    refine q_iload_n B dX7_takes_32 rfl rfl ?_
    refine q_imul B dX7_takes_33 ?_
    refine q_iadd B dX7_takes_34 ?_
    refine q_iconst (v := nI 2) B dX7_takes_35 rfl ?_
    refine q_iadd B dX7_takes_36 ?_
    refine q_iload_n B dX7_takes_37 rfl rfl ?_
    refine q_iconst (v := 1) B dX7_takes_38 rfl ?_
    refine q_iadd B dX7_takes_39 ?_
    refine q_iastS (n := 27 + 6 * f + 2) B (mA_s hm) (by simp only [nI_add, q_nI_mul]) (by omega) (by decide) dX7_takes_40 ?_
    exact q_vret BM rfl dX7_takes_41 ⟨rfl, rfl, by unfold a_takes; dsimp only; first | (rw [if_pos c_14]; done) | (rw [if_neg c_14, haj]; done)⟩
set_option maxRecDepth 100000 in
set_option maxHeartbeats 4000000 in
theorem s_minute {Sh : q_Sh} {I : q_Mem} {σ : a_A} {o : Nat} (hm : mOk Sh o) {T F : Nat} (hW : a_W T F σ) : q_Rt mX7_minute 4 [.ref o] Sh (q_setA I (o + 1) σ) (none) (q_setA I (o + 1) (a_minute σ)) := by
  refine q_rt_of (by decide) (Nat.le_of_ble_eq_true rfl) fun Γ BM => ?_
  have B := BM.1
  have hT := hW.1.1
  have hT2 := hW.1.2
  have hF := hW.2.1.1
  have hF2 := hW.2.1.2
  show q_W Γ mX7_minute 0 0 Sh (q_setA I (o + 1) σ) 0 [(0, .ref o)] []
  refine q_iconst (v := nI 0) B dX7_minute_0 rfl ?_
  refine q_istore_n B dX7_minute_1 rfl (Nat.le_of_ble_eq_true rfl) rfl ?_
  have hl_2 : ∀ (n i : Nat) (σ1 : a_A), i + n = F → q_fold a_min1 i σ = σ1 → q_W Γ mX7_minute 0 0 Sh (q_setA I (o + 1) σ1) 2 [(0, .ref o), (1, .int (nI i))] [] := by
    intro n
    induction n with
    | zero =>
      intro i σ1 hin hinv
      have hi : i = F := by omega
      subst hi
      have e1 := hinv
      have hW1 : a_W T i σ1 := by rw [← hinv]; exact a_fold_W (f := a_min1) (N := i) (fun j s hj hs => a_min1_W hj hs) i σ (Nat.le_refl i) hW
      have hF1 := hW1.2.1.1
      refine q_iload_n B dX7_minute_2 rfl rfl ?_
      refine q_aload_n B dX7_minute_3 rfl rfl ?_
      refine q_getR B kC_X7 (k := 1) (by decide) rfl kf_X7_7 hm.1 (mR_s hm) dX7_minute_4 ?_
      refine q_iconst (v := nI 2) B dX7_minute_7 rfl ?_
      refine q_ialdS2 (n := 2) B (mA_s hm) rfl (by omega) (by decide) hF1 dX7_minute_8 ?_
      refine q_icmp_ge (tgt := 32) B dX7_minute_9 (by decide) (fun _ => ?_) (fun h => absurd (q_le (Nat.le_refl _) (by omega)) h)
      refine q_iconst (v := nI 0) B dX7_minute_32 rfl ?_
      refine q_istore_n B dX7_minute_33 rfl (Nat.le_of_ble_eq_true rfl) rfl ?_
      have hl_34 : ∀ (n j : Nat) (σ2 : a_A), j + n = i → q_fold a_min2 j σ1 = σ2 → q_W Γ mX7_minute 0 0 Sh (q_setA I (o + 1) σ2) 34 [(0, .ref o), (1, .int (nI j))] [] := by
        intro n
        induction n with
        | zero =>
          intro j σ2 hin hinv2
          have hi : j = i := by omega
          subst hi
          have e2 := hinv2
          have hW2 : a_W T j σ2 := by rw [← hinv2]; exact a_fold_W (f := a_min2) (N := j) (fun j s hj hs => a_min2_W hj hs) j σ1 (Nat.le_refl j) hW1
          have hF1 := hW2.2.1.1
          refine q_iload_n B dX7_minute_34 rfl rfl ?_
          refine q_aload_n B dX7_minute_35 rfl rfl ?_
          refine q_getR B kC_X7 (k := 1) (by decide) rfl kf_X7_7 hm.1 (mR_s hm) dX7_minute_36 ?_
          refine q_iconst (v := nI 2) B dX7_minute_39 rfl ?_
          refine q_ialdS2 (n := 2) B (mA_s hm) rfl (by omega) (by decide) hF1 dX7_minute_40 ?_
          refine q_icmp_ge (tgt := 64) B dX7_minute_41 (by decide) (fun _ => ?_) (fun h => absurd (q_le (Nat.le_refl _) (by omega)) h)
          refine q_iconst (v := nI 0) B dX7_minute_64 rfl ?_
          refine q_istore_n B dX7_minute_65 rfl (Nat.le_of_ble_eq_true rfl) rfl ?_
          have hl_66 : ∀ (n x : Nat) (σ3 : a_A), x + n = T → q_fold a_min3 x σ2 = σ3 → q_W Γ mX7_minute 0 0 Sh (q_setA I (o + 1) σ3) 66 [(0, .ref o), (1, .int (nI x))] [] := by
            intro n
            induction n with
            | zero =>
              intro x σ3 hin hinv3
              have hi : x = T := by omega
              subst hi
              have hW3 : a_W x j σ3 := by rw [← hinv3]; exact a_fold_W (f := a_min3) (N := x) (fun j s hj hs => a_min3_W hj hs) x σ2 (Nat.le_refl x) hW2
              have hT1 := hW3.1.1
              have hmin : a_minute σ = upd σ3 0 (σ3 0 + 1) := by unfold a_minute; dsimp only; rw [a_W_F hW, a_W_T hW, e1, e2, hinv3]
              refine q_iload_n B dX7_minute_66 rfl rfl ?_
              refine q_aload_n B dX7_minute_67 rfl rfl ?_
              refine q_getR B kC_X7 (k := 1) (by decide) rfl kf_X7_7 hm.1 (mR_s hm) dX7_minute_68 ?_
              refine q_iconst (v := nI 1) B dX7_minute_71 rfl ?_
              refine q_ialdS2 (n := 1) B (mA_s hm) rfl (by omega) (by decide) hT1 dX7_minute_72 ?_
              refine q_icmp_ge (tgt := 125) B dX7_minute_73 (by decide) (fun _ => ?_) (fun h => absurd (q_le (Nat.le_refl _) (by omega)) h)
              refine q_aload_n B dX7_minute_125 rfl rfl ?_
              refine q_getR B kC_X7 (k := 1) (by decide) rfl kf_X7_7 hm.1 (mR_s hm) dX7_minute_126 ?_
              refine q_iconst (v := nI 0) B dX7_minute_129 rfl ?_
              refine q_dup2 B dX7_minute_130 rfl rfl ?_
              refine q_ialdS (n := 0) B (mA_s hm) rfl (by omega) (by decide) dX7_minute_131 ?_
              refine q_iconst (v := 1) B dX7_minute_132 rfl ?_
              refine q_iadd B dX7_minute_133 ?_
              refine q_iastS (n := 0) B (mA_s hm) rfl (by omega) (by decide) dX7_minute_134 ?_
              exact q_vret BM rfl dX7_minute_135 ⟨rfl, rfl, by rw [hmin]⟩
            | succ n ih =>
              intro x σ3 hin hinv3
              have hiN : x < T := by omega
              have hW3 : a_W T j σ3 := by rw [← hinv3]; exact a_fold_W (f := a_min3) (N := T) (fun j s hj hs => a_min3_W hj hs) x σ2 (by omega) hW2
              have hT1 := hW3.1.1
              refine q_iload_n B dX7_minute_66 rfl rfl ?_
              refine q_aload_n B dX7_minute_67 rfl rfl ?_
              refine q_getR B kC_X7 (k := 1) (by decide) rfl kf_X7_7 hm.1 (mR_s hm) dX7_minute_68 ?_
              refine q_iconst (v := nI 1) B dX7_minute_71 rfl ?_
              refine q_ialdS2 (n := 1) B (mA_s hm) rfl (by omega) (by decide) hT1 dX7_minute_72 ?_
              refine q_icmp_ge (tgt := 125) B dX7_minute_73 (by decide) (fun h => absurd h (q_nle hiN (by omega))) (fun _ => ?_)
              refine q_aload_n B dX7_minute_76 rfl rfl ?_
              refine q_iload_n B dX7_minute_77 rfl rfl ?_
              refine q_iconst (v := nI 4) B dX7_minute_78 rfl ?_
              refine q_rtV B (s_of hm (by omega) (by decide)) kv_yX7_of ki_yX7_of ks_yX7_of km_X7_39 rfl (ci := 7) rfl rfl hm.1 (by decide) rfl (Nat.le_of_ble_eq_true rfl) dX7_minute_79 ?_
              refine q_if_ne (tgt := 119) B dX7_minute_82 (by decide) (fun c_82 => ?_) (fun c_82 => ?_)
              · skip
                refine q_iinc2 (y := nI (x + 1)) B dX7_minute_119 rfl (q_inc1 _) (Nat.le_of_ble_eq_true rfl) rfl ?_
                refine q_goto (tgt := 66) B dX7_minute_122 (by decide) ?_
                exact q_tk (ih (x + 1) _ (by omega) (by show a_min3 x (q_fold _ x _) = _; rw [hinv3]; first | exact if_pos c_82 | exact if_neg c_82)) rfl (q_ac rfl (q_ac rfl q_an))
              · skip
                refine q_aload_n B dX7_minute_85 rfl rfl ?_
                refine q_iload_n B dX7_minute_86 rfl rfl ?_
                refine q_iconst (v := nI 2) B dX7_minute_87 rfl ?_
                refine q_aload_n B dX7_minute_88 rfl rfl ?_
                refine q_iload_n B dX7_minute_89 rfl rfl ?_
                refine q_iconst (v := nI 2) B dX7_minute_90 rfl ?_
                refine q_rtV B (s_of hm (by omega) (by decide)) kv_yX7_of ki_yX7_of ks_yX7_of km_X7_39 rfl (ci := 7) rfl rfl hm.1 (by decide) rfl (Nat.le_of_ble_eq_true rfl) dX7_minute_91 ?_
                refine q_iconst (v := 1) B dX7_minute_94 rfl ?_
                refine q_isub B dX7_minute_95 ?_
                refine q_rtV B (s_lay hm (by omega) (by decide)) kv_yX7_lay ki_yX7_lay ks_yX7_lay km_X7_47 rfl (ci := 7) rfl rfl hm.1 (by decide) rfl (Nat.le_of_ble_eq_true rfl) dX7_minute_96 ?_
                refine q_aload_n B dX7_minute_99 rfl rfl ?_
                refine q_iload_n B dX7_minute_100 rfl rfl ?_
                refine q_iconst (v := nI 4) B dX7_minute_101 rfl ?_
                refine q_join 116 (if σ3 (57 + 7 * x + 2) - 1 = 0 then nI 4 else 0) ?_ (fun j_102 => ?_)
                · skip
                  refine q_rtV B (s_lay hm (by omega) (by decide)) kv_yX7_lay ki_yX7_lay ks_yX7_lay km_X7_47 rfl (ci := 7) rfl rfl hm.1 (by decide) rfl (Nat.le_of_ble_eq_true rfl) dX7_minute_116 ?_
                  refine q_iinc2 (y := nI (x + 1)) B dX7_minute_119 rfl (q_inc1 _) (Nat.le_of_ble_eq_true rfl) rfl ?_
                  refine q_goto (tgt := 66) B dX7_minute_122 (by decide) ?_
                  exact q_tk (ih (x + 1) _ (by omega) (by show a_min3 x (q_fold _ x _) = _; rw [hinv3]; first | exact if_pos c_82 | exact if_neg c_82)) rfl (q_ac rfl (q_ac rfl q_an))
                · skip
                  refine q_aload_n B dX7_minute_102 rfl rfl ?_
                  refine q_iload_n B dX7_minute_103 rfl rfl ?_
                  refine q_iconst (v := nI 2) B dX7_minute_104 rfl ?_
                  refine q_rtV B (s_of hm (by omega) (by decide)) kv_yX7_of ki_yX7_of ks_yX7_of km_X7_39 rfl (ci := 7) rfl rfl hm.1 (by decide) rfl (Nat.le_of_ble_eq_true rfl) dX7_minute_105 ?_
                  refine q_top (q_upd_at _ _ _) ?_
                  refine q_if_ne (tgt := 115) B dX7_minute_108 (by decide) (fun c_108 => ?_) (fun c_108 => ?_)
                  · skip
                    refine q_iconst (v := 0) B dX7_minute_115 rfl ?_
                    exact q_top (by first | (rw [if_pos c_108]; done) | (rw [if_neg c_108]; done)) j_102
                  · skip
                    refine q_iconst (v := nI 4) B dX7_minute_111 rfl ?_
                    refine q_goto (tgt := 116) B dX7_minute_112 (by decide) ?_
                    exact q_top (by first | (rw [if_pos c_108]; done) | (rw [if_neg c_108]; done)) j_102
          exact q_tk (hl_66 T 0 σ2 (by omega) rfl) rfl (q_ac rfl (q_ac rfl q_an))
        | succ n ih =>
          intro j σ2 hin hinv2
          have hiN : j < i := by omega
          have hW2 : a_W T i σ2 := by rw [← hinv2]; exact a_fold_W (f := a_min2) (N := i) (fun j s hj hs => a_min2_W hj hs) j σ1 (by omega) hW1
          have hF1 := hW2.2.1.1
          refine q_iload_n B dX7_minute_34 rfl rfl ?_
          refine q_aload_n B dX7_minute_35 rfl rfl ?_
          refine q_getR B kC_X7 (k := 1) (by decide) rfl kf_X7_7 hm.1 (mR_s hm) dX7_minute_36 ?_
          refine q_iconst (v := nI 2) B dX7_minute_39 rfl ?_
          refine q_ialdS2 (n := 2) B (mA_s hm) rfl (by omega) (by decide) hF1 dX7_minute_40 ?_
          refine q_icmp_ge (tgt := 64) B dX7_minute_41 (by decide) (fun h => absurd h (q_nle hiN (by omega))) (fun _ => ?_)
          refine q_aload_n B dX7_minute_44 rfl rfl ?_
          refine q_iload_n B dX7_minute_45 rfl rfl ?_
          refine q_iconst (v := nI 2) B dX7_minute_46 rfl ?_
          refine q_rtV B (s_fixer0 hm (by omega) (by decide)) kv_yX7_fixer0 ki_yX7_fixer0 ks_yX7_fixer0 km_X7_51 rfl (ci := 7) rfl rfl hm.1 (by decide) rfl (Nat.le_of_ble_eq_true rfl) dX7_minute_47 ?_
          refine q_if_le (tgt := 58) B dX7_minute_50 (by decide) (fun c_50 => ?_) (fun c_50 => ?_)
          · skip
            refine q_iinc2 (y := nI (j + 1)) B dX7_minute_58 rfl (q_inc1 _) (Nat.le_of_ble_eq_true rfl) rfl ?_
            refine q_goto (tgt := 34) B dX7_minute_61 (by decide) ?_
            exact q_tk (ih (j + 1) _ (by omega) (by show a_min2 j (q_fold _ j _) = _; rw [hinv2]; first | exact if_pos (Int32.not_le.mp c_50) | exact if_neg (Int32.not_lt.mpr c_50))) rfl (q_ac rfl (q_ac rfl q_an))
          · skip
            have hp := Int32.not_le.mp c_50
            obtain ⟨t, ht3, hh⟩ := a_has_pos hW2 hiN hp
            refine q_aload_n B dX7_minute_53 rfl rfl ?_
            refine q_iload_n B dX7_minute_54 rfl rfl ?_
            refine q_rtV B (s_works hm hW2 hiN ht3 hh) kv_yX7_works ki_yX7_works ks_yX7_works km_X7_85 rfl (ci := 7) rfl rfl hm.1 (by decide) rfl (Nat.le_of_ble_eq_true rfl) dX7_minute_55 ?_
            refine q_iinc2 (y := nI (j + 1)) B dX7_minute_58 rfl (q_inc1 _) (Nat.le_of_ble_eq_true rfl) rfl ?_
            refine q_goto (tgt := 34) B dX7_minute_61 (by decide) ?_
            exact q_tk (ih (j + 1) _ (by omega) (by show a_min2 j (q_fold _ j _) = _; rw [hinv2]; first | exact if_pos (Int32.not_le.mp c_50) | exact if_neg (Int32.not_lt.mpr c_50))) rfl (q_ac rfl (q_ac rfl q_an))
      exact q_tk (hl_34 i 0 σ1 (by omega) rfl) rfl (q_ac rfl (q_ac rfl q_an))
    | succ n ih =>
      intro i σ1 hin hinv
      have hiN : i < F := by omega
      have hW1 : a_W T F σ1 := by rw [← hinv]; exact a_fold_W (f := a_min1) (N := F) (fun j s hj hs => a_min1_W hj hs) i σ (by omega) hW
      have hF1 := hW1.2.1.1
      refine q_iload_n B dX7_minute_2 rfl rfl ?_
      refine q_aload_n B dX7_minute_3 rfl rfl ?_
      refine q_getR B kC_X7 (k := 1) (by decide) rfl kf_X7_7 hm.1 (mR_s hm) dX7_minute_4 ?_
      refine q_iconst (v := nI 2) B dX7_minute_7 rfl ?_
      refine q_ialdS2 (n := 2) B (mA_s hm) rfl (by omega) (by decide) hF1 dX7_minute_8 ?_
      refine q_icmp_ge (tgt := 32) B dX7_minute_9 (by decide) (fun h => absurd h (q_nle hiN (by omega))) (fun _ => ?_)
      refine q_aload_n B dX7_minute_12 rfl rfl ?_
      refine q_iload_n B dX7_minute_13 rfl rfl ?_
      refine q_iconst (v := nI 2) B dX7_minute_14 rfl ?_
      refine q_rtV B (s_fixer0 hm (by omega) (by decide)) kv_yX7_fixer0 ki_yX7_fixer0 ks_yX7_fixer0 km_X7_51 rfl (ci := 7) rfl rfl hm.1 (by decide) rfl (Nat.le_of_ble_eq_true rfl) dX7_minute_15 ?_
      refine q_if_ne (tgt := 26) B dX7_minute_18 (by decide) (fun c_18 => ?_) (fun c_18 => ?_)
      · skip
        refine q_iinc2 (y := nI (i + 1)) B dX7_minute_26 rfl (q_inc1 _) (Nat.le_of_ble_eq_true rfl) rfl ?_
        refine q_goto (tgt := 2) B dX7_minute_29 (by decide) ?_
        exact q_tk (ih (i + 1) _ (by omega) (by show a_min1 i (q_fold _ i _) = _; rw [hinv]; first | exact if_pos c_18 | exact if_neg c_18)) rfl (q_ac rfl (q_ac rfl q_an))
      · skip
        refine q_aload_n B dX7_minute_21 rfl rfl ?_
        refine q_iload_n B dX7_minute_22 rfl rfl ?_
        refine q_rtV B (s_takes hm hW1 hiN) kv_yX7_takes ki_yX7_takes ks_yX7_takes km_X7_82 rfl (ci := 7) rfl rfl hm.1 (by decide) rfl (Nat.le_of_ble_eq_true rfl) dX7_minute_23 ?_
        refine q_iinc2 (y := nI (i + 1)) B dX7_minute_26 rfl (q_inc1 _) (Nat.le_of_ble_eq_true rfl) rfl ?_
        refine q_goto (tgt := 2) B dX7_minute_29 (by decide) ?_
        exact q_tk (ih (i + 1) _ (by omega) (by show a_min1 i (q_fold _ i _) = _; rw [hinv]; first | exact if_pos c_18 | exact if_neg c_18)) rfl (q_ac rfl (q_ac rfl q_an))
  exact q_tk (hl_2 F 0 σ (by omega) rfl) rfl (q_ac rfl (q_ac rfl q_an))
set_option maxRecDepth 100000 in
set_option maxHeartbeats 4000000 in
theorem s_minutes {Sh : q_Sh} {I : q_Mem} {σ : a_A} {o : Nat} (hm : mOk Sh o) {T F : Nat} (hW : a_W T F σ) {k : Nat} (hk : k < 2 ^ 31) : q_Rt mX7_minutes 5 [.ref o, .int (nI k)] Sh (q_setA I (o + 1) σ) (some (.int (a_how (a_minutes k σ) (nI 2) - a_how σ (nI 2)))) (q_setA I (o + 1) (a_minutes k σ)) := by
  refine q_rt_of (by decide) (Nat.le_of_ble_eq_true rfl) fun Γ BM => ?_
  have B := BM.1
  show q_W Γ mX7_minutes 0 0 Sh (q_setA I (o + 1) σ) 0 [(0, .ref o), (1, .int (nI k))] []
  refine q_aload_n B dX7_minutes_0 rfl rfl ?_
  refine q_iconst (v := nI 2) B dX7_minutes_1 rfl ?_
  refine q_rtV B (s_withHowW hm hW) kv_yX7_withHow ki_yX7_withHow ks_yX7_withHow km_X7_88 rfl (ci := 7) rfl rfl hm.1 (by decide) rfl (Nat.le_of_ble_eq_true rfl) dX7_minutes_2 ?_
  refine q_istore_n B dX7_minutes_5 rfl (Nat.le_of_ble_eq_true rfl) rfl ?_
  refine q_iconst (v := nI 0) B dX7_minutes_6 rfl ?_
  refine q_istore_n B dX7_minutes_7 rfl (Nat.le_of_ble_eq_true rfl) rfl ?_
  have hl_8 : ∀ (n i : Nat) (σ1 : a_A), i + n = k → a_minutes i σ = σ1 → q_W Γ mX7_minutes 0 0 Sh (q_setA I (o + 1) σ1) 8 [(0, .ref o), (1, .int (nI k)), (2, .int (a_how σ (nI 2))), (3, .int (nI i))] [] := by
    intro n
    induction n with
    | zero =>
      intro i σ1 hin hinv
      have hi : i = k := by omega
      subst hi
      refine q_iload_n B dX7_minutes_8 rfl rfl ?_
      refine q_iload_n B dX7_minutes_9 rfl rfl ?_
      refine q_icmp_ge (tgt := 23) B dX7_minutes_10 (by decide) (fun _ => ?_) (fun h => absurd (q_le (Nat.le_refl _) hk) h)
      have hW1 : a_W T F σ1 := by rw [← hinv]; exact a_minutes_W hW i
      refine q_aload_n B dX7_minutes_23 rfl rfl ?_
      refine q_iconst (v := nI 2) B dX7_minutes_24 rfl ?_
      refine q_rtV B (s_withHowW hm hW1) kv_yX7_withHow ki_yX7_withHow ks_yX7_withHow km_X7_88 rfl (ci := 7) rfl rfl hm.1 (by decide) rfl (Nat.le_of_ble_eq_true rfl) dX7_minutes_25 ?_
      refine q_iload_n B dX7_minutes_28 rfl rfl ?_
      refine q_isub B dX7_minutes_29 ?_
      exact q_iret BM rfl dX7_minutes_30 ⟨by rw [hinv], rfl, by rw [hinv]⟩
    | succ n ih =>
      intro i σ1 hin hinv
      have hiN : i < k := by omega
      have hW1 : a_W T F σ1 := by rw [← hinv]; exact a_minutes_W hW i
      refine q_iload_n B dX7_minutes_8 rfl rfl ?_
      refine q_iload_n B dX7_minutes_9 rfl rfl ?_
      refine q_icmp_ge (tgt := 23) B dX7_minutes_10 (by decide) (fun h => absurd h (q_nle hiN hk)) (fun _ => ?_)
      refine q_aload_n B dX7_minutes_13 rfl rfl ?_
      refine q_rtV B (s_minute hm hW1) kv_yX7_minute ki_yX7_minute ks_yX7_minute km_X7_91 rfl (ci := 7) rfl rfl hm.1 (by decide) rfl (Nat.le_of_ble_eq_true rfl) dX7_minutes_14 ?_
      refine q_iinc2 (y := nI (i + 1)) B dX7_minutes_17 rfl (q_inc1 _) (Nat.le_of_ble_eq_true rfl) rfl ?_
      refine q_goto (tgt := 8) B dX7_minutes_20 (by decide) ?_
      exact q_tk (ih (i + 1) _ (by omega) (by rw [← hinv]; rfl)) rfl (q_ac rfl (q_ac rfl (q_ac rfl (q_ac rfl q_an))))
  exact q_tk (hl_8 k 0 σ (by omega) rfl) rfl (q_ac rfl (q_ac rfl (q_ac rfl (q_ac rfl q_an))))
end
section
/-! beside one array that is looked at as a whole (ls), other cells of the memory; what lies behind an array's end is nothing -/
theorem q_setA_comm {I : q_Mem} {l m : Nat} {f g : Nat → Int32} (h : l ≠ m) : q_setA (q_setA I l f) m g = q_setA (q_setA I m g) l f := by
  funext a
  by_cases h1 : a = l <;> by_cases h2 : a = m <;> simp_all [q_setA]
theorem q_arrV_congr {cA : ClassId} {n : Nat} {f g : Nat → Value} (h : ∀ j, j < n → f j = g j) : arrV cA n f = arrV cA n g := by
  unfold arrV
  congr 1
  apply Array.ext
  · simp
  · intro i h1 h2
    simp at h1 ⊢
    first | exact h i h1 | simp [h i h1]
section QROWS4
variable {K0 : Option Value → q_Sh → q_Mem → Prop} {Γ : q_Cx} {Y : q_Mth} {d rc rs : Nat} {Sh : q_Sh} {I : q_Mem} {pc : Nat} {lv : List (Nat × Value)} {st : List Value}
theorem q_norm {l n t : Nat} {f g : Nat → Int32} (hl : q_ar Sh l t n) (ht : t < 3) (h : ∀ j, j < n → f j = g j) (k : q_W Γ Y rc rs Sh (q_setA I l g) pc lv st) : q_W Γ Y rc rs Sh (q_setA I l f) pc lv st := by
  intro ad H locs cells slots ls h1 h2 hP hD hS hn hls
  refine k ad H locs cells slots ls h1 h2 (fun i q hq => ?_) ⟨fun i j p q hp hq e => ?_, fun i q hq => ?_⟩ hS hn hls
  · by_cases hi : i < Sh.1
    · rw [q_ws_at hi] at hq
      cases hq
      have h0 := hP i _ (q_ws_at hi)
      by_cases e : i = l
      · subst e
        rw [q_E_arr hl.2, if_pos ht] at h0 ⊢
        show H[_]? = some (vp_cell _ _)
        have h3 : H[ad i]? = some (vp_cell (q_cA Γ t) (n, .inl (q_setA I i f i))) := h0
        rw [h3]
        rw [vp_cell_i, vp_cell_i, q_setA_at, q_setA_at]
        exact congrArg some (q_arrV_congr (fun j hj => by rw [h j hj]))
      · have e2 : q_E (q_cA Γ) ad Sh.2.1 Sh.2.2 (q_setA I l g) i = q_E (q_cA Γ) ad Sh.2.1 Sh.2.2 (q_setA I l f) i := by
          unfold q_E q_fv
          simp only [q_setA_ne e]
        rw [e2]
        exact h0
    · have : (q_ws (q_cA Γ) ad Sh (q_setA I l g))[i]? = none := by simp [q_ws]; omega
      rw [this] at hq
      cases hq
  · have g1 : i < Sh.1 := by
      have := (List.getElem?_eq_some_iff.mp hp).1
      simpa [q_ws] using this
    have g2 : j < Sh.1 := by
      have := (List.getElem?_eq_some_iff.mp hq).1
      simpa [q_ws] using this
    rw [q_ws_at g1] at hp
    rw [q_ws_at g2] at hq
    cases hp
    cases hq
    exact hD.1 i j _ _ (q_ws_at g1) (q_ws_at g2) e
  · have g1 : i < Sh.1 := by
      have := (List.getElem?_eq_some_iff.mp hq).1
      simpa [q_ws] using this
    rw [q_ws_at g1] at hq
    cases hq
    have h5 := hD.2 i _ (q_ws_at (I := q_setA I l f) g1)
    exact h5
theorem q_getIS (B : q_Ok Γ Y d) {C : String} {T : u_T} {N ci i k l ls : Nat} {σ : Nat → Int32} (hne : l ≠ ls) (hC : q_Cl ci C T N) (hk : k < N) (hr : q_isR (q_ty ci k) = false) (hw : Cond.fieldLink Y.1.cls i (T k).1 (T k).2.1 (T k).2.2.1 ∈ q_WS) (hl : q_is Sh l ci) (hd : decode Y.2.1 pc = .ok (.getfield i, 3))
    (kk : q_W Γ Y rc rs Sh (q_setA I ls σ) (pc + 3) lv (.int (I l k) :: st)) : q_W Γ Y rc rs Sh (q_setA I ls σ) pc lv (.ref l :: st) :=
  q_getI2 B hC hk hr hw hl (by rw [q_setA_ne hne]) hd kk
theorem q_putIS (B : q_Ok Γ Y d) {C : String} {T : u_T} {N ci i k l ls : Nat} {v : Int32} {σ : Nat → Int32} (hne : l ≠ ls) (hC : q_Cl ci C T N) (hk : k < N) (hr : q_isR (q_ty ci k) = false) (hw : Cond.fieldLink Y.1.cls i (T k).1 (T k).2.1 (T k).2.2.1 ∈ q_WS) (hfin : (T k).2.2.2 = false) (hnar : narrow (q_ty ci k) (.int v) = .int v) (hfit : fits (q_ty ci k) (.int v) = true) (hl : q_is Sh l ci) (hd : decode Y.2.1 pc = .ok (.putfield i, 3))
    (kk : q_W Γ Y rc rs Sh (q_setA (q_setA I l (upd (I l) k v)) ls σ) (pc + 3) lv st) : q_W Γ Y rc rs Sh (q_setA I ls σ) pc lv (.int v :: .ref l :: st) :=
  q_putI2 B hC hk hr hw hfin hnar hfit hl hd (by rw [q_setA_ne hne, q_setA_comm (Ne.symm hne)]; exact kk)
/-- the same value again -/
theorem q_putSame (B : q_Ok Γ Y d) {C : String} {T : u_T} {N ci i k l : Nat} {v : Int32} (hC : q_Cl ci C T N) (hk : k < N) (hr : q_isR (q_ty ci k) = false) (hw : Cond.fieldLink Y.1.cls i (T k).1 (T k).2.1 (T k).2.2.1 ∈ q_WS) (hfin : (T k).2.2.2 = false) (hnar : narrow (q_ty ci k) (.int v) = .int v) (hfit : fits (q_ty ci k) (.int v) = true) (hl : q_is Sh l ci) (e : I l k = v) (hd : decode Y.2.1 pc = .ok (.putfield i, 3))
    (kk : q_W Γ Y rc rs Sh I (pc + 3) lv st) : q_W Γ Y rc rs Sh I pc lv (.int v :: .ref l :: st) := by
  refine q_putI2 B hC hk hr hw hfin hnar hfit hl hd ?_
  have e2 : upd (I l) k v = I l := by
    funext a
    by_cases h : a = k
    · subst h; simp [upd, e]
    · simp [upd, h]
  rw [e2, q_setA_self]
  exact kk
theorem q_ialdO (B : q_Ok Γ Y d) {l n N ls : Nat} {i : Int32} {σ : Nat → Int32} (hne : l ≠ ls) (hl : q_ar Sh l 0 N) (e : i = nI n) (hlt : n < N) (hN : N < 2 ^ 31) (hd : decode Y.2.1 pc = .ok (.iaload, 1)) (kk : q_W Γ Y rc rs Sh (q_setA I ls σ) (pc + 1) lv (.int (I l n) :: st)) : q_W Γ Y rc rs Sh (q_setA I ls σ) pc lv (.int i :: .ref l :: st) :=
  q_iald2 B hl e hlt hN (by rw [q_setA_ne hne]) hd kk
theorem q_zaldO (B : q_Ok Γ Y d) {l n N ls : Nat} {i : Int32} {σ : Nat → Int32} (hne : l ≠ ls) (hl : q_ar Sh l 1 N) (e : i = nI n) (hlt : n < N) (hN : N < 2 ^ 31) (hd : decode Y.2.1 pc = .ok (.baload, 1)) (kk : q_W Γ Y rc rs Sh (q_setA I ls σ) (pc + 1) lv (.int (I l n) :: st)) : q_W Γ Y rc rs Sh (q_setA I ls σ) pc lv (.int i :: .ref l :: st) :=
  q_zald B hl e hlt hN hd (by rw [q_setA_ne hne]; exact kk)
theorem q_iastO (B : q_Ok Γ Y d) {l n N ls : Nat} {i v : Int32} {σ : Nat → Int32} (hne : l ≠ ls) (hl : q_ar Sh l 0 N) (e : i = nI n) (hlt : n < N) (hN : N < 2 ^ 31) (hd : decode Y.2.1 pc = .ok (.iastore, 1)) (kk : q_W Γ Y rc rs Sh (q_setA (q_setA I l (upd (I l) n v)) ls σ) (pc + 1) lv st) : q_W Γ Y rc rs Sh (q_setA I ls σ) pc lv (.int v :: .int i :: .ref l :: st) :=
  q_iast B hl e hlt hN hd (by rw [q_setA_ne hne, q_setA_comm (Ne.symm hne)]; exact kk)
theorem q_zastO (B : q_Ok Γ Y d) {l n N ls : Nat} {i v : Int32} {σ : Nat → Int32} (hne : l ≠ ls) (hl : q_ar Sh l 1 N) (e : i = nI n) (hlt : n < N) (hN : N < 2 ^ 31) (hv : vp_nar .boolean v = v) (hd : decode Y.2.1 pc = .ok (.bastore, 1)) (kk : q_W Γ Y rc rs Sh (q_setA (q_setA I l (upd (I l) n v)) ls σ) (pc + 1) lv st) : q_W Γ Y rc rs Sh (q_setA I ls σ) pc lv (.int v :: .int i :: .ref l :: st) :=
  q_zast B hl e hlt hN hv hd (by rw [q_setA_ne hne, q_setA_comm (Ne.symm hne)]; exact kk)
end QROWS4
def a_cp (n : Nat) (f g : Nat → Int32) : Nat → Int32 := fun k => if k < n then f k else g k
theorem a_cp_0 (f g : Nat → Int32) : a_cp 0 f g = g := by funext k; simp [a_cp]
theorem a_cp_s (n : Nat) (f g : Nat → Int32) : upd (a_cp n f g) n (f n) = a_cp (n + 1) f g := by
  funext k
  by_cases h : k = n
  · subst h; simp [upd, a_cp]
  · by_cases h2 : k < n
    · simp [upd, a_cp, h, h2, Nat.lt_succ_of_lt h2]
    · have : ¬ k < n + 1 := by omega
      simp [upd, a_cp, h, h2, this]
theorem a_cp_at {n k : Nat} {f g : Nat → Int32} (h : k < n) : a_cp n f g k = f k := by simp [a_cp, h]
end
section
theorem a_b01 {P : Prop} {h : Decidable P} : ((@ite Int32 P h 1 0) = 0) ↔ ¬ P := by
  constructor
  · exact a_b0
  · intro q; exact if_neg q
set_option maxRecDepth 100000 in
set_option maxHeartbeats 4000000 in
theorem s_refusesThing {Sh : q_Sh} {I : q_Mem} {σ : a_A} {o : Nat} (hm : mOk Sh o) {k b p t : Int32} : q_Rt mX7_refusesThing 1 [.ref o, .int k, .int b, .int p, .int t] Sh (q_setA I (o + 1) σ) (some (.int (a_refT σ k b p t))) (q_setA I (o + 1) σ) := by
  refine q_rt_of (by decide) (Nat.le_of_ble_eq_true rfl) fun Γ BM => ?_
  have B := BM.1
  show q_W Γ mX7_refusesThing 0 0 Sh (q_setA I (o + 1) σ) 0 [(0, .ref o), (1, .int k), (2, .int b), (3, .int p), (4, .int t)] []
  refine q_iload_n B dX7_refusesThing_0 rfl rfl ?_
  refine q_iconst (v := nI 0) B dX7_refusesThing_1 rfl ?_
  refine q_iconst (v := nI 5) B dX7_refusesThing_2 rfl ?_
  refine q_rtS B s_in kv_yX7_in kt_yX7_in km_X7_94 rfl (by decide) rfl (Nat.le_of_ble_eq_true rfl) dX7_refusesThing_3 ?_
  refine q_if_ne (tgt := 11) B dX7_refusesThing_6 (by decide) (fun c_6 => ?_) (fun c_6 => ?_)
  · skip
    have h6 := a_b1 c_6
    obtain ⟨kk, hkk, ek⟩ := a_in06 rfl rfl (by decide) h6
    have hk2 : a_n k = kk := by rw [ek]; exact nI_clamp (by omega)
    refine q_iload_n B dX7_refusesThing_11 rfl rfl ?_
    refine q_iload_n B dX7_refusesThing_12 rfl rfl ?_
    refine q_top ek ?_
    refine q_rtS B (s_partsOf (k := kk) (by omega)) kv_yX7_partsOf kt_yX7_partsOf km_X7_43 rfl (by decide) rfl (Nat.le_of_ble_eq_true rfl) dX7_refusesThing_13 ?_
    refine q_iconst (v := -1) B dX7_refusesThing_16 rfl ?_
    refine q_ixor B dX7_refusesThing_17 ?_
    refine q_iand B dX7_refusesThing_18 ?_
    refine q_if_ne (tgt := 43) B dX7_refusesThing_19 (by decide) (fun c_19 => ?_) (fun c_19 => ?_)
    · skip
      refine q_bipush (v := -2) B dX7_refusesThing_43 rfl ?_
      exact q_iret BM rfl dX7_refusesThing_45 ⟨by rw [a_refT, if_neg (not_not_intro h6), hk2]; first | (rw [if_pos (Or.inl (Or.inl c_19))]; done) | (rw [if_pos (Or.inl (Or.inr h29))]; done) | (rw [if_pos (Or.inr h40)]; done), rfl, rfl⟩
    · skip
      refine q_iload_n B dX7_refusesThing_22 rfl rfl ?_
      refine q_iconst (v := nI 1) B dX7_refusesThing_23 rfl ?_
      refine q_bipush (v := nI 99) B dX7_refusesThing_24 rfl ?_
      refine q_rtS B s_in kv_yX7_in kt_yX7_in km_X7_94 rfl (by decide) rfl (Nat.le_of_ble_eq_true rfl) dX7_refusesThing_26 ?_
      refine q_if_eq (tgt := 43) B dX7_refusesThing_29 (by decide) (fun c_29 => ?_) (fun c_29 => ?_)
      · skip
        have h29 := a_b0 c_29
        refine q_bipush (v := -2) B dX7_refusesThing_43 rfl ?_
        exact q_iret BM rfl dX7_refusesThing_45 ⟨by rw [a_refT, if_neg (not_not_intro h6), hk2]; first | (rw [if_pos (Or.inl (Or.inl c_19))]; done) | (rw [if_pos (Or.inl (Or.inr h29))]; done) | (rw [if_pos (Or.inr h40)]; done), rfl, rfl⟩
      · skip
        have h29 := a_b1 c_29
        refine q_iload B dX7_refusesThing_32 rfl ?_
        refine q_iconst (v := nI 0) B dX7_refusesThing_34 rfl ?_
        refine q_bipush (v := nI 7) B dX7_refusesThing_35 rfl ?_
        refine q_rtS B s_in kv_yX7_in kt_yX7_in km_X7_94 rfl (by decide) rfl (Nat.le_of_ble_eq_true rfl) dX7_refusesThing_37 ?_
        refine q_if_ne (tgt := 46) B dX7_refusesThing_40 (by decide) (fun c_40 => ?_) (fun c_40 => ?_)
        · skip
          have h40 := a_b1 c_40
          refine q_aload_n B dX7_refusesThing_46 rfl rfl ?_
          refine q_getR B kC_X7 (k := 1) (by decide) rfl kf_X7_7 hm.1 (mR_s hm) dX7_refusesThing_47 ?_
          refine q_iconst (v := nI 1) B dX7_refusesThing_50 rfl ?_
          refine q_ialdS (n := 1) B (mA_s hm) rfl (by omega) (by decide) dX7_refusesThing_51 ?_
          refine q_bipush (v := nI 30) B dX7_refusesThing_52 rfl ?_
          refine q_icmp_ne (tgt := 62) B dX7_refusesThing_54 (by decide) (fun c_54 => ?_) (fun c_54 => ?_)
          · skip
            refine q_iconst (v := 0) B dX7_refusesThing_62 rfl ?_
            exact q_iret BM rfl dX7_refusesThing_63 ⟨by rw [a_refT, if_neg (not_not_intro h6), hk2, if_neg (fun h => h.elim (fun h => h.elim (fun h => h c_19) (fun h => h h29)) (fun h => h h40))]; first | (rw [if_pos c_54]; done) | (rw [if_neg c_54]; done), rfl, rfl⟩
          · skip
            refine q_bipush (v := -4) B dX7_refusesThing_57 rfl ?_
            refine q_goto (tgt := 63) B dX7_refusesThing_59 (by decide) ?_
            exact q_iret BM rfl dX7_refusesThing_63 ⟨by rw [a_refT, if_neg (not_not_intro h6), hk2, if_neg (fun h => h.elim (fun h => h.elim (fun h => h c_19) (fun h => h h29)) (fun h => h h40))]; first | (rw [if_pos c_54]; done) | (rw [if_neg c_54]; done), rfl, rfl⟩
        · skip
          have h40 := a_b0 c_40
          refine q_bipush (v := -2) B dX7_refusesThing_43 rfl ?_
          exact q_iret BM rfl dX7_refusesThing_45 ⟨by rw [a_refT, if_neg (not_not_intro h6), hk2]; first | (rw [if_pos (Or.inl (Or.inl c_19))]; done) | (rw [if_pos (Or.inl (Or.inr h29))]; done) | (rw [if_pos (Or.inr h40)]; done), rfl, rfl⟩
  · skip
    have h6 := a_b0 c_6
    refine q_iconst (v := -1) B dX7_refusesThing_9 rfl ?_
    exact q_iret BM rfl dX7_refusesThing_10 ⟨by rw [a_refT, if_pos h6], rfl, rfl⟩
set_option maxRecDepth 100000 in
set_option maxHeartbeats 4000000 in
theorem s_refusesFixer {Sh : q_Sh} {I : q_Mem} {σ : a_A} {o : Nat} (hm : mOk Sh o) {k c : Int32} : q_Rt mX7_refusesFixer 1 [.ref o, .int k, .int c] Sh (q_setA I (o + 1) σ) (some (.int (a_refF σ k c))) (q_setA I (o + 1) σ) := by
  refine q_rt_of (by decide) (Nat.le_of_ble_eq_true rfl) fun Γ BM => ?_
  have B := BM.1
  show q_W Γ mX7_refusesFixer 0 0 Sh (q_setA I (o + 1) σ) 0 [(0, .ref o), (1, .int k), (2, .int c)] []
  refine q_iload_n B dX7_refusesFixer_0 rfl rfl ?_
  refine q_iconst (v := nI 1) B dX7_refusesFixer_1 rfl ?_
  refine q_bipush (v := nI 63) B dX7_refusesFixer_2 rfl ?_
  refine q_rtS B s_in kv_yX7_in kt_yX7_in km_X7_94 rfl (by decide) rfl (Nat.le_of_ble_eq_true rfl) dX7_refusesFixer_4 ?_
  refine q_if_eq (tgt := 20) B dX7_refusesFixer_7 (by decide) (fun c_7 => ?_) (fun c_7 => ?_)
  · skip
    have h7 := a_b0 c_7
    refine q_bipush (v := -2) B dX7_refusesFixer_20 rfl ?_
    exact q_iret BM rfl dX7_refusesFixer_22 ⟨by rw [a_refF]; first | (rw [if_pos (Or.inl h7)]; done) | (rw [if_pos (Or.inr h17)]; done), rfl, rfl⟩
  · skip
    have h7 := a_b1 c_7
    refine q_iload_n B dX7_refusesFixer_10 rfl rfl ?_
    refine q_iconst (v := nI 0) B dX7_refusesFixer_11 rfl ?_
    refine q_bipush (v := nI 9) B dX7_refusesFixer_12 rfl ?_
    refine q_rtS B s_in kv_yX7_in kt_yX7_in km_X7_94 rfl (by decide) rfl (Nat.le_of_ble_eq_true rfl) dX7_refusesFixer_14 ?_
    refine q_if_ne (tgt := 23) B dX7_refusesFixer_17 (by decide) (fun c_17 => ?_) (fun c_17 => ?_)
    · skip
      have h17 := a_b1 c_17
      refine q_aload_n B dX7_refusesFixer_23 rfl rfl ?_
      refine q_getR B kC_X7 (k := 1) (by decide) rfl kf_X7_7 hm.1 (mR_s hm) dX7_refusesFixer_24 ?_
      refine q_iconst (v := nI 2) B dX7_refusesFixer_27 rfl ?_
      refine q_ialdS (n := 2) B (mA_s hm) rfl (by omega) (by decide) dX7_refusesFixer_28 ?_
      refine q_iconst (v := nI 5) B dX7_refusesFixer_29 rfl ?_
      refine q_icmp_ne (tgt := 38) B dX7_refusesFixer_30 (by decide) (fun c_30 => ?_) (fun c_30 => ?_)
      · skip
        refine q_iconst (v := 0) B dX7_refusesFixer_38 rfl ?_
        exact q_iret BM rfl dX7_refusesFixer_39 ⟨by rw [a_refF, if_neg (fun h => h.elim (fun h => h h7) (fun h => h h17))]; first | (rw [if_pos c_30]; done) | (rw [if_neg c_30]; done), rfl, rfl⟩
      · skip
        refine q_bipush (v := -4) B dX7_refusesFixer_33 rfl ?_
        refine q_goto (tgt := 39) B dX7_refusesFixer_35 (by decide) ?_
        exact q_iret BM rfl dX7_refusesFixer_39 ⟨by rw [a_refF, if_neg (fun h => h.elim (fun h => h h7) (fun h => h h17))]; first | (rw [if_pos c_30]; done) | (rw [if_neg c_30]; done), rfl, rfl⟩
    · skip
      have h17 := a_b0 c_17
      refine q_bipush (v := -2) B dX7_refusesFixer_20 rfl ?_
      exact q_iret BM rfl dX7_refusesFixer_22 ⟨by rw [a_refF]; first | (rw [if_pos (Or.inl h7)]; done) | (rw [if_pos (Or.inr h17)]; done), rfl, rfl⟩
set_option maxRecDepth 100000 in
set_option maxHeartbeats 4000000 in
theorem s_refusesDrawer {Sh : q_Sh} {I : q_Mem} {p m : Int32} : q_Rt mX7_refusesDrawer 1 [.int p, .int m] Sh (I) (some (.int (a_refD p m))) (I) := by
  refine q_rt_of (by decide) (Nat.le_of_ble_eq_true rfl) fun Γ BM => ?_
  have B := BM.1
  show q_W Γ mX7_refusesDrawer 0 0 Sh (I) 0 [(0, .int p), (1, .int m)] []
  refine q_iload_n B dX7_refusesDrawer_0 rfl rfl ?_
  refine q_iconst (v := nI 0) B dX7_refusesDrawer_1 rfl ?_
  refine q_bipush (v := nI 7) B dX7_refusesDrawer_2 rfl ?_
  refine q_rtS B s_in kv_yX7_in kt_yX7_in km_X7_94 rfl (by decide) rfl (Nat.le_of_ble_eq_true rfl) dX7_refusesDrawer_4 ?_
  refine q_if_ne (tgt := 14) B dX7_refusesDrawer_7 (by decide) (fun c_7 => ?_) (fun c_7 => ?_)
  · skip
    have h7 := a_b1 c_7
    refine q_iload_n B dX7_refusesDrawer_14 rfl rfl ?_
    refine q_iconst (v := nI 0) B dX7_refusesDrawer_15 rfl ?_
    refine q_bipush (v := nI 99) B dX7_refusesDrawer_16 rfl ?_
    refine q_rtS B s_in kv_yX7_in kt_yX7_in km_X7_94 rfl (by decide) rfl (Nat.le_of_ble_eq_true rfl) dX7_refusesDrawer_18 ?_
    refine q_if_eq (tgt := 28) B dX7_refusesDrawer_21 (by decide) (fun c_21 => ?_) (fun c_21 => ?_)
    · skip
      have h21 := a_b0 c_21
      refine q_bipush (v := -2) B dX7_refusesDrawer_28 rfl ?_
      exact q_iret BM rfl dX7_refusesDrawer_30 ⟨by rw [a_refD]; first | (rw [if_pos h7]; done) | (rw [if_neg (not_not_intro h7), if_pos h21]; done) | (rw [if_neg (not_not_intro h7), if_neg h21]; done), rfl, rfl⟩
    · skip
      have h21 := a_b1 c_21
      refine q_iconst (v := 0) B dX7_refusesDrawer_24 rfl ?_
      refine q_goto (tgt := 30) B dX7_refusesDrawer_25 (by decide) ?_
      exact q_iret BM rfl dX7_refusesDrawer_30 ⟨by rw [a_refD]; first | (rw [if_pos h7]; done) | (rw [if_neg (not_not_intro h7), if_pos h21]; done) | (rw [if_neg (not_not_intro h7), if_neg h21]; done), rfl, rfl⟩
  · skip
    have h7 := a_b0 c_7
    refine q_iconst (v := -1) B dX7_refusesDrawer_10 rfl ?_
    refine q_goto (tgt := 30) B dX7_refusesDrawer_11 (by decide) ?_
    exact q_iret BM rfl dX7_refusesDrawer_30 ⟨by rw [a_refD]; first | (rw [if_pos h7]; done) | (rw [if_neg (not_not_intro h7), if_pos h21]; done) | (rw [if_neg (not_not_intro h7), if_neg h21]; done), rfl, rfl⟩
set_option maxRecDepth 100000 in
set_option maxHeartbeats 4000000 in
theorem s_refusesPass {Sh : q_Sh} {I : q_Mem} {σ : a_A} {o : Nat} (hm : mOk Sh o) {m : Int32} : q_Rt mX7_refusesPass 1 [.ref o, .int m] Sh (q_setA I (o + 1) σ) (some (.int (a_refP σ m))) (q_setA I (o + 1) σ) := by
  refine q_rt_of (by decide) (Nat.le_of_ble_eq_true rfl) fun Γ BM => ?_
  have B := BM.1
  show q_W Γ mX7_refusesPass 0 0 Sh (q_setA I (o + 1) σ) 0 [(0, .ref o), (1, .int m)] []
  refine q_iload_n B dX7_refusesPass_0 rfl rfl ?_
  refine q_iconst (v := nI 1) B dX7_refusesPass_1 rfl ?_
  refine q_bipush (v := nI 99) B dX7_refusesPass_2 rfl ?_
  refine q_rtS B s_in kv_yX7_in kt_yX7_in km_X7_94 rfl (by decide) rfl (Nat.le_of_ble_eq_true rfl) dX7_refusesPass_4 ?_
  refine q_if_ne (tgt := 13) B dX7_refusesPass_7 (by decide) (fun c_7 => ?_) (fun c_7 => ?_)
  · skip
    have h7 := a_b1 c_7
    refine q_aload_n B dX7_refusesPass_13 rfl rfl ?_
    refine q_getR B kC_X7 (k := 1) (by decide) rfl kf_X7_7 hm.1 (mR_s hm) dX7_refusesPass_14 ?_
    refine q_iconst (v := nI 0) B dX7_refusesPass_17 rfl ?_
    refine q_ialdS (n := 0) B (mA_s hm) rfl (by omega) (by decide) dX7_refusesPass_18 ?_
    refine q_iload_n B dX7_refusesPass_19 rfl rfl ?_
    refine q_iadd B dX7_refusesPass_20 ?_
    refine q_sipush (v := nI 9999) B dX7_refusesPass_21 rfl ?_
    refine q_icmp_le (tgt := 32) B dX7_refusesPass_24 (by decide) (fun c_24 => ?_) (fun c_24 => ?_)
    · skip
      refine q_iconst (v := 0) B dX7_refusesPass_32 rfl ?_
      exact q_iret BM rfl dX7_refusesPass_33 ⟨by rw [a_refP, if_neg (not_not_intro h7)]; first | (rw [if_pos (Int32.not_le.mp c_24)]; done) | (rw [if_neg (Int32.not_lt.mpr c_24)]; done), rfl, rfl⟩
    · skip
      refine q_bipush (v := -5) B dX7_refusesPass_27 rfl ?_
      refine q_goto (tgt := 33) B dX7_refusesPass_29 (by decide) ?_
      exact q_iret BM rfl dX7_refusesPass_33 ⟨by rw [a_refP, if_neg (not_not_intro h7)]; first | (rw [if_pos (Int32.not_le.mp c_24)]; done) | (rw [if_neg (Int32.not_lt.mpr c_24)]; done), rfl, rfl⟩
  · skip
    have h7 := a_b0 c_7
    refine q_bipush (v := -2) B dX7_refusesPass_10 rfl ?_
    exact q_iret BM rfl dX7_refusesPass_12 ⟨by rw [a_refP, if_pos h7], rfl, rfl⟩
set_option maxRecDepth 100000 in
set_option maxHeartbeats 4000000 in
theorem s_isThing {Sh : q_Sh} {I : q_Mem} {σ : a_A} {o : Nat} (hm : mOk Sh o) {T F : Nat} (hW : a_W T F σ) {t : Int32} : q_Rt mX7_isThing 1 [.ref o, .int t] Sh (q_setA I (o + 1) σ) (some (.int (if nI 0 ≤ t ∧ t ≤ σ 1 - nI 1 then 1 else 0))) (q_setA I (o + 1) σ) := by
  refine q_rt_of (by decide) (Nat.le_of_ble_eq_true rfl) fun Γ BM => ?_
  have B := BM.1
  show q_W Γ mX7_isThing 0 0 Sh (q_setA I (o + 1) σ) 0 [(0, .ref o), (1, .int t)] []
  refine q_iload_n B dX7_isThing_0 rfl rfl ?_
  refine q_iconst (v := nI 0) B dX7_isThing_1 rfl ?_
  refine q_aload_n B dX7_isThing_2 rfl rfl ?_
  refine q_getR B kC_X7 (k := 1) (by decide) rfl kf_X7_7 hm.1 (mR_s hm) dX7_isThing_3 ?_
  refine q_iconst (v := nI 1) B dX7_isThing_6 rfl ?_
  refine q_ialdS (n := 1) B (mA_s hm) rfl (by omega) (by decide) dX7_isThing_7 ?_
  refine q_iconst (v := nI 1) B dX7_isThing_8 rfl ?_
  refine q_isub B dX7_isThing_9 ?_
  refine q_rtS B s_in kv_yX7_in kt_yX7_in km_X7_94 rfl (by decide) rfl (Nat.le_of_ble_eq_true rfl) dX7_isThing_10 ?_
  exact q_zret BM rfl (by split <;> simp) dX7_isThing_13 ⟨rfl, rfl, rfl⟩
set_option maxRecDepth 100000 in
set_option maxHeartbeats 4000000 in
theorem s_comes {Sh : q_Sh} {I : q_Mem} {σ : a_A} {o : Nat} (hm : mOk Sh o) {T F : Nat} (hW : a_W T F σ) (hlt : T < 30) {k b p t : Int32} : q_Rt mX7_comes 1 [.ref o, .int k, .int b, .int p, .int t] Sh (q_setA I (o + 1) σ) (some (.int (nI T))) (q_setA I (o + 1) (a_comes σ k b p t)) := by
  refine q_rt_of (by decide) (Nat.le_of_ble_eq_true rfl) fun Γ BM => ?_
  have B := BM.1
  have hT := hW.1.1
  have hT2 := hW.1.2
  have hF := hW.2.1.1
  have hF2 := hW.2.1.2
  have haT := a_W_T hW
  show q_W Γ mX7_comes 0 0 Sh (q_setA I (o + 1) σ) 0 [(0, .ref o), (1, .int k), (2, .int b), (3, .int p), (4, .int t)] []
  refine q_aload_n B dX7_comes_0 rfl rfl ?_
  refine q_getR B kC_X7 (k := 1) (by decide) rfl kf_X7_7 hm.1 (mR_s hm) dX7_comes_1 ?_
  refine q_iconst (v := nI 1) B dX7_comes_4 rfl ?_
  refine q_ialdS2 (n := 1) B (mA_s hm) rfl (by omega) (by decide) hT dX7_comes_5 ?_
  refine q_istore B dX7_comes_6 (Nat.le_of_ble_eq_true rfl) rfl ?_
  refine q_aload_n B dX7_comes_8 rfl rfl ?_
  refine q_getR B kC_X7 (k := 1) (by decide) rfl kf_X7_7 hm.1 (mR_s hm) dX7_comes_9 ?_
  refine q_iconst (v := nI 1) B dX7_comes_12 rfl ?_
  refine q_dup2 B dX7_comes_13 rfl rfl ?_
  refine q_ialdS2 (n := 1) B (mA_s hm) rfl (by omega) (by decide) hT dX7_comes_14 ?_
  refine q_iconst (v := 1) B dX7_comes_15 rfl ?_
  refine q_iadd B dX7_comes_16 ?_
  refine q_iastS (n := 1) B (mA_s hm) rfl (by omega) (by decide) dX7_comes_17 ?_
  refine q_aload_n B dX7_comes_18 rfl rfl ?_
  refine q_iload B dX7_comes_19 rfl ?_
  refine q_iconst (v := nI 0) B dX7_comes_21 rfl ?_
  refine q_iload_n B dX7_comes_22 rfl rfl ?_
  refine q_rtV B (s_lay_0 hm (by omega)) kv_yX7_lay ki_yX7_lay ks_yX7_lay km_X7_47 rfl (ci := 7) rfl rfl hm.1 (by decide) rfl (Nat.le_of_ble_eq_true rfl) dX7_comes_23 ?_
  refine q_aload_n B dX7_comes_26 rfl rfl ?_
  refine q_iload B dX7_comes_27 rfl ?_
  refine q_iconst (v := nI 1) B dX7_comes_29 rfl ?_
  refine q_iload_n B dX7_comes_30 rfl rfl ?_
  refine q_rtV B (s_lay hm (by omega) (by decide)) kv_yX7_lay ki_yX7_lay ks_yX7_lay km_X7_47 rfl (ci := 7) rfl rfl hm.1 (by decide) rfl (Nat.le_of_ble_eq_true rfl) dX7_comes_31 ?_
  refine q_aload_n B dX7_comes_34 rfl rfl ?_
  refine q_iload B dX7_comes_35 rfl ?_
  refine q_iconst (v := nI 2) B dX7_comes_37 rfl ?_
  refine q_iload_n B dX7_comes_38 rfl rfl ?_
  refine q_rtV B (s_lay hm (by omega) (by decide)) kv_yX7_lay ki_yX7_lay ks_yX7_lay km_X7_47 rfl (ci := 7) rfl rfl hm.1 (by decide) rfl (Nat.le_of_ble_eq_true rfl) dX7_comes_39 ?_
  refine q_aload_n B dX7_comes_42 rfl rfl ?_
  refine q_iload B dX7_comes_43 rfl ?_
  refine q_iconst (v := nI 3) B dX7_comes_45 rfl ?_
  refine q_iload B dX7_comes_46 rfl ?_
  refine q_rtV B (s_lay hm (by omega) (by decide)) kv_yX7_lay ki_yX7_lay ks_yX7_lay km_X7_47 rfl (ci := 7) rfl rfl hm.1 (by decide) rfl (Nat.le_of_ble_eq_true rfl) dX7_comes_48 ?_
  refine q_aload_n B dX7_comes_51 rfl rfl ?_
  refine q_iload B dX7_comes_52 rfl ?_
  refine q_iconst (v := nI 4) B dX7_comes_54 rfl ?_
  refine q_iconst (v := 0) B dX7_comes_55 rfl ?_
  refine q_rtV B (s_lay hm (by omega) (by decide)) kv_yX7_lay ki_yX7_lay ks_yX7_lay km_X7_47 rfl (ci := 7) rfl rfl hm.1 (by decide) rfl (Nat.le_of_ble_eq_true rfl) dX7_comes_56 ?_
  refine q_aload_n B dX7_comes_59 rfl rfl ?_
  refine q_iload B dX7_comes_60 rfl ?_
  refine q_iconst (v := nI 5) B dX7_comes_62 rfl ?_
  refine q_iconst (v := 0) B dX7_comes_63 rfl ?_
  refine q_rtV B (s_lay hm (by omega) (by decide)) kv_yX7_lay ki_yX7_lay ks_yX7_lay km_X7_47 rfl (ci := 7) rfl rfl hm.1 (by decide) rfl (Nat.le_of_ble_eq_true rfl) dX7_comes_64 ?_
  refine q_aload_n B dX7_comes_67 rfl rfl ?_
  refine q_iload B dX7_comes_68 rfl ?_
  refine q_bipush (v := nI 6) B dX7_comes_70 rfl ?_
  refine q_iconst (v := 0) B dX7_comes_72 rfl ?_
  refine q_rtV B (s_lay hm (by omega) (by decide)) kv_yX7_lay ki_yX7_lay ks_yX7_lay km_X7_47 rfl (ci := 7) rfl rfl hm.1 (by decide) rfl (Nat.le_of_ble_eq_true rfl) dX7_comes_73 ?_
  refine q_iload B dX7_comes_76 rfl ?_
  exact q_iret BM rfl dX7_comes_78 ⟨rfl, rfl, by unfold a_comes; dsimp only; rw [haT, hT]⟩
set_option maxRecDepth 100000 in
set_option maxHeartbeats 4000000 in
theorem s_comesFixer {Sh : q_Sh} {I : q_Mem} {σ : a_A} {o : Nat} (hm : mOk Sh o) {T F : Nat} (hW : a_W T F σ) (hlt : F < 5) {k c : Int32} : q_Rt mX7_comesFixer 0 [.ref o, .int k, .int c] Sh (q_setA I (o + 1) σ) (some (.int (nI F))) (q_setA I (o + 1) (a_comesF σ k c)) := by
  refine q_rt_of (by decide) (Nat.le_of_ble_eq_true rfl) fun Γ BM => ?_
  have B := BM.1
  have hT := hW.1.1
  have hT2 := hW.1.2
  have hF := hW.2.1.1
  have hF2 := hW.2.1.2
  have haF := a_W_F hW
  show q_W Γ mX7_comesFixer 0 0 Sh (q_setA I (o + 1) σ) 0 [(0, .ref o), (1, .int k), (2, .int c)] []
  refine q_bipush (v := nI 27) B dX7_comesFixer_0 rfl ?_
  refine q_bipush (v := nI 6) B dX7_comesFixer_2 rfl ?_
  refine q_aload_n B dX7_comesFixer_4 rfl rfl ?_
  refine q_getR B kC_X7 (k := 1) (by decide) rfl kf_X7_7 hm.1 (mR_s hm) dX7_comesFixer_5 ?_
  refine q_iconst (v := nI 2) B dX7_comesFixer_8 rfl ?_
  refine q_ialdS2 (n := 2) B (mA_s hm) rfl (by omega) (by decide) hF dX7_comesFixer_9 ?_
  refine q_imul B dX7_comesFixer_10 ?_
  refine q_iadd B dX7_comesFixer_11 ?_
  refine q_top (y := nI (27 + 6 * F)) (by simp only [nI_add, q_nI_mul]) ?_
  refine q_istore_n B dX7_comesFixer_12 rfl (Nat.le_of_ble_eq_true rfl) rfl ?_
  refine q_iconst (v := nI 0) B dX7_comesFixer_13 rfl ?_
  refine q_istore B dX7_comesFixer_14 (Nat.le_of_ble_eq_true rfl) rfl ?_
  have hl_16 : ∀ (n i : Nat) (σ1 : a_A), i + n = 6 → q_fold (fun j (s : a_A) => upd s (27 + 6 * F + j) 0) i σ = σ1 → q_W Γ mX7_comesFixer 0 0 Sh (q_setA I (o + 1) σ1) 16 [(0, .ref o), (1, .int k), (2, .int c), (3, .int (nI (27 + 6 * F))), (4, .int (nI i))] [] := by
    intro n
    induction n with
    | zero =>
      intro i σ1 hin hinv
      have hi : i = 6 := by omega
      subst hi
      have e2 : σ1 2 = nI F := by rw [← hinv]; simp (disch := omega) only [q_fold, q_upd_ne]; exact hF
      have e3 : upd (upd σ1 (27 + 6 * F) k) (27 + 6 * F + 1) c 2 = nI F := by simp (disch := omega) only [q_upd_ne]; exact e2
      refine q_iload B dX7_comesFixer_16 rfl ?_
      refine q_bipush (v := nI 6) B dX7_comesFixer_18 rfl ?_
      refine q_icmp_ge (tgt := 39) B dX7_comesFixer_20 (by decide) (fun _ => ?_) (fun h => absurd (q_le (Nat.le_refl 6) (by decide)) h)
      refine q_aload_n B dX7_comesFixer_39 rfl rfl ?_
      refine q_getR B kC_X7 (k := 1) (by decide) rfl kf_X7_7 hm.1 (mR_s hm) dX7_comesFixer_40 ?_
      refine q_iload_n B dX7_comesFixer_43 rfl rfl ?_
      refine q_iconst (v := nI 0) B dX7_comesFixer_44 rfl ?_
      refine q_iadd B dX7_comesFixer_45 ?_
      refine q_iload_n B dX7_comesFixer_46 rfl rfl ?_
      refine q_iastS (n := 27 + 6 * F) B (mA_s hm) (by simp only [nI_add, Nat.add_zero]) (by omega) (by decide) dX7_comesFixer_47 ?_
      refine q_aload_n B dX7_comesFixer_48 rfl rfl ?_
      refine q_getR B kC_X7 (k := 1) (by decide) rfl kf_X7_7 hm.1 (mR_s hm) dX7_comesFixer_49 ?_
      refine q_iload_n B dX7_comesFixer_52 rfl rfl ?_
      refine q_iconst (v := nI 1) B dX7_comesFixer_53 rfl ?_
      refine q_iadd B dX7_comesFixer_54 ?_
      refine q_iload_n B dX7_comesFixer_55 rfl rfl ?_
      refine q_iastS (n := 27 + 6 * F + 1) B (mA_s hm) (by simp only [nI_add, q_nI_mul]) (by omega) (by decide) dX7_comesFixer_56 ?_
      refine q_aload_n B dX7_comesFixer_57 rfl rfl ?_
      refine q_getR B kC_X7 (k := 1) (by decide) rfl kf_X7_7 hm.1 (mR_s hm) dX7_comesFixer_58 ?_
      refine q_iconst (v := nI 2) B dX7_comesFixer_61 rfl ?_
      refine q_dup2 B dX7_comesFixer_62 rfl rfl ?_
      refine q_ialdS2 (n := 2) B (mA_s hm) rfl (by omega) (by decide) e3 dX7_comesFixer_63 ?_
      refine q_iconst (v := 1) B dX7_comesFixer_64 rfl ?_
      refine q_iadd B dX7_comesFixer_65 ?_
      refine q_iastS (n := 2) B (mA_s hm) rfl (by omega) (by decide) dX7_comesFixer_66 ?_
      refine q_aload_n B dX7_comesFixer_67 rfl rfl ?_
      refine q_getR B kC_X7 (k := 1) (by decide) rfl kf_X7_7 hm.1 (mR_s hm) dX7_comesFixer_68 ?_
      refine q_iconst (v := nI 2) B dX7_comesFixer_71 rfl ?_
      refine q_ialdS2 (n := 2) B (mA_s hm) rfl (by omega) (by decide) (q_upd_at _ _ _) dX7_comesFixer_72 ?_
      refine q_iconst (v := 1) B dX7_comesFixer_73 rfl ?_
      refine q_isub B dX7_comesFixer_74 ?_
      exact q_iret BM rfl dX7_comesFixer_75 ⟨by rw [Int32.add_sub_cancel], rfl, by unfold a_comesF; dsimp only; rw [haF, hinv, e3]⟩
    | succ n ih =>
      intro i σ1 hin hinv
      have hiN : i < 6 := by omega
      refine q_iload B dX7_comesFixer_16 rfl ?_
      refine q_bipush (v := nI 6) B dX7_comesFixer_18 rfl ?_
      refine q_icmp_ge (tgt := 39) B dX7_comesFixer_20 (by decide) (fun h => absurd h (q_nle hiN (by decide))) (fun _ => ?_)
      refine q_aload_n B dX7_comesFixer_23 rfl rfl ?_
      refine q_getR B kC_X7 (k := 1) (by decide) rfl kf_X7_7 hm.1 (mR_s hm) dX7_comesFixer_24 ?_
      refine q_iload_n B dX7_comesFixer_27 rfl rfl ?_
      refine q_iload B dX7_comesFixer_28 rfl ?_
      refine q_iadd B dX7_comesFixer_30 ?_
      refine q_iconst (v := 0) B dX7_comesFixer_31 rfl ?_
      refine q_iastS (n := 27 + 6 * F + i) B (mA_s hm) (by simp only [nI_add, q_nI_mul]) (by omega) (by decide) dX7_comesFixer_32 ?_
      refine q_iinc2 (y := nI (i + 1)) B dX7_comesFixer_33 rfl (q_inc1 _) (Nat.le_of_ble_eq_true rfl) rfl ?_
      refine q_goto (tgt := 16) B dX7_comesFixer_36 (by decide) ?_
      exact q_tk (ih (i + 1) _ (by omega) (by rw [← hinv]; rfl)) rfl (q_ac rfl (q_ac rfl (q_ac rfl (q_ac rfl (q_ac rfl q_an)))))
  exact q_tk (hl_16 6 0 σ (by omega) rfl) rfl (q_ac rfl (q_ac rfl (q_ac rfl (q_ac rfl (q_ac rfl q_an)))))
set_option maxRecDepth 100000 in
set_option maxHeartbeats 4000000 in
theorem s_placeOf {Sh : q_Sh} {I : q_Mem} {σ : a_A} {o : Nat} (hm : mOk Sh o) {T F : Nat} (hW : a_W T F σ) {t : Nat} (ht : t < 30) : q_Rt mX7_placeOf 1 [.ref o, .int (nI t)] Sh (q_setA I (o + 1) σ) (some (.int (a_place σ t))) (q_setA I (o + 1) σ) := by
  refine q_rt_of (by decide) (Nat.le_of_ble_eq_true rfl) fun Γ BM => ?_
  have B := BM.1
  have hT := hW.1.1
  have hT2 := hW.1.2
  have hF := hW.2.1.1
  have hF2 := hW.2.1.2
  have haT := a_W_T hW
  show q_W Γ mX7_placeOf 0 0 Sh (q_setA I (o + 1) σ) 0 [(0, .ref o), (1, .int (nI t))] []
  refine q_aload_n B dX7_placeOf_0 rfl rfl ?_
  refine q_iload_n B dX7_placeOf_1 rfl rfl ?_
  refine q_iconst (v := nI 4) B dX7_placeOf_2 rfl ?_
  refine q_rtV B (s_of hm ht (by decide)) kv_yX7_of ki_yX7_of ks_yX7_of km_X7_39 rfl (ci := 7) rfl rfl hm.1 (by decide) rfl (Nat.le_of_ble_eq_true rfl) dX7_placeOf_3 ?_
  refine q_if_eq (tgt := 12) B dX7_placeOf_6 (by decide) (fun c_6 => ?_) (fun c_6 => ?_)
  · skip
    refine q_iconst (v := 0) B dX7_placeOf_12 rfl ?_
    refine q_istore_n B dX7_placeOf_13 rfl (Nat.le_of_ble_eq_true rfl) rfl ?_
    refine q_iconst (v := nI 0) B dX7_placeOf_14 rfl ?_
    refine q_istore_n B dX7_placeOf_15 rfl (Nat.le_of_ble_eq_true rfl) rfl ?_
    have hl_16 : ∀ (n i : Nat) (c : Int32), i + n = T → q_fold (fun i (n : Int32) => n + (if σ (57 + 7 * i + 4) = 0 ∧ (0 < σ (57 + 7 * t + 2) - σ (57 + 7 * i + 2) ∨ (σ (57 + 7 * t + 2) - σ (57 + 7 * i + 2) = 0 ∧ i < t)) then 1 else 0)) i 0 = c → q_W Γ mX7_placeOf 0 0 Sh (q_setA I (o + 1) σ) 16 [(0, .ref o), (1, .int (nI t)), (2, .int c), (3, .int (nI i))] [] := by
      intro n
      induction n with
      | zero =>
        intro i c hin hinv
        have hi : i = T := by omega
        subst hi
        refine q_iload_n B dX7_placeOf_16 rfl rfl ?_
        refine q_aload_n B dX7_placeOf_17 rfl rfl ?_
        refine q_getR B kC_X7 (k := 1) (by decide) rfl kf_X7_7 hm.1 (mR_s hm) dX7_placeOf_18 ?_
        refine q_iconst (v := nI 1) B dX7_placeOf_21 rfl ?_
        refine q_ialdS2 (n := 1) B (mA_s hm) rfl (by omega) (by decide) hT dX7_placeOf_22 ?_
        refine q_icmp_ge (tgt := 79) B dX7_placeOf_23 (by decide) (fun _ => ?_) (fun h => absurd (q_le (Nat.le_refl _) (by omega)) h)
        refine q_iload_n B dX7_placeOf_79 rfl rfl ?_
        exact q_iret BM rfl dX7_placeOf_80 ⟨by rw [a_place, if_pos c_6, haT, hinv], rfl, rfl⟩
      | succ n ih =>
        intro i c hin hinv
        have hiN : i < T := by omega
        refine q_iload_n B dX7_placeOf_16 rfl rfl ?_
        refine q_aload_n B dX7_placeOf_17 rfl rfl ?_
        refine q_getR B kC_X7 (k := 1) (by decide) rfl kf_X7_7 hm.1 (mR_s hm) dX7_placeOf_18 ?_
        refine q_iconst (v := nI 1) B dX7_placeOf_21 rfl ?_
        refine q_ialdS2 (n := 1) B (mA_s hm) rfl (by omega) (by decide) hT dX7_placeOf_22 ?_
        refine q_icmp_ge (tgt := 79) B dX7_placeOf_23 (by decide) (fun h => absurd h (q_nle hiN (by omega))) (fun _ => ?_)
        refine q_aload_n B dX7_placeOf_26 rfl rfl ?_
        refine q_iload_n B dX7_placeOf_27 rfl rfl ?_
        refine q_iconst (v := nI 2) B dX7_placeOf_28 rfl ?_
        refine q_rtV B (s_of hm ht (by decide)) kv_yX7_of ki_yX7_of ks_yX7_of km_X7_39 rfl (ci := 7) rfl rfl hm.1 (by decide) rfl (Nat.le_of_ble_eq_true rfl) dX7_placeOf_29 ?_
        refine q_aload_n B dX7_placeOf_32 rfl rfl ?_
        refine q_iload_n B dX7_placeOf_33 rfl rfl ?_
        refine q_iconst (v := nI 2) B dX7_placeOf_34 rfl ?_
        refine q_rtV B (s_of hm (by omega) (by decide)) kv_yX7_of ki_yX7_of ks_yX7_of km_X7_39 rfl (ci := 7) rfl rfl hm.1 (by decide) rfl (Nat.le_of_ble_eq_true rfl) dX7_placeOf_35 ?_
        refine q_isub B dX7_placeOf_38 ?_
        refine q_istore B dX7_placeOf_39 (Nat.le_of_ble_eq_true rfl) rfl ?_
        refine q_iload_n B dX7_placeOf_41 rfl rfl ?_
        refine q_join 71 (if σ (57 + 7 * i + 4) = 0 ∧ (0 < σ (57 + 7 * t + 2) - σ (57 + 7 * i + 2) ∨ (σ (57 + 7 * t + 2) - σ (57 + 7 * i + 2) = 0 ∧ i < t)) then 1 else 0) ?_ (fun j_42 => ?_)
        · skip
          refine q_iadd B dX7_placeOf_71 ?_
          refine q_istore_n B dX7_placeOf_72 rfl (Nat.le_of_ble_eq_true rfl) rfl ?_
          refine q_iinc2 (y := nI (i + 1)) B dX7_placeOf_73 rfl (q_inc1 _) (Nat.le_of_ble_eq_true rfl) rfl ?_
          refine q_goto (tgt := 16) B dX7_placeOf_76 (by decide) ?_
          exact q_tk (ih (i + 1) _ (by omega) (by rw [← hinv]; rfl)) rfl (q_ac rfl (q_ac rfl (q_ac rfl (q_ac rfl q_an))))
        · skip
          refine q_aload_n B dX7_placeOf_42 rfl rfl ?_
          refine q_iload_n B dX7_placeOf_43 rfl rfl ?_
          refine q_iconst (v := nI 4) B dX7_placeOf_44 rfl ?_
          refine q_rtV B (s_of hm (by omega) (by decide)) kv_yX7_of ki_yX7_of ks_yX7_of km_X7_39 rfl (ci := 7) rfl rfl hm.1 (by decide) rfl (Nat.le_of_ble_eq_true rfl) dX7_placeOf_45 ?_
          refine q_if_ne (tgt := 70) B dX7_placeOf_48 (by decide) (fun c_48 => ?_) (fun c_48 => ?_)
          · skip
            refine q_iconst (v := 0) B dX7_placeOf_70 rfl ?_
            exact q_top (by first | (rw [if_pos ⟨c_48, Or.inl c_53⟩]; done) | (rw [if_pos ⟨c_48, Or.inr ⟨c_58, h63⟩⟩]; done) | (rw [if_neg (fun h => c_48 h.1)]; done) | (rw [if_neg (fun h => h.2.elim c_53 (fun q => c_58 q.1))]; done) | (rw [if_neg (fun h => h.2.elim c_53 (fun q => absurd q.2 h63))]; done)) j_42
          · skip
            refine q_iload B dX7_placeOf_51 rfl ?_
            refine q_if_gt (tgt := 66) B dX7_placeOf_53 (by decide) (fun c_53 => ?_) (fun c_53 => ?_)
            · skip
              refine q_iconst (v := 1) B dX7_placeOf_66 rfl ?_
              refine q_goto (tgt := 71) B dX7_placeOf_67 (by decide) ?_
              exact q_top (by first | (rw [if_pos ⟨c_48, Or.inl c_53⟩]; done) | (rw [if_pos ⟨c_48, Or.inr ⟨c_58, h63⟩⟩]; done) | (rw [if_neg (fun h => c_48 h.1)]; done) | (rw [if_neg (fun h => h.2.elim c_53 (fun q => c_58 q.1))]; done) | (rw [if_neg (fun h => h.2.elim c_53 (fun q => absurd q.2 h63))]; done)) j_42
            · skip
              refine q_iload B dX7_placeOf_56 rfl ?_
              refine q_if_ne (tgt := 70) B dX7_placeOf_58 (by decide) (fun c_58 => ?_) (fun c_58 => ?_)
              · skip
                refine q_iconst (v := 0) B dX7_placeOf_70 rfl ?_
                exact q_top (by first | (rw [if_pos ⟨c_48, Or.inl c_53⟩]; done) | (rw [if_pos ⟨c_48, Or.inr ⟨c_58, h63⟩⟩]; done) | (rw [if_neg (fun h => c_48 h.1)]; done) | (rw [if_neg (fun h => h.2.elim c_53 (fun q => c_58 q.1))]; done) | (rw [if_neg (fun h => h.2.elim c_53 (fun q => absurd q.2 h63))]; done)) j_42
              · skip
                refine q_iload_n B dX7_placeOf_61 rfl rfl ?_
                refine q_iload_n B dX7_placeOf_62 rfl rfl ?_
                refine q_icmp_ge (tgt := 70) B dX7_placeOf_63 (by decide) (fun c_63 => ?_) (fun c_63 => ?_)
                · skip
                  have h63 : ¬ i < t := fun q => absurd c_63 (q_nle q (by omega))
                  refine q_iconst (v := 0) B dX7_placeOf_70 rfl ?_
                  exact q_top (by first | (rw [if_pos ⟨c_48, Or.inl c_53⟩]; done) | (rw [if_pos ⟨c_48, Or.inr ⟨c_58, h63⟩⟩]; done) | (rw [if_neg (fun h => c_48 h.1)]; done) | (rw [if_neg (fun h => h.2.elim c_53 (fun q => c_58 q.1))]; done) | (rw [if_neg (fun h => h.2.elim c_53 (fun q => absurd q.2 h63))]; done)) j_42
                · skip
                  have h63 : i < t := by
                    rcases Nat.lt_or_ge i t with q | q
                    · exact q
                    · exact absurd (q_le q (by omega)) c_63
                  refine q_iconst (v := 1) B dX7_placeOf_66 rfl ?_
                  refine q_goto (tgt := 71) B dX7_placeOf_67 (by decide) ?_
                  exact q_top (by first | (rw [if_pos ⟨c_48, Or.inl c_53⟩]; done) | (rw [if_pos ⟨c_48, Or.inr ⟨c_58, h63⟩⟩]; done) | (rw [if_neg (fun h => c_48 h.1)]; done) | (rw [if_neg (fun h => h.2.elim c_53 (fun q => c_58 q.1))]; done) | (rw [if_neg (fun h => h.2.elim c_53 (fun q => absurd q.2 h63))]; done)) j_42
    exact q_tk (hl_16 T 0 0 (by omega) rfl) rfl (q_ac rfl (q_ac rfl (q_ac rfl (q_ac rfl q_an))))
  · skip
    refine q_bipush (v := -6) B dX7_placeOf_9 rfl ?_
    exact q_iret BM rfl dX7_placeOf_11 ⟨by rw [a_place, if_neg c_6], rfl, rfl⟩
set_option maxRecDepth 100000 in
set_option maxHeartbeats 4000000 in
theorem s_brokenOnes {Sh : q_Sh} {I : q_Mem} {σ : a_A} {o : Nat} (hm : mOk Sh o) {T F : Nat} (hW : a_W T F σ) {p : Int32} : q_Rt mX7_brokenOnes 1 [.ref o, .int p] Sh (q_setA I (o + 1) σ) (some (.int (a_broken σ p))) (q_setA I (o + 1) σ) := by
  refine q_rt_of (by decide) (Nat.le_of_ble_eq_true rfl) fun Γ BM => ?_
  have B := BM.1
  have hT := hW.1.1
  have hT2 := hW.1.2
  have hF := hW.2.1.1
  have hF2 := hW.2.1.2
  have haT := a_W_T hW
  show q_W Γ mX7_brokenOnes 0 0 Sh (q_setA I (o + 1) σ) 0 [(0, .ref o), (1, .int p)] []
  refine q_iconst (v := 0) B dX7_brokenOnes_0 rfl ?_
  refine q_istore_n B dX7_brokenOnes_1 rfl (Nat.le_of_ble_eq_true rfl) rfl ?_
  refine q_iconst (v := nI 0) B dX7_brokenOnes_2 rfl ?_
  refine q_istore_n B dX7_brokenOnes_3 rfl (Nat.le_of_ble_eq_true rfl) rfl ?_
  have hl_4 : ∀ (n i : Nat) (c : Int32), i + n = T → q_fold (fun i (n : Int32) => n + (if σ (57 + 7 * i + 4) < nI 2 then (σ (57 + 7 * i + 1) >>> (p &&& 31)) &&& nI 1 else 0)) i 0 = c → q_W Γ mX7_brokenOnes 0 0 Sh (q_setA I (o + 1) σ) 4 [(0, .ref o), (1, .int p), (2, .int c), (3, .int (nI i))] [] := by
    intro n
    induction n with
    | zero =>
      intro i c hin hinv
      have hi : i = T := by omega
      subst hi
      refine q_iload_n B dX7_brokenOnes_4 rfl rfl ?_
      refine q_aload_n B dX7_brokenOnes_5 rfl rfl ?_
      refine q_getR B kC_X7 (k := 1) (by decide) rfl kf_X7_7 hm.1 (mR_s hm) dX7_brokenOnes_6 ?_
      refine q_iconst (v := nI 1) B dX7_brokenOnes_9 rfl ?_
      refine q_ialdS2 (n := 1) B (mA_s hm) rfl (by omega) (by decide) hT dX7_brokenOnes_10 ?_
      refine q_icmp_ge (tgt := 47) B dX7_brokenOnes_11 (by decide) (fun _ => ?_) (fun h => absurd (q_le (Nat.le_refl _) (by omega)) h)
      refine q_iload_n B dX7_brokenOnes_47 rfl rfl ?_
      exact q_iret BM rfl dX7_brokenOnes_48 ⟨by rw [a_broken, haT, hinv], rfl, rfl⟩
    | succ n ih =>
      intro i c hin hinv
      have hiN : i < T := by omega
      refine q_iload_n B dX7_brokenOnes_4 rfl rfl ?_
      refine q_aload_n B dX7_brokenOnes_5 rfl rfl ?_
      refine q_getR B kC_X7 (k := 1) (by decide) rfl kf_X7_7 hm.1 (mR_s hm) dX7_brokenOnes_6 ?_
      refine q_iconst (v := nI 1) B dX7_brokenOnes_9 rfl ?_
      refine q_ialdS2 (n := 1) B (mA_s hm) rfl (by omega) (by decide) hT dX7_brokenOnes_10 ?_
      refine q_icmp_ge (tgt := 47) B dX7_brokenOnes_11 (by decide) (fun h => absurd h (q_nle hiN (by omega))) (fun _ => ?_)
      refine q_iload_n B dX7_brokenOnes_14 rfl rfl ?_
      refine q_join 39 (if σ (57 + 7 * i + 4) < nI 2 then (σ (57 + 7 * i + 1) >>> (p &&& 31)) &&& nI 1 else 0) ?_ (fun j_15 => ?_)
      · skip
        refine q_iadd B dX7_brokenOnes_39 ?_
        refine q_istore_n B dX7_brokenOnes_40 rfl (Nat.le_of_ble_eq_true rfl) rfl ?_
        refine q_iinc2 (y := nI (i + 1)) B dX7_brokenOnes_41 rfl (q_inc1 _) (Nat.le_of_ble_eq_true rfl) rfl ?_
        refine q_goto (tgt := 4) B dX7_brokenOnes_44 (by decide) ?_
        exact q_tk (ih (i + 1) _ (by omega) (by rw [← hinv]; rfl)) rfl (q_ac rfl (q_ac rfl (q_ac rfl (q_ac rfl q_an))))
      · skip
        refine q_aload_n B dX7_brokenOnes_15 rfl rfl ?_
        refine q_iload_n B dX7_brokenOnes_16 rfl rfl ?_
        refine q_iconst (v := nI 4) B dX7_brokenOnes_17 rfl ?_
        refine q_rtV B (s_of hm (by omega) (by decide)) kv_yX7_of ki_yX7_of ks_yX7_of km_X7_39 rfl (ci := 7) rfl rfl hm.1 (by decide) rfl (Nat.le_of_ble_eq_true rfl) dX7_brokenOnes_18 ?_
        refine q_iconst (v := nI 2) B dX7_brokenOnes_21 rfl ?_
        refine q_icmp_ge (tgt := 38) B dX7_brokenOnes_22 (by decide) (fun c_22 => ?_) (fun c_22 => ?_)
        · skip
          refine q_iconst (v := 0) B dX7_brokenOnes_38 rfl ?_
          exact q_top (by first | (rw [if_pos (Int32.not_le.mp c_22)]; done) | (rw [if_neg (Int32.not_lt.mpr c_22)]; done)) j_15
        · skip
          refine q_aload_n B dX7_brokenOnes_25 rfl rfl ?_
          refine q_iload_n B dX7_brokenOnes_26 rfl rfl ?_
          refine q_iconst (v := nI 1) B dX7_brokenOnes_27 rfl ?_
          refine q_rtV B (s_of hm (by omega) (by decide)) kv_yX7_of ki_yX7_of ks_yX7_of km_X7_39 rfl (ci := 7) rfl rfl hm.1 (by decide) rfl (Nat.le_of_ble_eq_true rfl) dX7_brokenOnes_28 ?_
          refine q_iload_n B dX7_brokenOnes_31 rfl rfl ?_
          refine q_ishr B dX7_brokenOnes_32 ?_
          refine q_iconst (v := nI 1) B dX7_brokenOnes_33 rfl ?_
          refine q_iand B dX7_brokenOnes_34 ?_
          refine q_goto (tgt := 39) B dX7_brokenOnes_35 (by decide) ?_
          exact q_top (by first | (rw [if_pos (Int32.not_le.mp c_22)]; done) | (rw [if_neg (Int32.not_lt.mpr c_22)]; done)) j_15
  exact q_tk (hl_4 T 0 0 (by omega) rfl) rfl (q_ac rfl (q_ac rfl (q_ac rfl (q_ac rfl q_an))))
set_option maxRecDepth 100000 in
set_option maxHeartbeats 4000000 in
theorem s_scarcest {Sh : q_Sh} {I : q_Mem} {σ : a_A} {o : Nat} (hm : mOk Sh o) {T F : Nat} (hW : a_W T F σ) (h0 : I o 0 = nI 0) : q_Rt mX7_scarcest 2 [.ref o] Sh (q_setA I (o + 1) σ) (some (.int (a_scar σ))) (q_setA I (o + 1) σ) := by
  refine q_rt_of (by decide) (Nat.le_of_ble_eq_true rfl) fun Γ BM => ?_
  have B := BM.1
  have hT := hW.1.1
  have hT2 := hW.1.2
  have hF := hW.2.1.1
  have hF2 := hW.2.1.2
  show q_W Γ mX7_scarcest 0 0 Sh (q_setA I (o + 1) σ) 0 [(0, .ref o)] []
  refine q_aload_n B dX7_scarcest_0 rfl rfl ?_
  refine q_iconst (v := nI 0) B dX7_scarcest_1 rfl ?_
  refine q_putSame B kC_X7 (k := 0) (by decide) rfl kf_X7_32 rfl rfl rfl hm.1 ((congrFun (q_setA_ne (by omega)) _).trans h0) dX7_scarcest_2 ?_
  refine q_bipush (v := -6) B dX7_scarcest_5 rfl ?_
  refine q_istore_n B dX7_scarcest_7 rfl (Nat.le_of_ble_eq_true rfl) rfl ?_
  refine q_iconst (v := 0) B dX7_scarcest_8 rfl ?_
  refine q_istore_n B dX7_scarcest_9 rfl (Nat.le_of_ble_eq_true rfl) rfl ?_
  refine q_iconst (v := nI 0) B dX7_scarcest_10 rfl ?_
  refine q_istore_n B dX7_scarcest_11 rfl (Nat.le_of_ble_eq_true rfl) rfl ?_
  have hl_12 : ∀ (n i : Nat) (b m : Int32), i + n = 8 → q_fold (a_scar1 σ) i (-6, 0) = (b, m) → q_W Γ mX7_scarcest 0 0 Sh (q_setA I (o + 1) σ) 12 [(0, .ref o), (1, .int b), (2, .int m), (3, .int (nI i))] [] := by
    intro n
    induction n with
    | zero =>
      intro i b m hin hinv
      have hi : i = 8 := by omega
      subst hi
      refine q_iload_n B dX7_scarcest_12 rfl rfl ?_
      refine q_bipush (v := nI 8) B dX7_scarcest_13 rfl ?_
      refine q_icmp_ge (tgt := 65) B dX7_scarcest_15 (by decide) (fun _ => ?_) (fun h => absurd (q_le (Nat.le_refl 8) (by decide)) h)
      refine q_iload_n B dX7_scarcest_65 rfl rfl ?_
      exact q_iret BM rfl dX7_scarcest_66 ⟨by rw [a_scar, hinv], rfl, rfl⟩
    | succ n ih =>
      intro i b m hin hinv
      have hiN : i < 8 := by omega
      refine q_iload_n B dX7_scarcest_12 rfl rfl ?_
      refine q_bipush (v := nI 8) B dX7_scarcest_13 rfl ?_
      refine q_icmp_ge (tgt := 65) B dX7_scarcest_15 (by decide) (fun h => absurd h (q_nle hiN (by decide))) (fun _ => ?_)
      refine q_aload_n B dX7_scarcest_18 rfl rfl ?_
      refine q_iload_n B dX7_scarcest_19 rfl rfl ?_
      refine q_rtV B (s_brokenOnes hm hW) kv_yX7_brokenOnes ki_yX7_brokenOnes ks_yX7_brokenOnes km_X7_132 rfl (ci := 7) rfl rfl hm.1 (by decide) rfl (Nat.le_of_ble_eq_true rfl) dX7_scarcest_20 ?_
      refine q_aload_n B dX7_scarcest_23 rfl rfl ?_
      refine q_getR B kC_X7 (k := 1) (by decide) rfl kf_X7_7 hm.1 (mR_s hm) dX7_scarcest_24 ?_
      refine q_iconst (v := nI 3) B dX7_scarcest_27 rfl ?_
      refine q_iload_n B dX7_scarcest_28 rfl rfl ?_
      refine q_iadd B dX7_scarcest_29 ?_
      refine q_ialdS (n := 3 + i) B (mA_s hm) (by simp only [nI_add, q_nI_mul]) (by omega) (by decide) dX7_scarcest_30 ?_
      refine q_isub B dX7_scarcest_31 ?_
      refine q_istore B dX7_scarcest_32 (Nat.le_of_ble_eq_true rfl) rfl ?_
      refine q_join 45 (if m < a_broken σ (nI i) - σ (3 + i) then nI i else b) ?_ (fun j_34 => ?_)
      · skip
        refine q_istore_n B dX7_scarcest_45 rfl (Nat.le_of_ble_eq_true rfl) rfl ?_
        refine q_join 58 (if m < a_broken σ (nI i) - σ (3 + i) then a_broken σ (nI i) - σ (3 + i) else m) ?_ (fun j_46 => ?_)
        · skip
          refine q_istore_n B dX7_scarcest_58 rfl (Nat.le_of_ble_eq_true rfl) rfl ?_
          refine q_iinc2 (y := nI (i + 1)) B dX7_scarcest_59 rfl (q_inc1 _) (Nat.le_of_ble_eq_true rfl) rfl ?_
          refine q_goto (tgt := 12) B dX7_scarcest_62 (by decide) ?_
          exact q_tk (ih (i + 1) _ _ (by omega) (by show a_scar1 σ i (q_fold _ i _) = _; rw [hinv]; rfl)) rfl (q_ac rfl (q_ac rfl (q_ac rfl (q_ac rfl q_an))))
        · skip
          refine q_iload B dX7_scarcest_46 rfl ?_
          refine q_iload_n B dX7_scarcest_48 rfl rfl ?_
          refine q_icmp_le (tgt := 57) B dX7_scarcest_49 (by decide) (fun c_49 => ?_) (fun c_49 => ?_)
          · skip
            refine q_iload_n B dX7_scarcest_57 rfl rfl ?_
            exact q_top (by first | (rw [if_pos (Int32.not_le.mp c_49)]; done) | (rw [if_neg (Int32.not_lt.mpr c_49)]; done)) j_46
          · skip
            refine q_iload B dX7_scarcest_52 rfl ?_
            refine q_goto (tgt := 58) B dX7_scarcest_54 (by decide) ?_
            exact q_top (by first | (rw [if_pos (Int32.not_le.mp c_49)]; done) | (rw [if_neg (Int32.not_lt.mpr c_49)]; done)) j_46
      · skip
        refine q_iload B dX7_scarcest_34 rfl ?_
        refine q_iload_n B dX7_scarcest_36 rfl rfl ?_
        refine q_icmp_le (tgt := 44) B dX7_scarcest_37 (by decide) (fun c_37 => ?_) (fun c_37 => ?_)
        · skip
          refine q_iload_n B dX7_scarcest_44 rfl rfl ?_
          exact q_top (by first | (rw [if_pos (Int32.not_le.mp c_37)]; done) | (rw [if_neg (Int32.not_lt.mpr c_37)]; done)) j_34
        · skip
          refine q_iload_n B dX7_scarcest_40 rfl rfl ?_
          refine q_goto (tgt := 45) B dX7_scarcest_41 (by decide) ?_
          exact q_top (by first | (rw [if_pos (Int32.not_le.mp c_37)]; done) | (rw [if_neg (Int32.not_lt.mpr c_37)]; done)) j_34
  exact q_tk (hl_12 8 0 (-6) 0 (by omega) rfl) rfl (q_ac rfl (q_ac rfl (q_ac rfl (q_ac rfl q_an))))
end
section
/-! what comes new, kept well; the calls' answers as functions -/
theorem a_comes_W {T F k m p : Nat} {t : Int32} {σ : a_A} (h : a_W T F σ) (hT : T < 30) (hk : k < 6) (hm : m < 256) (hp1 : 1 ≤ p) (hp2 : p ≤ 99) : a_W (T + 1) F (a_comes σ (nI k) (nI m) (nI p) t) := by
  have haT := a_W_T h
  obtain ⟨⟨h1, h1'⟩, ⟨h2, h2'⟩, h3, h4, h5, h6, h7, h8, h9⟩ := h
  unfold a_comes
  dsimp only
  rw [haT]
  refine ⟨⟨by simp (disch := omega) only [q_upd_ne, q_upd_at]; rw [h1, nI_1], by omega⟩, ⟨by simp (disch := omega) only [q_upd_ne]; exact h2, h2'⟩, fun i hi => ?_, fun i hi => ?_, fun i hi => ?_, fun i hi => ?_, fun f hf => ?_, fun f g hf hg => by simp (disch := omega) only [q_upd_ne]; exact h8 f g hf hg, fun q hq => by simp (disch := omega) only [q_upd_ne]; exact h9 q hq⟩
  · by_cases e : i = T
    · subst e; exact ⟨k, hk, by simp (disch := omega) only [q_upd_ne, q_upd_at]⟩
    · simp (disch := omega) only [q_upd_ne]; exact h3 i (by omega)
  · by_cases e : i = T
    · subst e; exact ⟨m, hm, by simp (disch := omega) only [q_upd_ne, q_upd_at]⟩
    · simp (disch := omega) only [q_upd_ne]; exact h4 i (by omega)
  · by_cases e : i = T
    · subst e; exact ⟨0, by omega, by simp (disch := omega) only [q_upd_ne, q_upd_at]; rfl⟩
    · simp (disch := omega) only [q_upd_ne]; exact h5 i (by omega)
  · by_cases e : i = T
    · subst e; intro _; exact ⟨p, hp1, hp2, by simp (disch := omega) only [q_upd_ne, q_upd_at]⟩
    · simp (disch := omega) only [q_upd_ne]; exact h6 i (by omega)
  · obtain ⟨x, a, b, c⟩ := h7 f hf
    refine ⟨x, by omega, by simp (disch := omega) only [q_upd_ne]; exact b, fun i hi => ?_⟩
    simp (disch := omega) only [q_upd_ne]; exact c i hi
theorem a_fold6 {σ : a_A} {b j : Nat} (hj : ¬ (b ≤ j ∧ j < b + 6)) : q_fold (fun x (s : a_A) => upd s (b + x) 0) 6 σ j = σ j := by
  simp (disch := omega) only [q_fold, q_upd_ne]
theorem a_comesF_W {T F : Nat} {k c : Int32} {σ : a_A} (h : a_W T F σ) (hF : F < 5) : a_W T (F + 1) (a_comesF σ k c) := by
  have haF := a_W_F h
  obtain ⟨⟨h1, h1'⟩, ⟨h2, h2'⟩, h3, h4, h5, h6, h7, h8, h9⟩ := h
  have hz : ∀ j, ¬ (27 + 6 * F ≤ j ∧ j < 27 + 6 * F + 6) → j ≠ 2 → a_comesF σ k c j = σ j := by
    intro j hj hj2
    unfold a_comesF
    try dsimp only
    rw [haF]
    simp (disch := omega) only [q_upd_ne]
    exact a_fold6 hj
  have hz2 : a_comesF σ k c 2 = nI (F + 1) := by
    unfold a_comesF
    try dsimp only
    rw [haF, q_upd_at]
    simp (disch := omega) only [q_upd_ne]
    rw [a_fold6 (by omega), h2, nI_1]
  have hz3 : a_comesF σ k c (27 + 6 * F + 2) = 0 := by
    unfold a_comesF
    try dsimp only
    rw [haF]
    simp (disch := omega) only [q_upd_ne, q_fold, q_upd_at]
  refine ⟨⟨by rw [hz _ (by omega) (by omega)]; exact h1, h1'⟩, ⟨hz2, by omega⟩, fun i hi => by rw [hz _ (by omega) (by omega)]; exact h3 i hi, fun i hi => by rw [hz _ (by omega) (by omega)]; exact h4 i hi, fun i hi => by rw [hz _ (by omega) (by omega)]; exact h5 i hi, fun i hi => by rw [hz _ (by omega) (by omega), hz _ (by omega) (by omega)]; exact h6 i hi, fun f hf => ?_, fun f g hf hg => ?_, fun q hq => by rw [hz _ (by omega) (by omega)]; exact h9 q hq⟩
  · by_cases e : f = F
    · subst e; exact ⟨0, by omega, hz3, fun i hi => by omega⟩
    · obtain ⟨x, a, b, c⟩ := h7 f (by omega)
      refine ⟨x, a, by rw [hz _ (by omega) (by omega)]; exact b, fun i hi => ?_⟩
      rw [hz _ (by omega) (by omega)]; exact c i hi
  · by_cases e : f = F
    · subst e; rw [hz3]; exact fun _ q => absurd rfl q
    · by_cases e2 : g = F
      · subst e2; rw [hz3]; exact fun q z => absurd q z
      · rw [hz _ (by omega) (by omega), hz _ (by omega) (by omega)]; exact h8 f g (by omega) (by omega)
theorem a_isT_iff {T : Nat} {t : Int32} (hT : T ≤ 30) : (nI 0 ≤ t ∧ t ≤ nI T - nI 1) ↔ (nI 0 ≤ t ∧ t < nI T) := by
  rcases Nat.eq_zero_or_pos T with z | z
  · subst z
    constructor
    · intro ⟨h1, h2⟩
      exact absurd (Int32.le_trans h1 h2) (by decide)
    · intro ⟨h1, h2⟩
      exact absurd h2 (Int32.not_lt.mpr h1)
  · rw [q_nI_sub (by omega)]
    have e1 : (nI (T - 1)).toInt = ((T - 1 : Nat) : Int) := nI_toInt (by omega)
    have e2 : (nI T).toInt = (T : Int) := nI_toInt (by omega)
    rw [Int32.le_iff_toInt_le (x := t) (y := nI (T - 1)), Int32.lt_iff_toInt_lt, e1, e2]
    constructor <;> intro ⟨h1, h2⟩ <;> exact ⟨h1, by omega⟩
theorem a_isT_ex {T : Nat} {t : Int32} (hT : T ≤ 30) (h : nI 0 ≤ t ∧ t < nI T) : ∃ j, j < T ∧ t = nI j := by
  obtain ⟨j, hj, rfl⟩ := nI_of (x := t) (by rw [← nI_0]; exact Int32.not_lt.mpr h.1)
  exact ⟨j, (nI_ltI hj (by omega)).mp h.2, rfl⟩
theorem a_tout {w : Int32} {lo hi : Nat} (h : ∀ j, lo ≤ j → j ≤ hi → w ≠ nI j) (hh : hi < 2 ^ 31) : w.toInt < (lo : Int) ∨ (hi : Int) < w.toInt := by
  by_cases h1 : w.toInt < (lo : Int)
  · exact Or.inl h1
  · by_cases h2 : (hi : Int) < w.toInt
    · exact Or.inr h2
    · exfalso
      refine h w.toInt.toNat (by omega) (by omega) (Int32.toInt_inj.mp ?_)
      rw [nI_toInt (by omega)]
      omega
theorem a_toInt_ne {w : Int32} {j : Nat} (hj : j < 2 ^ 31) (h : w ≠ nI j) : w.toInt ≠ (j : Int) := fun q => h (Int32.toInt_inj.mp (by rw [nI_toInt hj]; exact q))
/-! what the reference answers -/
def a_recS (U σ : a_A) (u : Nat) : a_A := fun k => if 267 * u ≤ k ∧ k < 267 * u + 267 then σ (k - 267 * u) else U k
def a_sh (n : Nat) (U : a_A) : a_A := fun k => if k < n then U (k + 267) else U k
def a_recU (U σ : a_A) (u : Nat) : a_A := if u = 6 then a_recS (a_sh 1335 U) σ 5 else a_recS U σ u
def a_recN (u : Nat) : Nat := if u = 6 then 6 else u + 1
/-- one more state in the history -/
def a_rec (I : q_Mem) (o : Nat) (σ : a_A) : q_Mem := q_setA (q_setA I (o + 3) (a_recU (I (o + 3)) σ (a_n (I o 4)))) o (upd (I o) 4 (nI (a_recN (a_n (I o 4)))))
def a_ofThing (σ : a_A) (t w : Int32) : Int32 :=
  if ¬ (nI 0 ≤ t ∧ t < σ 1) then -1 else if w = nI 5 then a_fixerOf σ t else if w = nI 6 then σ (57 + 7 * a_n t + 5) else if w = nI 7 then σ (57 + 7 * a_n t + 6) else if w = nI 8 then a_place σ (a_n t) else if nI 0 ≤ w ∧ w ≤ nI 4 then σ (57 + 7 * a_n t + a_n w) else -2
def a_ofFixer (σ : a_A) (f w : Int32) : Int32 :=
  if ¬ (nI 0 ≤ f ∧ f < σ 2) then -1 else if w = nI 2 then (if σ (27 + 6 * a_n f + 2) = 0 then -6 else σ (27 + 6 * a_n f + 2) - 1) else if w = nI 6 then a_next σ (σ (27 + 6 * a_n f)) else if nI 0 ≤ w ∧ w ≤ nI 5 then σ (27 + 6 * a_n f + a_n w) else -2
def a_ofPart (σ : a_A) (p w : Int32) : Int32 :=
  if ¬ (nI 0 ≤ p ∧ p ≤ nI 7) then -1 else if w = nI 0 then σ (3 + a_n p) else if w = nI 1 then a_broken σ p else if w = nI 2 then σ (11 + a_n p) else if w = nI 3 then σ (19 + a_n p) else -2
def a_count (ob σ : a_A) (w : Int32) : Int32 :=
  if w = nI 8 then ob 8 else if w = nI 9 then ob 4 else if nI 0 ≤ w ∧ w ≤ nI 2 then σ (a_n w) else if nI 3 ≤ w ∧ w ≤ nI 7 then a_how σ (w - nI 3) else -2
def a_doneL (t : Nat) : Nat → Nat → a_A → Nat
  | 0, n, _ => n
  | k + 1, n, σ => if σ (57 + 7 * t + 4) < nI 2 then a_doneL t k (n + 1) (a_minute σ) else n
def a_doneIn (σ : a_A) (t : Int32) : Int32 :=
  if ¬ (nI 0 ≤ t ∧ t < σ 1) then -1 else let n := a_doneL (a_n t) 501 0 σ
  if 500 < n then -6 else nI n
def a_repW (σ : a_A) (k c : Int32) (n : Nat) : Int32 := a_how (a_minutes n (a_comesF σ k c)) (nI 2) - a_how (a_comesF σ k c) (nI 2)
def a_withF (σ : a_A) (k c m : Int32) : Int32 :=
  if a_refF σ k c = -2 ∨ ¬ (nI 1 ≤ m ∧ m ≤ nI 300) then -2 else if a_refF σ k c = 0 then a_repW σ k c (a_n m) else a_refF σ k c
def a_best1 (σ : a_A) (n : Nat) (j : Nat) (x : Int32 × Int32) : Int32 × Int32 :=
  (if x.2 < a_repW σ (nI 63) (nI (j + 1)) n then nI (j + 1) else x.1, if x.2 < a_repW σ (nI 63) (nI (j + 1)) n then a_repW σ (nI 63) (nI (j + 1)) n else x.2)
def a_best (σ : a_A) (m : Int32) : Int32 :=
  if ¬ (nI 1 ≤ m ∧ m ≤ nI 300) then -2 else if σ 2 = nI 5 then -4 else (q_fold (a_best1 σ (a_n m)) 9 (0, a_repW σ (nI 63) 0 (a_n m))).1
theorem a_doneL_le (t : Nat) : ∀ k n σ, a_doneL t k n σ ≤ n + k := by
  intro k
  induction k with
  | zero => intro n σ; exact Nat.le_refl n
  | succ k ih =>
    intro n σ
    unfold a_doneL
    split
    · have := ih (n + 1) (a_minute σ); omega
    · omega
end
section
set_option maxRecDepth 100000 in
set_option maxHeartbeats 4000000 in
theorem s_putAside {Sh : q_Sh} {I : q_Mem} {σ : a_A} {o : Nat} (hm : mOk Sh o) : q_Rt mX7_putAside 0 [.ref o] Sh (q_setA I (o + 1) σ) (none) (q_setA (q_setA I (o + 2) σ) (o + 1) σ) := by
  refine q_rt_of (by decide) (Nat.le_of_ble_eq_true rfl) fun Γ BM => ?_
  have B := BM.1
  show q_W Γ mX7_putAside 0 0 Sh (q_setA I (o + 1) σ) 0 [(0, .ref o)] []
  refine q_iconst (v := nI 0) B dX7_putAside_0 rfl ?_
  refine q_istore_n B dX7_putAside_1 rfl (Nat.le_of_ble_eq_true rfl) rfl ?_
  have hl_2 : ∀ (n i : Nat) , i + n = 267 → q_W Γ mX7_putAside 0 0 Sh (q_setA (q_setA I (o + 2) (a_cp i σ (I (o + 2)))) (o + 1) σ) 2 [(0, .ref o), (1, .int (nI i))] [] := by
    intro n
    induction n with
    | zero =>
      intro i  hin
      have hi : i = 267 := by omega
      subst hi
      refine q_iload_n B dX7_putAside_2 rfl rfl ?_
      refine q_sipush (v := nI 267) B dX7_putAside_3 rfl ?_
      refine q_icmp_ge (tgt := 27) B dX7_putAside_6 (by decide) (fun _ => ?_) (fun h => absurd (q_le (Nat.le_refl 267) (by decide)) h)
      rw [q_setA_comm (by omega)]
      refine q_norm (mA_aside hm) (by decide) (g := σ) (fun j hj => a_cp_at (by omega)) ?_
      rw [q_setA_comm (by omega)]
      exact q_vret BM rfl dX7_putAside_27 ⟨rfl, rfl, rfl⟩
    | succ n ih =>
      intro i  hin
      have hiN : i < 267 := by omega
      refine q_iload_n B dX7_putAside_2 rfl rfl ?_
      refine q_sipush (v := nI 267) B dX7_putAside_3 rfl ?_
      refine q_icmp_ge (tgt := 27) B dX7_putAside_6 (by decide) (fun h => absurd h (q_nle hiN (by decide))) (fun _ => ?_)
      refine q_aload_n B dX7_putAside_9 rfl rfl ?_
      refine q_getR B kC_X7 (k := 2) (by decide) rfl kf_X7_13 hm.1 (mR_aside hm) dX7_putAside_10 ?_
      refine q_iload_n B dX7_putAside_13 rfl rfl ?_
      refine q_aload_n B dX7_putAside_14 rfl rfl ?_
      refine q_getR B kC_X7 (k := 1) (by decide) rfl kf_X7_7 hm.1 (mR_s hm) dX7_putAside_15 ?_
      refine q_iload_n B dX7_putAside_18 rfl rfl ?_
      refine q_ialdS (n := i) B (mA_s hm) rfl (by omega) (by decide) dX7_putAside_19 ?_
      refine q_iastO (n := i) B (by omega) (mA_aside hm) rfl (by omega) (by decide) dX7_putAside_20 ?_
      refine q_iinc2 (y := nI (i + 1)) B dX7_putAside_21 rfl (q_inc1 _) (Nat.le_of_ble_eq_true rfl) rfl ?_
      refine q_goto (tgt := 2) B dX7_putAside_24 (by decide) ?_
      exact q_tkm (ih (i + 1) (by omega)) (by rw [q_setA_at, q_setA_setA, a_cp_s]) rfl (q_ac rfl (q_ac rfl q_an))
  exact q_tkm (hl_2 267 0 (by omega)) (by rw [a_cp_0, q_setA_self]) rfl (q_ac rfl (q_ac rfl q_an))
set_option maxRecDepth 100000 in
set_option maxHeartbeats 4000000 in
theorem s_takeBack {Sh : q_Sh} {I : q_Mem} {σ : a_A} {o : Nat} (hm : mOk Sh o) : q_Rt mX7_takeBack 0 [.ref o] Sh (q_setA I (o + 1) σ) (none) (q_setA I (o + 1) (I (o + 2))) := by
  refine q_rt_of (by decide) (Nat.le_of_ble_eq_true rfl) fun Γ BM => ?_
  have B := BM.1
  show q_W Γ mX7_takeBack 0 0 Sh (q_setA I (o + 1) σ) 0 [(0, .ref o)] []
  refine q_iconst (v := nI 0) B dX7_takeBack_0 rfl ?_
  refine q_istore_n B dX7_takeBack_1 rfl (Nat.le_of_ble_eq_true rfl) rfl ?_
  have hl_2 : ∀ (n i : Nat) , i + n = 267 → q_W Γ mX7_takeBack 0 0 Sh (q_setA I (o + 1) (a_cp i (I (o + 2)) σ)) 2 [(0, .ref o), (1, .int (nI i))] [] := by
    intro n
    induction n with
    | zero =>
      intro i  hin
      have hi : i = 267 := by omega
      subst hi
      refine q_iload_n B dX7_takeBack_2 rfl rfl ?_
      refine q_sipush (v := nI 267) B dX7_takeBack_3 rfl ?_
      refine q_icmp_ge (tgt := 27) B dX7_takeBack_6 (by decide) (fun _ => ?_) (fun h => absurd (q_le (Nat.le_refl 267) (by decide)) h)
      refine q_norm (mA_s hm) (by decide) (g := I (o + 2)) (fun j hj => a_cp_at (by omega)) ?_
      exact q_vret BM rfl dX7_takeBack_27 ⟨rfl, rfl, rfl⟩
    | succ n ih =>
      intro i  hin
      have hiN : i < 267 := by omega
      refine q_iload_n B dX7_takeBack_2 rfl rfl ?_
      refine q_sipush (v := nI 267) B dX7_takeBack_3 rfl ?_
      refine q_icmp_ge (tgt := 27) B dX7_takeBack_6 (by decide) (fun h => absurd h (q_nle hiN (by decide))) (fun _ => ?_)
      refine q_aload_n B dX7_takeBack_9 rfl rfl ?_
      refine q_getR B kC_X7 (k := 1) (by decide) rfl kf_X7_7 hm.1 (mR_s hm) dX7_takeBack_10 ?_
      refine q_iload_n B dX7_takeBack_13 rfl rfl ?_
      refine q_aload_n B dX7_takeBack_14 rfl rfl ?_
      refine q_getR B kC_X7 (k := 2) (by decide) rfl kf_X7_13 hm.1 (mR_aside hm) dX7_takeBack_15 ?_
      refine q_iload_n B dX7_takeBack_18 rfl rfl ?_
      refine q_ialdO (n := i) B (by omega) (mA_aside hm) rfl (by omega) (by decide) dX7_takeBack_19 ?_
      refine q_iastS (n := i) B (mA_s hm) rfl (by omega) (by decide) dX7_takeBack_20 ?_
      refine q_iinc2 (y := nI (i + 1)) B dX7_takeBack_21 rfl (q_inc1 _) (Nat.le_of_ble_eq_true rfl) rfl ?_
      refine q_goto (tgt := 2) B dX7_takeBack_24 (by decide) ?_
      exact q_tkm (ih (i + 1) (by omega)) (by rw [a_cp_s]) rfl (q_ac rfl (q_ac rfl q_an))
  exact q_tkm (hl_2 267 0 (by omega)) (by rw [a_cp_0]) rfl (q_ac rfl (q_ac rfl q_an))
theorem a_sh_s (i : Nat) (U : a_A) : upd (a_sh i U) i (a_sh i U (i + 267)) = a_sh (i + 1) U := by
  funext k
  by_cases h : k = i
  · subst h
    have : ¬ k + 267 < k := by omega
    simp [upd, a_sh, this]
  · by_cases h2 : k < i
    · simp [upd, a_sh, h, h2, Nat.lt_succ_of_lt h2]
    · have : ¬ k < i + 1 := by omega
      simp [upd, a_sh, h, h2, this]
def a_rs (i : Nat) (U σ : a_A) (u : Nat) : a_A := fun k => if 267 * u ≤ k ∧ k < 267 * u + i then σ (k - 267 * u) else U k
theorem a_rs_0 (U σ : a_A) (u : Nat) : a_rs 0 U σ u = U := by
  funext k
  have : ¬ (267 * u ≤ k ∧ k < 267 * u + 0) := by omega
  simp only [a_rs, if_neg this]
theorem a_rs_s (i : Nat) (U σ : a_A) (u : Nat) : upd (a_rs i U σ u) (267 * u + i) (σ i) = a_rs (i + 1) U σ u := by
  funext k
  by_cases h : k = 267 * u + i
  · subst h
    have h1 : 267 * u ≤ 267 * u + i ∧ 267 * u + i < 267 * u + (i + 1) := by omega
    simp only [upd, a_rs, if_true, if_pos h1]
    congr 1; omega
  · by_cases h2 : 267 * u ≤ k ∧ k < 267 * u + i
    · have h3 : 267 * u ≤ k ∧ k < 267 * u + (i + 1) := by omega
      simp only [upd, a_rs, if_neg h, if_pos h2, if_pos h3]
    · have h3 : ¬ (267 * u ≤ k ∧ k < 267 * u + (i + 1)) := by omega
      simp only [upd, a_rs, if_neg h, if_neg h2, if_neg h3]
set_option maxRecDepth 100000 in
set_option maxHeartbeats 4000000 in
theorem s_records {Sh : q_Sh} {I : q_Mem} {σ : a_A} {o : Nat} (hm : mOk Sh o) {u : Nat} (hu : u ≤ 6) (hu4 : I o 4 = nI u) : q_Rt mX7_records 0 [.ref o] Sh (q_setA I (o + 1) σ) (none) (q_setA (a_rec I o σ) (o + 1) σ) := by
  refine q_rt_of (by decide) (Nat.le_of_ble_eq_true rfl) fun Γ BM => ?_
  have B := BM.1
  have hau : a_n (I o 4) = u := by rw [hu4]; exact nI_clamp (by omega)
  show q_W Γ mX7_records 0 0 Sh (q_setA I (o + 1) σ) 0 [(0, .ref o)] []
  have j_50 : ∀ (U1 ob : a_A) (u1 : Nat), (u1 ≤ 5 ∧ ob 4 = nI u1 ∧ a_recU (I (o + 3)) σ u = a_recS U1 σ u1 ∧ upd ob 4 (nI (u1 + 1)) = upd (I o) 4 (nI (a_recN u))) → q_W Γ mX7_records 0 0 Sh (q_setA (q_setA (q_setA I (o + 3) U1) o ob) (o + 1) σ) 50 [(0, .ref o)] [] := by
    intro U1 ob u1 hr
    obtain ⟨g1, g2, g3, g4⟩ := hr
    refine q_iconst (v := nI 0) B dX7_records_50 rfl ?_
    refine q_istore_n B dX7_records_51 rfl (Nat.le_of_ble_eq_true rfl) rfl ?_
    have hl_52 : ∀ (n i : Nat) , i + n = 267 → q_W Γ mX7_records 0 0 Sh (q_setA (q_setA (q_setA I o ob) (o + 3) (a_rs i U1 σ u1)) (o + 1) σ) 52 [(0, .ref o), (1, .int (nI i))] [] := by
      intro n
      induction n with
      | zero =>
        intro i  hin
        have hi : i = 267 := by omega
        subst hi
        refine q_iload_n B dX7_records_52 rfl rfl ?_
        refine q_sipush (v := nI 267) B dX7_records_53 rfl ?_
        refine q_icmp_ge (tgt := 86) B dX7_records_56 (by decide) (fun _ => ?_) (fun h => absurd (q_le (Nat.le_refl 267) (by decide)) h)
        refine q_aload_n B dX7_records_86 rfl rfl ?_
        refine q_dup B dX7_records_87 rfl ?_
        refine q_getIS B (by omega) kC_X7 (k := 4) (by decide) rfl kf_X7_36 hm.1 dX7_records_88 ?_
        refine q_top (y := nI u1) (((congrFun (q_setA_ne (by omega)) _).trans (congrFun (q_setA_at _ _ _) _)).trans g2) ?_
        refine q_iconst (v := nI 1) B dX7_records_91 rfl ?_
        refine q_iadd B dX7_records_92 ?_
        refine q_top (nI_add u1 1) ?_
        refine q_putIS B (by omega) kC_X7 (k := 4) (by decide) rfl kf_X7_36 rfl rfl rfl hm.1 dX7_records_93 ?_
        exact q_vret BM rfl dX7_records_96 ⟨rfl, rfl, by rw [a_rec, hau, g3, ← g4, q_setA_ne (l := o + 3) (m := o) (by omega), q_setA_at, q_setA_comm (l := o + 3) (m := o) (by omega), q_setA_setA, q_setA_comm (l := o) (m := o + 3) (by omega)]; rfl⟩
      | succ n ih =>
        intro i  hin
        have hiN : i < 267 := by omega
        refine q_iload_n B dX7_records_52 rfl rfl ?_
        refine q_sipush (v := nI 267) B dX7_records_53 rfl ?_
        refine q_icmp_ge (tgt := 86) B dX7_records_56 (by decide) (fun h => absurd h (q_nle hiN (by decide))) (fun _ => ?_)
        refine q_aload_n B dX7_records_59 rfl rfl ?_
        refine q_getR B kC_X7 (k := 3) (by decide) rfl kf_X7_16 hm.1 (mR_undos hm) dX7_records_60 ?_
        refine q_sipush (v := nI 267) B dX7_records_63 rfl ?_
        refine q_aload_n B dX7_records_66 rfl rfl ?_
        refine q_getIS B (by omega) kC_X7 (k := 4) (by decide) rfl kf_X7_36 hm.1 dX7_records_67 ?_
        refine q_top (y := nI u1) (((congrFun (q_setA_ne (by omega)) _).trans (congrFun (q_setA_at _ _ _) _)).trans g2) ?_
        refine q_imul B dX7_records_70 ?_
        refine q_iload_n B dX7_records_71 rfl rfl ?_
        refine q_iadd B dX7_records_72 ?_
        refine q_aload_n B dX7_records_73 rfl rfl ?_
        refine q_getR B kC_X7 (k := 1) (by decide) rfl kf_X7_7 hm.1 (mR_s hm) dX7_records_74 ?_
        refine q_iload_n B dX7_records_77 rfl rfl ?_
        refine q_ialdS (n := i) B (mA_s hm) rfl (by omega) (by decide) dX7_records_78 ?_
        refine q_iastO (n := 267 * u1 + i) B (by omega) (mA_undos hm) (by simp only [nI_add, q_nI_mul]) (by omega) (by decide) dX7_records_79 ?_
        refine q_iinc2 (y := nI (i + 1)) B dX7_records_80 rfl (q_inc1 _) (Nat.le_of_ble_eq_true rfl) rfl ?_
        refine q_goto (tgt := 52) B dX7_records_83 (by decide) ?_
        exact q_tkm (ih (i + 1) (by omega)) (by rw [q_setA_at, q_setA_setA, a_rs_s]) rfl (q_ac rfl (q_ac rfl q_an))
    exact q_tkm (hl_52 267 0 (by omega)) (by rw [a_rs_0, q_setA_comm (l := o) (m := o + 3) (by omega)]) rfl (q_ac rfl (q_ac rfl q_an))
  refine q_aload_n B dX7_records_0 rfl rfl ?_
  refine q_getIS B (by omega) kC_X7 (k := 4) (by decide) rfl kf_X7_36 hm.1 dX7_records_1 ?_
  refine q_top hu4 ?_
  refine q_bipush (v := nI 6) B dX7_records_4 rfl ?_
  refine q_icmp_ne (tgt := 50) B dX7_records_6 (by decide) (fun c_6 => ?_) (fun c_6 => ?_)
  · skip
    have c6 : u ≠ 6 := fun q => c_6 (by rw [q])
    have h50 := j_50 (I (o + 3)) (I o) u ⟨by omega, hu4, by rw [a_recU, if_neg c6], by rw [a_recN, if_neg c6]⟩
    rw [q_setA_self, q_setA_self] at h50
    exact h50
  · skip
    have c6 : u = 6 := (nI_eq (by omega) (by omega)).mp c_6
    subst c6
    refine q_iconst (v := nI 0) B dX7_records_9 rfl ?_
    refine q_istore_n B dX7_records_10 rfl (Nat.le_of_ble_eq_true rfl) rfl ?_
    have hl_11 : ∀ (n i : Nat) , i + n = 1335 → q_W Γ mX7_records 0 0 Sh (q_setA (q_setA I (o + 3) (a_sh i (I (o + 3)))) (o + 1) σ) 11 [(0, .ref o), (1, .int (nI i))] [] := by
      intro n
      induction n with
      | zero =>
        intro i  hin
        have hi : i = 1335 := by omega
        subst hi
        refine q_iload_n B dX7_records_11 rfl rfl ?_
        refine q_sipush (v := nI 1335) B dX7_records_12 rfl ?_
        refine q_icmp_ge (tgt := 40) B dX7_records_15 (by decide) (fun _ => ?_) (fun h => absurd (q_le (Nat.le_refl 1335) (by decide)) h)
        refine q_aload_n B dX7_records_40 rfl rfl ?_
        refine q_dup B dX7_records_41 rfl ?_
        refine q_getIS B (by omega) kC_X7 (k := 4) (by decide) rfl kf_X7_36 hm.1 dX7_records_42 ?_
        refine q_top (y := nI 6) ((congrFun (q_setA_ne (by omega)) _).trans hu4) ?_
        refine q_iconst (v := nI 1) B dX7_records_45 rfl ?_
        refine q_isub B dX7_records_46 ?_
        refine q_top (y := nI 5) (by decide) ?_
        refine q_putIS B (by omega) kC_X7 (k := 4) (by decide) rfl kf_X7_36 rfl rfl rfl hm.1 dX7_records_47 ?_
        have h50 := j_50 (a_sh 1335 (I (o + 3))) (upd (I o) 4 (nI 5)) 5 ⟨by omega, q_upd_at _ _ _, by rw [a_recU, if_pos rfl], by funext z; by_cases e : z = 4 <;> simp [upd, e, a_recN]⟩
        refine q_tkm h50 (by rw [q_setA_ne (I := I) (by omega)]) rfl (q_ac rfl q_an)
      | succ n ih =>
        intro i  hin
        have hiN : i < 1335 := by omega
        refine q_iload_n B dX7_records_11 rfl rfl ?_
        refine q_sipush (v := nI 1335) B dX7_records_12 rfl ?_
        refine q_icmp_ge (tgt := 40) B dX7_records_15 (by decide) (fun h => absurd h (q_nle hiN (by decide))) (fun _ => ?_)
        refine q_aload_n B dX7_records_18 rfl rfl ?_
        refine q_getR B kC_X7 (k := 3) (by decide) rfl kf_X7_16 hm.1 (mR_undos hm) dX7_records_19 ?_
        refine q_iload_n B dX7_records_22 rfl rfl ?_
        refine q_aload_n B dX7_records_23 rfl rfl ?_
        refine q_getR B kC_X7 (k := 3) (by decide) rfl kf_X7_16 hm.1 (mR_undos hm) dX7_records_24 ?_
        refine q_iload_n B dX7_records_27 rfl rfl ?_
        refine q_sipush (v := nI 267) B dX7_records_28 rfl ?_
        refine q_iadd B dX7_records_31 ?_
        refine q_ialdO (n := i + 267) B (by omega) (mA_undos hm) (by simp only [nI_add]) (by omega) (by decide) dX7_records_32 ?_
        refine q_iastO (n := i) B (by omega) (mA_undos hm) rfl (by omega) (by decide) dX7_records_33 ?_
        refine q_iinc2 (y := nI (i + 1)) B dX7_records_34 rfl (q_inc1 _) (Nat.le_of_ble_eq_true rfl) rfl ?_
        refine q_goto (tgt := 11) B dX7_records_37 (by decide) ?_
        exact q_tkm (ih (i + 1) (by omega)) (by rw [q_setA_at, q_setA_setA, a_sh_s]) rfl (q_ac rfl (q_ac rfl q_an))
    exact q_tkm (hl_11 1335 0 (by omega)) (by rw [show a_sh 0 (I (o + 3)) = I (o + 3) from by funext z; simp [a_sh], q_setA_self]) rfl (q_ac rfl (q_ac rfl q_an))
end
section
/-! what a call that isn't refused was given -/
theorem a_refT_0 {T F : Nat} {σ : a_A} {k b p t : Int32} (hW : a_W T F σ) (h : a_refT σ k b p t = 0) : T < 30 ∧ (∃ j, j < 6 ∧ k = nI j) ∧ b &&& (nI (a_pm (a_n k)) ^^^ (-1)) = 0 ∧ (∃ j, 1 ≤ j ∧ j ≤ 99 ∧ p = nI j) ∧ ∃ j, j ≤ 7 ∧ t = nI j := by
  unfold a_refT at h
  by_cases h1 : nI 0 ≤ k ∧ k ≤ nI 5
  · rw [if_neg (not_not_intro h1)] at h
    by_cases h2 : (b &&& (nI (a_pm (a_n k)) ^^^ (-1)) ≠ 0 ∨ ¬ (nI 1 ≤ p ∧ p ≤ nI 99)) ∨ ¬ (nI 0 ≤ t ∧ t ≤ nI 7)
    · rw [if_pos h2] at h
      exact absurd h (by decide)
    · rw [if_neg h2] at h
      by_cases h3 : σ 1 = nI 30
      · rw [if_pos h3] at h
        exact absurd h (by decide)
      · have hb : b &&& (nI (a_pm (a_n k)) ^^^ (-1)) = 0 := Classical.byContradiction fun q => h2 (Or.inl (Or.inl q))
        have hp : nI 1 ≤ p ∧ p ≤ nI 99 := Classical.byContradiction fun q => h2 (Or.inl (Or.inr q))
        have ht : nI 0 ≤ t ∧ t ≤ nI 7 := Classical.byContradiction fun q => h2 (Or.inr q)
        obtain ⟨a, a1, a2⟩ := a_in06 rfl rfl (by decide) h1
        obtain ⟨c, c1, c2⟩ := a_in06 rfl rfl (by decide) ht
        obtain ⟨e, e1, e2⟩ := a_in06 (a := nI 0) rfl rfl (by decide) ⟨Int32.le_trans (show nI 0 ≤ nI 1 from by decide) hp.1, hp.2⟩
        refine ⟨?_, ⟨a, by omega, a2⟩, hb, ⟨e, ?_, e1, e2⟩, c, c1, c2⟩
        · have := hW.1.2
          rcases Nat.lt_or_ge T 30 with q | q
          · exact q
          · exact absurd (by rw [hW.1.1, show T = 30 by omega]) h3
        · have := hp.1
          rw [e2] at this
          exact (nI_leI (by omega) (by omega)).mp this
  · rw [if_pos h1] at h
    exact absurd h (by decide)
theorem a_refF_0 {T F : Nat} {σ : a_A} {k c : Int32} (hW : a_W T F σ) (h : a_refF σ k c = 0) : F < 5 ∧ (∃ j, 1 ≤ j ∧ j ≤ 63 ∧ k = nI j) ∧ ∃ j, j ≤ 9 ∧ c = nI j := by
  unfold a_refF at h
  by_cases h2 : ¬ (nI 1 ≤ k ∧ k ≤ nI 63) ∨ ¬ (nI 0 ≤ c ∧ c ≤ nI 9)
  · rw [if_pos h2] at h
    exact absurd h (by decide)
  · rw [if_neg h2] at h
    by_cases h3 : σ 2 = nI 5
    · rw [if_pos h3] at h
      exact absurd h (by decide)
    · have hk : nI 1 ≤ k ∧ k ≤ nI 63 := Classical.byContradiction fun q => h2 (Or.inl q)
      have hc : nI 0 ≤ c ∧ c ≤ nI 9 := Classical.byContradiction fun q => h2 (Or.inr q)
      obtain ⟨a, a1, a2⟩ := a_in06 rfl rfl (by decide) hc
      obtain ⟨e, e1, e2⟩ := a_in06 (a := nI 0) rfl rfl (by decide) ⟨Int32.le_trans (show nI 0 ≤ nI 1 from by decide) hk.1, hk.2⟩
      refine ⟨?_, ⟨e, ?_, e1, e2⟩, a, a1, a2⟩
      · have := hW.2.1.2
        rcases Nat.lt_or_ge F 5 with q | q
        · exact q
        · exact absurd (by rw [hW.2.1.1, show F = 5 by omega]) h3
      · have := hk.1
        rw [e2] at this
        exact (nI_leI (by omega) (by omega)).mp this
theorem a_refD_0 {p m : Int32} (h : a_refD p m = 0) : (∃ j, j < 8 ∧ p = nI j) ∧ ∃ j, j ≤ 99 ∧ m = nI j := by
  unfold a_refD at h
  by_cases h1 : nI 0 ≤ p ∧ p ≤ nI 7
  · rw [if_neg (not_not_intro h1)] at h
    by_cases h2 : nI 0 ≤ m ∧ m ≤ nI 99
    · obtain ⟨a, a1, a2⟩ := a_in06 rfl rfl (by decide) h1
      obtain ⟨c, c1, c2⟩ := a_in06 rfl rfl (by decide) h2
      exact ⟨⟨a, by omega, a2⟩, c, c1, c2⟩
    · rw [if_neg h2] at h
      exact absurd h (by decide)
  · rw [if_pos h1] at h
    exact absurd h (by decide)
theorem a_refP_0 {σ : a_A} {m : Int32} (h : a_refP σ m = 0) : ∃ j, 1 ≤ j ∧ j ≤ 99 ∧ m = nI j := by
  unfold a_refP at h
  by_cases h1 : nI 1 ≤ m ∧ m ≤ nI 99
  · obtain ⟨e, e1, e2⟩ := a_in06 (a := nI 0) rfl rfl (by decide) ⟨Int32.le_trans (show nI 0 ≤ nI 1 from by decide) h1.1, h1.2⟩
    refine ⟨e, ?_, e1, e2⟩
    have := h1.1
    rw [e2] at this
    exact (nI_leI (by omega) (by omega)).mp this
  · rw [if_pos h1] at h
    exact absurd h (by decide)
theorem a_rec_at {I : q_Mem} {o : Nat} {σ : a_A} {l : Nat} (h1 : l ≠ o) (h2 : l ≠ o + 3) : a_rec I o σ l = I l := by
  unfold a_rec
  rw [q_setA_ne h1, q_setA_ne h2]
theorem a_rec_o {I : q_Mem} {o : Nat} {σ : a_A} {k : Nat} (h : k ≠ 4) : a_rec I o σ o k = I o k := by
  unfold a_rec
  rw [q_setA_at, q_upd_ne h]
set_option maxRecDepth 100000 in
set_option maxHeartbeats 4000000 in
theorem s_thing_no {Sh : q_Sh} {I : q_Mem} {σ : a_A} {o : Nat} (hm : mOk Sh o) {T F : Nat} (hW : a_W T F σ) (h0 : I o 0 = nI 0) {k b p t : Int32} (hr : ¬ a_refT σ k b p t = 0) : q_Rt mX7_thing 2 [.ref o, .int k, .int b, .int p, .int t] Sh (q_setA I (o + 1) σ) (some (.int (a_refT σ k b p t))) (q_setA I (o + 1) σ) := by
  refine q_rt_of (by decide) (Nat.le_of_ble_eq_true rfl) fun Γ BM => ?_
  have B := BM.1
  show q_W Γ mX7_thing 0 0 Sh (q_setA I (o + 1) σ) 0 [(0, .ref o), (1, .int k), (2, .int b), (3, .int p), (4, .int t)] []
  refine q_aload_n B dX7_thing_0 rfl rfl ?_
  refine q_iconst (v := nI 0) B dX7_thing_1 rfl ?_
  refine q_putSame B kC_X7 (k := 0) (by decide) rfl kf_X7_32 rfl rfl rfl hm.1 ((congrFun (q_setA_ne (by omega)) _).trans h0) dX7_thing_2 ?_
  refine q_aload_n B dX7_thing_5 rfl rfl ?_
  refine q_iload_n B dX7_thing_6 rfl rfl ?_
  refine q_iload_n B dX7_thing_7 rfl rfl ?_
  refine q_iload_n B dX7_thing_8 rfl rfl ?_
  refine q_iload B dX7_thing_9 rfl ?_
  refine q_rtV B (s_refusesThing hm) kv_yX7_refusesThing ki_yX7_refusesThing ks_yX7_refusesThing km_X7_98 rfl (ci := 7) rfl rfl hm.1 (by decide) rfl (Nat.le_of_ble_eq_true rfl) dX7_thing_11 ?_
  refine q_istore B dX7_thing_14 (Nat.le_of_ble_eq_true rfl) rfl ?_
  refine q_iload B dX7_thing_16 rfl ?_
  refine q_if_eq (tgt := 24) B dX7_thing_18 (by decide) (fun h => absurd h hr) (fun _ => ?_)
  refine q_iload B dX7_thing_21 rfl ?_
  exact q_iret BM rfl dX7_thing_23 ⟨rfl, rfl, rfl⟩
set_option maxRecDepth 100000 in
set_option maxHeartbeats 4000000 in
theorem s_thing_yes {Sh : q_Sh} {I : q_Mem} {σ : a_A} {o : Nat} (hm : mOk Sh o) {T F : Nat} (hW : a_W T F σ) (h0 : I o 0 = nI 0) {u : Nat} (hu : u ≤ 6) (hu4 : I o 4 = nI u) {k b p t : Int32} (hr : a_refT σ k b p t = 0) : q_Rt mX7_thing 2 [.ref o, .int k, .int b, .int p, .int t] Sh (q_setA I (o + 1) σ) (some (.int (nI T))) (q_setA (a_rec I o σ) (o + 1) (a_comes σ k b p t)) := by
  refine q_rt_of (by decide) (Nat.le_of_ble_eq_true rfl) fun Γ BM => ?_
  have B := BM.1
  have hlt := (a_refT_0 hW hr).1
  show q_W Γ mX7_thing 0 0 Sh (q_setA I (o + 1) σ) 0 [(0, .ref o), (1, .int k), (2, .int b), (3, .int p), (4, .int t)] []
  refine q_aload_n B dX7_thing_0 rfl rfl ?_
  refine q_iconst (v := nI 0) B dX7_thing_1 rfl ?_
  refine q_putSame B kC_X7 (k := 0) (by decide) rfl kf_X7_32 rfl rfl rfl hm.1 ((congrFun (q_setA_ne (by omega)) _).trans h0) dX7_thing_2 ?_
  refine q_aload_n B dX7_thing_5 rfl rfl ?_
  refine q_iload_n B dX7_thing_6 rfl rfl ?_
  refine q_iload_n B dX7_thing_7 rfl rfl ?_
  refine q_iload_n B dX7_thing_8 rfl rfl ?_
  refine q_iload B dX7_thing_9 rfl ?_
  refine q_rtV B (s_refusesThing hm) kv_yX7_refusesThing ki_yX7_refusesThing ks_yX7_refusesThing km_X7_98 rfl (ci := 7) rfl rfl hm.1 (by decide) rfl (Nat.le_of_ble_eq_true rfl) dX7_thing_11 ?_
  refine q_istore B dX7_thing_14 (Nat.le_of_ble_eq_true rfl) rfl ?_
  refine q_iload B dX7_thing_16 rfl ?_
  refine q_if_eq (tgt := 24) B dX7_thing_18 (by decide) (fun _ => ?_) (fun h => absurd hr h)
  refine q_aload_n B dX7_thing_24 rfl rfl ?_
  refine q_rtV B (s_records hm hu hu4) kv_yX7_records ki_yX7_records ks_yX7_records km_X7_102 rfl (ci := 7) rfl rfl hm.1 (by decide) rfl (Nat.le_of_ble_eq_true rfl) dX7_thing_25 ?_
  refine q_aload_n B dX7_thing_28 rfl rfl ?_
  refine q_iload_n B dX7_thing_29 rfl rfl ?_
  refine q_iload_n B dX7_thing_30 rfl rfl ?_
  refine q_iload_n B dX7_thing_31 rfl rfl ?_
  refine q_iload B dX7_thing_32 rfl ?_
  refine q_rtV B (s_comes hm hW hlt) kv_yX7_comes ki_yX7_comes ks_yX7_comes km_X7_105 rfl (ci := 7) rfl rfl hm.1 (by decide) rfl (Nat.le_of_ble_eq_true rfl) dX7_thing_34 ?_
  exact q_iret BM rfl dX7_thing_37 ⟨rfl, rfl, rfl⟩
set_option maxRecDepth 100000 in
set_option maxHeartbeats 4000000 in
theorem s_fixer_no {Sh : q_Sh} {I : q_Mem} {σ : a_A} {o : Nat} (hm : mOk Sh o) {T F : Nat} (hW : a_W T F σ) (h0 : I o 0 = nI 0) {k c : Int32} (hr : ¬ a_refF σ k c = 0) : q_Rt mX7_fixer 2 [.ref o, .int k, .int c] Sh (q_setA I (o + 1) σ) (some (.int (a_refF σ k c))) (q_setA I (o + 1) σ) := by
  refine q_rt_of (by decide) (Nat.le_of_ble_eq_true rfl) fun Γ BM => ?_
  have B := BM.1
  show q_W Γ mX7_fixer 0 0 Sh (q_setA I (o + 1) σ) 0 [(0, .ref o), (1, .int k), (2, .int c)] []
  refine q_aload_n B dX7_fixer_0 rfl rfl ?_
  refine q_iconst (v := nI 0) B dX7_fixer_1 rfl ?_
  refine q_putSame B kC_X7 (k := 0) (by decide) rfl kf_X7_32 rfl rfl rfl hm.1 ((congrFun (q_setA_ne (by omega)) _).trans h0) dX7_fixer_2 ?_
  refine q_aload_n B dX7_fixer_5 rfl rfl ?_
  refine q_iload_n B dX7_fixer_6 rfl rfl ?_
  refine q_iload_n B dX7_fixer_7 rfl rfl ?_
  refine q_rtV B (s_refusesFixer hm) kv_yX7_refusesFixer ki_yX7_refusesFixer ks_yX7_refusesFixer km_X7_108 rfl (ci := 7) rfl rfl hm.1 (by decide) rfl (Nat.le_of_ble_eq_true rfl) dX7_fixer_8 ?_
  refine q_istore_n B dX7_fixer_11 rfl (Nat.le_of_ble_eq_true rfl) rfl ?_
  refine q_iload_n B dX7_fixer_12 rfl rfl ?_
  refine q_if_eq (tgt := 18) B dX7_fixer_13 (by decide) (fun h => absurd h hr) (fun _ => ?_)
  refine q_iload_n B dX7_fixer_16 rfl rfl ?_
  exact q_iret BM rfl dX7_fixer_17 ⟨rfl, rfl, rfl⟩
set_option maxRecDepth 100000 in
set_option maxHeartbeats 4000000 in
theorem s_fixer_yes {Sh : q_Sh} {I : q_Mem} {σ : a_A} {o : Nat} (hm : mOk Sh o) {T F : Nat} (hW : a_W T F σ) (h0 : I o 0 = nI 0) {u : Nat} (hu : u ≤ 6) (hu4 : I o 4 = nI u) {k c : Int32} (hr : a_refF σ k c = 0) : q_Rt mX7_fixer 2 [.ref o, .int k, .int c] Sh (q_setA I (o + 1) σ) (some (.int (nI F))) (q_setA (a_rec I o σ) (o + 1) (a_comesF σ k c)) := by
  refine q_rt_of (by decide) (Nat.le_of_ble_eq_true rfl) fun Γ BM => ?_
  have B := BM.1
  have hlt := (a_refF_0 hW hr).1
  show q_W Γ mX7_fixer 0 0 Sh (q_setA I (o + 1) σ) 0 [(0, .ref o), (1, .int k), (2, .int c)] []
  refine q_aload_n B dX7_fixer_0 rfl rfl ?_
  refine q_iconst (v := nI 0) B dX7_fixer_1 rfl ?_
  refine q_putSame B kC_X7 (k := 0) (by decide) rfl kf_X7_32 rfl rfl rfl hm.1 ((congrFun (q_setA_ne (by omega)) _).trans h0) dX7_fixer_2 ?_
  refine q_aload_n B dX7_fixer_5 rfl rfl ?_
  refine q_iload_n B dX7_fixer_6 rfl rfl ?_
  refine q_iload_n B dX7_fixer_7 rfl rfl ?_
  refine q_rtV B (s_refusesFixer hm) kv_yX7_refusesFixer ki_yX7_refusesFixer ks_yX7_refusesFixer km_X7_108 rfl (ci := 7) rfl rfl hm.1 (by decide) rfl (Nat.le_of_ble_eq_true rfl) dX7_fixer_8 ?_
  refine q_istore_n B dX7_fixer_11 rfl (Nat.le_of_ble_eq_true rfl) rfl ?_
  refine q_iload_n B dX7_fixer_12 rfl rfl ?_
  refine q_if_eq (tgt := 18) B dX7_fixer_13 (by decide) (fun _ => ?_) (fun h => absurd hr h)
  refine q_aload_n B dX7_fixer_18 rfl rfl ?_
  refine q_rtV B (s_records hm hu hu4) kv_yX7_records ki_yX7_records ks_yX7_records km_X7_102 rfl (ci := 7) rfl rfl hm.1 (by decide) rfl (Nat.le_of_ble_eq_true rfl) dX7_fixer_19 ?_
  refine q_aload_n B dX7_fixer_22 rfl rfl ?_
  refine q_iload_n B dX7_fixer_23 rfl rfl ?_
  refine q_iload_n B dX7_fixer_24 rfl rfl ?_
  refine q_rtV B (s_comesFixer hm hW hlt) kv_yX7_comesFixer ki_yX7_comesFixer ks_yX7_comesFixer km_X7_111 rfl (ci := 7) rfl rfl hm.1 (by decide) rfl (Nat.le_of_ble_eq_true rfl) dX7_fixer_25 ?_
  exact q_iret BM rfl dX7_fixer_28 ⟨rfl, rfl, rfl⟩
set_option maxRecDepth 100000 in
set_option maxHeartbeats 4000000 in
theorem s_drawer_no {Sh : q_Sh} {I : q_Mem} {σ : a_A} {o : Nat} (hm : mOk Sh o) {T F : Nat} (hW : a_W T F σ) (h0 : I o 0 = nI 0) {p m : Int32} (hr : ¬ a_refD p m = 0) : q_Rt mX7_drawer 2 [.ref o, .int p, .int m] Sh (q_setA I (o + 1) σ) (some (.int (a_refD p m))) (q_setA I (o + 1) σ) := by
  refine q_rt_of (by decide) (Nat.le_of_ble_eq_true rfl) fun Γ BM => ?_
  have B := BM.1
  show q_W Γ mX7_drawer 0 0 Sh (q_setA I (o + 1) σ) 0 [(0, .ref o), (1, .int p), (2, .int m)] []
  refine q_aload_n B dX7_drawer_0 rfl rfl ?_
  refine q_iconst (v := nI 0) B dX7_drawer_1 rfl ?_
  refine q_putSame B kC_X7 (k := 0) (by decide) rfl kf_X7_32 rfl rfl rfl hm.1 ((congrFun (q_setA_ne (by omega)) _).trans h0) dX7_drawer_2 ?_
  refine q_iload_n B dX7_drawer_5 rfl rfl ?_
  refine q_iload_n B dX7_drawer_6 rfl rfl ?_
  refine q_rtS B s_refusesDrawer kv_yX7_refusesDrawer kt_yX7_refusesDrawer km_X7_114 rfl (by decide) rfl (Nat.le_of_ble_eq_true rfl) dX7_drawer_7 ?_
  refine q_istore_n B dX7_drawer_10 rfl (Nat.le_of_ble_eq_true rfl) rfl ?_
  refine q_iload_n B dX7_drawer_11 rfl rfl ?_
  refine q_if_eq (tgt := 17) B dX7_drawer_12 (by decide) (fun h => absurd h hr) (fun _ => ?_)
  refine q_iload_n B dX7_drawer_15 rfl rfl ?_
  exact q_iret BM rfl dX7_drawer_16 ⟨rfl, rfl, rfl⟩
set_option maxRecDepth 100000 in
set_option maxHeartbeats 4000000 in
theorem s_drawer_yes {Sh : q_Sh} {I : q_Mem} {σ : a_A} {o : Nat} (hm : mOk Sh o) {T F : Nat} (hW : a_W T F σ) (h0 : I o 0 = nI 0) {u : Nat} (hu : u ≤ 6) (hu4 : I o 4 = nI u) {m : Int32} {j : Nat} (hj : j < 8) (hr : a_refD (nI j) m = 0) : q_Rt mX7_drawer 2 [.ref o, .int (nI j), .int m] Sh (q_setA I (o + 1) σ) (some (.int (σ (3 + j)))) (q_setA (a_rec I o σ) (o + 1) (upd σ (3 + j) m)) := by
  refine q_rt_of (by decide) (Nat.le_of_ble_eq_true rfl) fun Γ BM => ?_
  have B := BM.1
  show q_W Γ mX7_drawer 0 0 Sh (q_setA I (o + 1) σ) 0 [(0, .ref o), (1, .int (nI j)), (2, .int m)] []
  refine q_aload_n B dX7_drawer_0 rfl rfl ?_
  refine q_iconst (v := nI 0) B dX7_drawer_1 rfl ?_
  refine q_putSame B kC_X7 (k := 0) (by decide) rfl kf_X7_32 rfl rfl rfl hm.1 ((congrFun (q_setA_ne (by omega)) _).trans h0) dX7_drawer_2 ?_
  refine q_iload_n B dX7_drawer_5 rfl rfl ?_
  refine q_iload_n B dX7_drawer_6 rfl rfl ?_
  refine q_rtS B s_refusesDrawer kv_yX7_refusesDrawer kt_yX7_refusesDrawer km_X7_114 rfl (by decide) rfl (Nat.le_of_ble_eq_true rfl) dX7_drawer_7 ?_
  refine q_istore_n B dX7_drawer_10 rfl (Nat.le_of_ble_eq_true rfl) rfl ?_
  refine q_iload_n B dX7_drawer_11 rfl rfl ?_
  refine q_if_eq (tgt := 17) B dX7_drawer_12 (by decide) (fun _ => ?_) (fun h => absurd hr h)
  refine q_aload_n B dX7_drawer_17 rfl rfl ?_
  refine q_rtV B (s_records hm hu hu4) kv_yX7_records ki_yX7_records ks_yX7_records km_X7_102 rfl (ci := 7) rfl rfl hm.1 (by decide) rfl (Nat.le_of_ble_eq_true rfl) dX7_drawer_18 ?_
  refine q_aload_n B dX7_drawer_21 rfl rfl ?_
  refine q_getR B kC_X7 (k := 1) (by decide) rfl kf_X7_7 hm.1 (mR_s hm) dX7_drawer_22 ?_
  refine q_iconst (v := nI 3) B dX7_drawer_25 rfl ?_
  refine q_iload_n B dX7_drawer_26 rfl rfl ?_
  refine q_iadd B dX7_drawer_27 ?_
  refine q_ialdS (n := 3 + j) B (mA_s hm) (by simp only [nI_add, q_nI_mul]) (by omega) (by decide) dX7_drawer_28 ?_
  refine q_istore B dX7_drawer_29 (Nat.le_of_ble_eq_true rfl) rfl ?_
  refine q_aload_n B dX7_drawer_31 rfl rfl ?_
  refine q_getR B kC_X7 (k := 1) (by decide) rfl kf_X7_7 hm.1 (mR_s hm) dX7_drawer_32 ?_
  refine q_iconst (v := nI 3) B dX7_drawer_35 rfl ?_
  refine q_iload_n B dX7_drawer_36 rfl rfl ?_
  refine q_iadd B dX7_drawer_37 ?_
  refine q_iload_n B dX7_drawer_38 rfl rfl ?_
  refine q_iastS (n := 3 + j) B (mA_s hm) (by simp only [nI_add, q_nI_mul]) (by omega) (by decide) dX7_drawer_39 ?_
  refine q_iload B dX7_drawer_40 rfl ?_
  exact q_iret BM rfl dX7_drawer_42 ⟨rfl, rfl, rfl⟩
set_option maxRecDepth 100000 in
set_option maxHeartbeats 4000000 in
theorem s_giveUp_no1 {Sh : q_Sh} {I : q_Mem} {σ : a_A} {o : Nat} (hm : mOk Sh o) {T F : Nat} (hW : a_W T F σ) (h0 : I o 0 = nI 0) {t : Int32} (hr : ¬ (nI 0 ≤ t ∧ t < nI T)) : q_Rt mX7_giveUp 2 [.ref o, .int t] Sh (q_setA I (o + 1) σ) (some (.int (-1))) (q_setA I (o + 1) σ) := by
  refine q_rt_of (by decide) (Nat.le_of_ble_eq_true rfl) fun Γ BM => ?_
  have B := BM.1
  show q_W Γ mX7_giveUp 0 0 Sh (q_setA I (o + 1) σ) 0 [(0, .ref o), (1, .int t)] []
  refine q_aload_n B dX7_giveUp_0 rfl rfl ?_
  refine q_iconst (v := nI 0) B dX7_giveUp_1 rfl ?_
  refine q_putSame B kC_X7 (k := 0) (by decide) rfl kf_X7_32 rfl rfl rfl hm.1 ((congrFun (q_setA_ne (by omega)) _).trans h0) dX7_giveUp_2 ?_
  refine q_aload_n B dX7_giveUp_5 rfl rfl ?_
  refine q_iload_n B dX7_giveUp_6 rfl rfl ?_
  refine q_rtV B (s_isThing hm hW) kv_yX7_isThing ki_yX7_isThing ks_yX7_isThing km_X7_117 rfl (ci := 7) rfl rfl hm.1 (by decide) rfl (Nat.le_of_ble_eq_true rfl) dX7_giveUp_7 ?_
  refine q_if_ne (tgt := 15) B dX7_giveUp_10 (by decide) (fun h => absurd ((if_neg (by rw [hW.1.1]; exact fun q => hr ((a_isT_iff hW.1.2).mp q)))) h) (fun _ => ?_)
  refine q_iconst (v := -1) B dX7_giveUp_13 rfl ?_
  exact q_iret BM rfl dX7_giveUp_14 ⟨rfl, rfl, rfl⟩
set_option maxRecDepth 100000 in
set_option maxHeartbeats 4000000 in
theorem s_giveUp_no2 {Sh : q_Sh} {I : q_Mem} {σ : a_A} {o : Nat} (hm : mOk Sh o) {T F : Nat} (hW : a_W T F σ) (h0 : I o 0 = nI 0) {j : Nat} (hj : j < T) (hh : ¬ σ (57 + 7 * j + 4) = 0) : q_Rt mX7_giveUp 2 [.ref o, .int (nI j)] Sh (q_setA I (o + 1) σ) (some (.int (-5))) (q_setA I (o + 1) σ) := by
  refine q_rt_of (by decide) (Nat.le_of_ble_eq_true rfl) fun Γ BM => ?_
  have B := BM.1
  have hr : nI 0 ≤ nI j ∧ nI j < nI T := ⟨(nI_leI (by omega) (by have := hW.1.2; omega)).mpr (Nat.zero_le j), (nI_ltI (by have := hW.1.2; omega) (by have := hW.1.2; omega)).mpr hj⟩
  have hT2 := hW.1.2
  show q_W Γ mX7_giveUp 0 0 Sh (q_setA I (o + 1) σ) 0 [(0, .ref o), (1, .int (nI j))] []
  refine q_aload_n B dX7_giveUp_0 rfl rfl ?_
  refine q_iconst (v := nI 0) B dX7_giveUp_1 rfl ?_
  refine q_putSame B kC_X7 (k := 0) (by decide) rfl kf_X7_32 rfl rfl rfl hm.1 ((congrFun (q_setA_ne (by omega)) _).trans h0) dX7_giveUp_2 ?_
  refine q_aload_n B dX7_giveUp_5 rfl rfl ?_
  refine q_iload_n B dX7_giveUp_6 rfl rfl ?_
  refine q_rtV B (s_isThing hm hW) kv_yX7_isThing ki_yX7_isThing ks_yX7_isThing km_X7_117 rfl (ci := 7) rfl rfl hm.1 (by decide) rfl (Nat.le_of_ble_eq_true rfl) dX7_giveUp_7 ?_
  refine q_if_ne (tgt := 15) B dX7_giveUp_10 (by decide) (fun _ => ?_) (fun h => absurd h ((by rw [if_pos (by rw [hW.1.1]; exact (a_isT_iff hW.1.2).mpr hr)]; decide)))
  refine q_aload_n B dX7_giveUp_15 rfl rfl ?_
  refine q_iload_n B dX7_giveUp_16 rfl rfl ?_
  refine q_iconst (v := nI 4) B dX7_giveUp_17 rfl ?_
  refine q_rtV B (s_of hm (by omega) (by decide)) kv_yX7_of ki_yX7_of ks_yX7_of km_X7_39 rfl (ci := 7) rfl rfl hm.1 (by decide) rfl (Nat.le_of_ble_eq_true rfl) dX7_giveUp_18 ?_
  refine q_if_eq (tgt := 27) B dX7_giveUp_21 (by decide) (fun h => absurd h hh) (fun _ => ?_)
  refine q_bipush (v := -5) B dX7_giveUp_24 rfl ?_
  exact q_iret BM rfl dX7_giveUp_26 ⟨rfl, rfl, rfl⟩
set_option maxRecDepth 100000 in
set_option maxHeartbeats 4000000 in
theorem s_giveUp_yes {Sh : q_Sh} {I : q_Mem} {σ : a_A} {o : Nat} (hm : mOk Sh o) {T F : Nat} (hW : a_W T F σ) (h0 : I o 0 = nI 0) {u : Nat} (hu : u ≤ 6) (hu4 : I o 4 = nI u) {j : Nat} (hj : j < T) (hh : σ (57 + 7 * j + 4) = 0) : q_Rt mX7_giveUp 2 [.ref o, .int (nI j)] Sh (q_setA I (o + 1) σ) (some (.int (a_strips σ j).2)) (q_setA (a_rec I o σ) (o + 1) (a_strips σ j).1) := by
  refine q_rt_of (by decide) (Nat.le_of_ble_eq_true rfl) fun Γ BM => ?_
  have B := BM.1
  have hr : nI 0 ≤ nI j ∧ nI j < nI T := ⟨(nI_leI (by omega) (by have := hW.1.2; omega)).mpr (Nat.zero_le j), (nI_ltI (by have := hW.1.2; omega) (by have := hW.1.2; omega)).mpr hj⟩
  have hT2 := hW.1.2
  obtain ⟨k, hk, ek⟩ := hW.2.2.1 j hj
  show q_W Γ mX7_giveUp 0 0 Sh (q_setA I (o + 1) σ) 0 [(0, .ref o), (1, .int (nI j))] []
  refine q_aload_n B dX7_giveUp_0 rfl rfl ?_
  refine q_iconst (v := nI 0) B dX7_giveUp_1 rfl ?_
  refine q_putSame B kC_X7 (k := 0) (by decide) rfl kf_X7_32 rfl rfl rfl hm.1 ((congrFun (q_setA_ne (by omega)) _).trans h0) dX7_giveUp_2 ?_
  refine q_aload_n B dX7_giveUp_5 rfl rfl ?_
  refine q_iload_n B dX7_giveUp_6 rfl rfl ?_
  refine q_rtV B (s_isThing hm hW) kv_yX7_isThing ki_yX7_isThing ks_yX7_isThing km_X7_117 rfl (ci := 7) rfl rfl hm.1 (by decide) rfl (Nat.le_of_ble_eq_true rfl) dX7_giveUp_7 ?_
  refine q_if_ne (tgt := 15) B dX7_giveUp_10 (by decide) (fun _ => ?_) (fun h => absurd h ((by rw [if_pos (by rw [hW.1.1]; exact (a_isT_iff hW.1.2).mpr hr)]; decide)))
  refine q_aload_n B dX7_giveUp_15 rfl rfl ?_
  refine q_iload_n B dX7_giveUp_16 rfl rfl ?_
  refine q_iconst (v := nI 4) B dX7_giveUp_17 rfl ?_
  refine q_rtV B (s_of hm (by omega) (by decide)) kv_yX7_of ki_yX7_of ks_yX7_of km_X7_39 rfl (ci := 7) rfl rfl hm.1 (by decide) rfl (Nat.le_of_ble_eq_true rfl) dX7_giveUp_18 ?_
  refine q_if_eq (tgt := 27) B dX7_giveUp_21 (by decide) (fun _ => ?_) (fun h => absurd hh h)
  refine q_aload_n B dX7_giveUp_27 rfl rfl ?_
  refine q_rtV B (s_records hm hu hu4) kv_yX7_records ki_yX7_records ks_yX7_records km_X7_102 rfl (ci := 7) rfl rfl hm.1 (by decide) rfl (Nat.le_of_ble_eq_true rfl) dX7_giveUp_28 ?_
  refine q_aload_n B dX7_giveUp_31 rfl rfl ?_
  refine q_iload_n B dX7_giveUp_32 rfl rfl ?_
  refine q_rtV B (s_strips hm (by omega) hk ek) kv_yX7_strips ki_yX7_strips ks_yX7_strips km_X7_54 rfl (ci := 7) rfl rfl hm.1 (by decide) rfl (Nat.le_of_ble_eq_true rfl) dX7_giveUp_33 ?_
  exact q_iret BM rfl dX7_giveUp_36 ⟨rfl, rfl, rfl⟩
set_option maxRecDepth 100000 in
set_option maxHeartbeats 4000000 in
theorem s_pass_no {Sh : q_Sh} {I : q_Mem} {σ : a_A} {o : Nat} (hm : mOk Sh o) {T F : Nat} (hW : a_W T F σ) (h0 : I o 0 = nI 0) {m : Int32} (hr : ¬ a_refP σ m = 0) : q_Rt mX7_pass 6 [.ref o, .int m] Sh (q_setA I (o + 1) σ) (some (.int (a_refP σ m))) (q_setA I (o + 1) σ) := by
  refine q_rt_of (by decide) (Nat.le_of_ble_eq_true rfl) fun Γ BM => ?_
  have B := BM.1
  show q_W Γ mX7_pass 0 0 Sh (q_setA I (o + 1) σ) 0 [(0, .ref o), (1, .int m)] []
  refine q_aload_n B dX7_pass_0 rfl rfl ?_
  refine q_iconst (v := nI 0) B dX7_pass_1 rfl ?_
  refine q_putSame B kC_X7 (k := 0) (by decide) rfl kf_X7_32 rfl rfl rfl hm.1 ((congrFun (q_setA_ne (by omega)) _).trans h0) dX7_pass_2 ?_
  refine q_aload_n B dX7_pass_5 rfl rfl ?_
  refine q_iload_n B dX7_pass_6 rfl rfl ?_
  refine q_rtV B (s_refusesPass hm) kv_yX7_refusesPass ki_yX7_refusesPass ks_yX7_refusesPass km_X7_120 rfl (ci := 7) rfl rfl hm.1 (by decide) rfl (Nat.le_of_ble_eq_true rfl) dX7_pass_7 ?_
  refine q_istore_n B dX7_pass_10 rfl (Nat.le_of_ble_eq_true rfl) rfl ?_
  refine q_iload_n B dX7_pass_11 rfl rfl ?_
  refine q_if_eq (tgt := 17) B dX7_pass_12 (by decide) (fun h => absurd h hr) (fun _ => ?_)
  refine q_iload_n B dX7_pass_15 rfl rfl ?_
  exact q_iret BM rfl dX7_pass_16 ⟨rfl, rfl, rfl⟩
set_option maxRecDepth 100000 in
set_option maxHeartbeats 4000000 in
theorem s_pass_yes {Sh : q_Sh} {I : q_Mem} {σ : a_A} {o : Nat} (hm : mOk Sh o) {T F : Nat} (hW : a_W T F σ) (h0 : I o 0 = nI 0) {u : Nat} (hu : u ≤ 6) (hu4 : I o 4 = nI u) {k : Nat} (hk : k < 2 ^ 31) (hr : a_refP σ (nI k) = 0) : q_Rt mX7_pass 6 [.ref o, .int (nI k)] Sh (q_setA I (o + 1) σ) (some (.int (a_how (a_minutes k σ) (nI 2) - a_how σ (nI 2)))) (q_setA (a_rec I o σ) (o + 1) (a_minutes k σ)) := by
  refine q_rt_of (by decide) (Nat.le_of_ble_eq_true rfl) fun Γ BM => ?_
  have B := BM.1
  show q_W Γ mX7_pass 0 0 Sh (q_setA I (o + 1) σ) 0 [(0, .ref o), (1, .int (nI k))] []
  refine q_aload_n B dX7_pass_0 rfl rfl ?_
  refine q_iconst (v := nI 0) B dX7_pass_1 rfl ?_
  refine q_putSame B kC_X7 (k := 0) (by decide) rfl kf_X7_32 rfl rfl rfl hm.1 ((congrFun (q_setA_ne (by omega)) _).trans h0) dX7_pass_2 ?_
  refine q_aload_n B dX7_pass_5 rfl rfl ?_
  refine q_iload_n B dX7_pass_6 rfl rfl ?_
  refine q_rtV B (s_refusesPass hm) kv_yX7_refusesPass ki_yX7_refusesPass ks_yX7_refusesPass km_X7_120 rfl (ci := 7) rfl rfl hm.1 (by decide) rfl (Nat.le_of_ble_eq_true rfl) dX7_pass_7 ?_
  refine q_istore_n B dX7_pass_10 rfl (Nat.le_of_ble_eq_true rfl) rfl ?_
  refine q_iload_n B dX7_pass_11 rfl rfl ?_
  refine q_if_eq (tgt := 17) B dX7_pass_12 (by decide) (fun _ => ?_) (fun h => absurd hr h)
  refine q_aload_n B dX7_pass_17 rfl rfl ?_
  refine q_rtV B (s_records hm hu hu4) kv_yX7_records ki_yX7_records ks_yX7_records km_X7_102 rfl (ci := 7) rfl rfl hm.1 (by decide) rfl (Nat.le_of_ble_eq_true rfl) dX7_pass_18 ?_
  refine q_aload_n B dX7_pass_21 rfl rfl ?_
  refine q_iload_n B dX7_pass_22 rfl rfl ?_
  refine q_rtV B (s_minutes hm hW hk) kv_yX7_minutes ki_yX7_minutes ks_yX7_minutes km_X7_123 rfl (ci := 7) rfl rfl hm.1 (by decide) rfl (Nat.le_of_ble_eq_true rfl) dX7_pass_23 ?_
  exact q_iret BM rfl dX7_pass_26 ⟨rfl, rfl, rfl⟩
set_option maxRecDepth 100000 in
set_option maxHeartbeats 4000000 in
theorem s_undo_no {Sh : q_Sh} {I : q_Mem} {σ : a_A} {o : Nat} (hm : mOk Sh o) {T F : Nat} (hW : a_W T F σ) (h0 : I o 0 = nI 0) (hz : I o 4 = nI 0) : q_Rt mX7_undo 0 [.ref o] Sh (q_setA I (o + 1) σ) (some (.int (-5))) (q_setA I (o + 1) σ) := by
  refine q_rt_of (by decide) (Nat.le_of_ble_eq_true rfl) fun Γ BM => ?_
  have B := BM.1
  show q_W Γ mX7_undo 0 0 Sh (q_setA I (o + 1) σ) 0 [(0, .ref o)] []
  refine q_aload_n B dX7_undo_0 rfl rfl ?_
  refine q_iconst (v := nI 0) B dX7_undo_1 rfl ?_
  refine q_putSame B kC_X7 (k := 0) (by decide) rfl kf_X7_32 rfl rfl rfl hm.1 ((congrFun (q_setA_ne (by omega)) _).trans h0) dX7_undo_2 ?_
  refine q_aload_n B dX7_undo_5 rfl rfl ?_
  refine q_getIS B (by omega) kC_X7 (k := 4) (by decide) rfl kf_X7_36 hm.1 dX7_undo_6 ?_
  refine q_if_ne (tgt := 15) B dX7_undo_9 (by decide) (fun h => absurd hz h) (fun _ => ?_)
  refine q_bipush (v := -5) B dX7_undo_12 rfl ?_
  exact q_iret BM rfl dX7_undo_14 ⟨rfl, rfl, rfl⟩
set_option maxRecDepth 100000 in
set_option maxHeartbeats 4000000 in
theorem s_undo_yes {Sh : q_Sh} {I : q_Mem} {σ : a_A} {o : Nat} (hm : mOk Sh o) {T F : Nat} (hW : a_W T F σ) (h0 : I o 0 = nI 0) {v : Nat} (hv : v < 6) (hz : I o 4 = nI (v + 1)) : q_Rt mX7_undo 0 [.ref o] Sh (q_setA I (o + 1) σ) (some (.int (nI v))) (q_setA (q_setA I o (upd (I o) 4 (nI v))) (o + 1) (fun k => I (o + 3) (267 * v + k))) := by
  refine q_rt_of (by decide) (Nat.le_of_ble_eq_true rfl) fun Γ BM => ?_
  have B := BM.1
  show q_W Γ mX7_undo 0 0 Sh (q_setA I (o + 1) σ) 0 [(0, .ref o)] []
  refine q_aload_n B dX7_undo_0 rfl rfl ?_
  refine q_iconst (v := nI 0) B dX7_undo_1 rfl ?_
  refine q_putSame B kC_X7 (k := 0) (by decide) rfl kf_X7_32 rfl rfl rfl hm.1 ((congrFun (q_setA_ne (by omega)) _).trans h0) dX7_undo_2 ?_
  refine q_aload_n B dX7_undo_5 rfl rfl ?_
  refine q_getIS B (by omega) kC_X7 (k := 4) (by decide) rfl kf_X7_36 hm.1 dX7_undo_6 ?_
  refine q_if_ne (tgt := 15) B dX7_undo_9 (by decide) (fun _ => ?_) (fun h => absurd h ((by rw [hz]; exact nI_ne0 (by omega) (by omega))))
  refine q_aload_n B dX7_undo_15 rfl rfl ?_
  refine q_dup B dX7_undo_16 rfl ?_
  refine q_getIS B (by omega) kC_X7 (k := 4) (by decide) rfl kf_X7_36 hm.1 dX7_undo_17 ?_
  refine q_top hz ?_
  refine q_iconst (v := nI 1) B dX7_undo_20 rfl ?_
  refine q_isub B dX7_undo_21 ?_
  refine q_top (q_nI_sub (Nat.le_add_left 1 v)) ?_
  rw [Nat.add_sub_cancel]
  refine q_putIS B (by omega) kC_X7 (k := 4) (by decide) rfl kf_X7_36 rfl rfl rfl hm.1 dX7_undo_22 ?_
  refine q_iconst (v := nI 0) B dX7_undo_25 rfl ?_
  refine q_istore_n B dX7_undo_26 rfl (Nat.le_of_ble_eq_true rfl) rfl ?_
  have hl_27 : ∀ (n i : Nat) , i + n = 267 → q_W Γ mX7_undo 0 0 Sh (q_setA (q_setA I o (upd (I o) 4 (nI v))) (o + 1) (a_cp i (fun k => I (o + 3) (267 * v + k)) σ)) 27 [(0, .ref o), (1, .int (nI i))] [] := by
    intro n
    induction n with
    | zero =>
      intro i  hin
      have hi : i = 267 := by omega
      subst hi
      refine q_iload_n B dX7_undo_27 rfl rfl ?_
      refine q_sipush (v := nI 267) B dX7_undo_28 rfl ?_
      refine q_icmp_ge (tgt := 61) B dX7_undo_31 (by decide) (fun _ => ?_) (fun h => absurd (q_le (Nat.le_refl 267) (by decide)) h)
      refine q_norm (mA_s hm) (by decide) (g := fun k => I (o + 3) (267 * v + k)) (fun j hj => a_cp_at (by omega)) ?_
      refine q_aload_n B dX7_undo_61 rfl rfl ?_
      refine q_getIS B (by omega) kC_X7 (k := 4) (by decide) rfl kf_X7_36 hm.1 dX7_undo_62 ?_
      refine q_top (y := nI v) ((congrFun (q_setA_at _ _ _) _).trans (q_upd_at _ _ _)) ?_
      exact q_iret BM rfl dX7_undo_65 ⟨rfl, rfl, rfl⟩
    | succ n ih =>
      intro i  hin
      have hiN : i < 267 := by omega
      refine q_iload_n B dX7_undo_27 rfl rfl ?_
      refine q_sipush (v := nI 267) B dX7_undo_28 rfl ?_
      refine q_icmp_ge (tgt := 61) B dX7_undo_31 (by decide) (fun h => absurd h (q_nle hiN (by decide))) (fun _ => ?_)
      refine q_aload_n B dX7_undo_34 rfl rfl ?_
      refine q_getR B kC_X7 (k := 1) (by decide) rfl kf_X7_7 hm.1 (mR_s hm) dX7_undo_35 ?_
      refine q_iload_n B dX7_undo_38 rfl rfl ?_
      refine q_aload_n B dX7_undo_39 rfl rfl ?_
      refine q_getR B kC_X7 (k := 3) (by decide) rfl kf_X7_16 hm.1 (mR_undos hm) dX7_undo_40 ?_
      refine q_sipush (v := nI 267) B dX7_undo_43 rfl ?_
      refine q_aload_n B dX7_undo_46 rfl rfl ?_
      refine q_getIS B (by omega) kC_X7 (k := 4) (by decide) rfl kf_X7_36 hm.1 dX7_undo_47 ?_
      refine q_top (y := nI v) ((congrFun (q_setA_at _ _ _) _).trans (q_upd_at _ _ _)) ?_
      refine q_imul B dX7_undo_50 ?_
      refine q_iload_n B dX7_undo_51 rfl rfl ?_
      refine q_iadd B dX7_undo_52 ?_
      refine q_ialdO (n := 267 * v + i) B (by omega) (mA_undos hm) (by simp only [nI_add, q_nI_mul]) (by omega) (by decide) dX7_undo_53 ?_
      refine q_top (y := I (o + 3) (267 * v + i)) (by rw [q_setA_ne (by omega)]) ?_
      refine q_iastS (n := i) B (mA_s hm) rfl (by omega) (by decide) dX7_undo_54 ?_
      refine q_iinc2 (y := nI (i + 1)) B dX7_undo_55 rfl (q_inc1 _) (Nat.le_of_ble_eq_true rfl) rfl ?_
      refine q_goto (tgt := 27) B dX7_undo_58 (by decide) ?_
      exact q_tkm (ih (i + 1) (by omega)) (by rw [show I (o + 3) (267 * v + i) = (fun k => I (o + 3) (267 * v + k)) i from rfl, a_cp_s]) rfl (q_ac rfl (q_ac rfl q_an))
  exact q_tkm (hl_27 267 0 (by omega)) (by rw [a_cp_0]) rfl (q_ac rfl (q_ac rfl q_an))
end
section
set_option maxRecDepth 100000 in
set_option maxHeartbeats 4000000 in
theorem s_save_no {Sh : q_Sh} {I : q_Mem} {σ : a_A} {o : Nat} (hm : mOk Sh o) {T F : Nat} (hW : a_W T F σ) (h0 : I o 0 = nI 0) {t : Int32} (hr : ¬ (nI 0 ≤ t ∧ t ≤ nI 1)) : q_Rt mX7_save 1 [.ref o, .int t] Sh (q_setA I (o + 1) σ) (some (.int (-2))) (q_setA I (o + 1) σ) := by
  refine q_rt_of (by decide) (Nat.le_of_ble_eq_true rfl) fun Γ BM => ?_
  have B := BM.1
  show q_W Γ mX7_save 0 0 Sh (q_setA I (o + 1) σ) 0 [(0, .ref o), (1, .int t)] []
  refine q_aload_n B dX7_save_0 rfl rfl ?_
  refine q_iconst (v := nI 0) B dX7_save_1 rfl ?_
  refine q_putSame B kC_X7 (k := 0) (by decide) rfl kf_X7_32 rfl rfl rfl hm.1 ((congrFun (q_setA_ne (by omega)) _).trans h0) dX7_save_2 ?_
  refine q_iload_n B dX7_save_5 rfl rfl ?_
  refine q_iconst (v := nI 0) B dX7_save_6 rfl ?_
  refine q_iconst (v := nI 1) B dX7_save_7 rfl ?_
  refine q_rtS B s_in kv_yX7_in kt_yX7_in km_X7_94 rfl (by decide) rfl (Nat.le_of_ble_eq_true rfl) dX7_save_8 ?_
  refine q_if_ne (tgt := 17) B dX7_save_11 (by decide) (fun h => absurd ((if_neg hr)) h) (fun _ => ?_)
  refine q_bipush (v := -2) B dX7_save_14 rfl ?_
  exact q_iret BM rfl dX7_save_16 ⟨rfl, rfl, rfl⟩
set_option maxRecDepth 100000 in
set_option maxHeartbeats 4000000 in
theorem s_save_yes {Sh : q_Sh} {I : q_Mem} {σ : a_A} {o : Nat} (hm : mOk Sh o) {T F : Nat} (hW : a_W T F σ) (h0 : I o 0 = nI 0) {c : Nat} (hc : c < 2) : q_Rt mX7_save 1 [.ref o, .int (nI c)] Sh (q_setA I (o + 1) σ) (some (.int (nI T))) (q_setA (q_setA (q_setA I (o + 4) (a_recS (I (o + 4)) σ c)) (o + 5) (upd (I (o + 5)) c 1)) (o + 1) σ) := by
  refine q_rt_of (by decide) (Nat.le_of_ble_eq_true rfl) fun Γ BM => ?_
  have B := BM.1
  have hr : nI 0 ≤ nI c ∧ nI c ≤ nI 1 := ⟨(nI_leI (by omega) (by omega)).mpr (Nat.zero_le c), (nI_leI (by omega) (by omega)).mpr (by omega)⟩
  have hT := hW.1.1
  show q_W Γ mX7_save 0 0 Sh (q_setA I (o + 1) σ) 0 [(0, .ref o), (1, .int (nI c))] []
  refine q_aload_n B dX7_save_0 rfl rfl ?_
  refine q_iconst (v := nI 0) B dX7_save_1 rfl ?_
  refine q_putSame B kC_X7 (k := 0) (by decide) rfl kf_X7_32 rfl rfl rfl hm.1 ((congrFun (q_setA_ne (by omega)) _).trans h0) dX7_save_2 ?_
  refine q_iload_n B dX7_save_5 rfl rfl ?_
  refine q_iconst (v := nI 0) B dX7_save_6 rfl ?_
  refine q_iconst (v := nI 1) B dX7_save_7 rfl ?_
  refine q_rtS B s_in kv_yX7_in kt_yX7_in km_X7_94 rfl (by decide) rfl (Nat.le_of_ble_eq_true rfl) dX7_save_8 ?_
  refine q_if_ne (tgt := 17) B dX7_save_11 (by decide) (fun _ => ?_) (fun h => absurd h ((by rw [if_pos hr]; decide)))
  refine q_iconst (v := nI 0) B dX7_save_17 rfl ?_
  refine q_istore_n B dX7_save_18 rfl (Nat.le_of_ble_eq_true rfl) rfl ?_
  have hl_19 : ∀ (n i : Nat) , i + n = 267 → q_W Γ mX7_save 0 0 Sh (q_setA (q_setA I (o + 4) (a_rs i (I (o + 4)) σ c)) (o + 1) σ) 19 [(0, .ref o), (1, .int (nI c)), (2, .int (nI i))] [] := by
    intro n
    induction n with
    | zero =>
      intro i  hin
      have hi : i = 267 := by omega
      subst hi
      refine q_iload_n B dX7_save_19 rfl rfl ?_
      refine q_sipush (v := nI 267) B dX7_save_20 rfl ?_
      refine q_icmp_ge (tgt := 50) B dX7_save_23 (by decide) (fun _ => ?_) (fun h => absurd (q_le (Nat.le_refl 267) (by decide)) h)
      refine q_aload_n B dX7_save_50 rfl rfl ?_
      refine q_getR B kC_X7 (k := 6) (by decide) rfl kf_X7_22 hm.1 (mR_hasSlot hm) dX7_save_51 ?_
      refine q_iload_n B dX7_save_54 rfl rfl ?_
      refine q_iconst (v := 1) B dX7_save_55 rfl ?_
      refine q_zastO (n := c) B (by omega) (mA_hasSlot hm) rfl (by omega) (by decide) rfl dX7_save_56 ?_
      refine q_aload_n B dX7_save_57 rfl rfl ?_
      refine q_getR B kC_X7 (k := 1) (by decide) rfl kf_X7_7 hm.1 (mR_s hm) dX7_save_58 ?_
      refine q_iconst (v := nI 1) B dX7_save_61 rfl ?_
      refine q_ialdS2 (n := 1) B (mA_s hm) rfl (by omega) (by decide) hT dX7_save_62 ?_
      exact q_iret BM rfl dX7_save_63 ⟨rfl, rfl, by rw [q_setA_ne (l := o + 4) (m := o + 5) (by omega)]; rfl⟩
    | succ n ih =>
      intro i  hin
      have hiN : i < 267 := by omega
      refine q_iload_n B dX7_save_19 rfl rfl ?_
      refine q_sipush (v := nI 267) B dX7_save_20 rfl ?_
      refine q_icmp_ge (tgt := 50) B dX7_save_23 (by decide) (fun h => absurd h (q_nle hiN (by decide))) (fun _ => ?_)
      refine q_aload_n B dX7_save_26 rfl rfl ?_
      refine q_getR B kC_X7 (k := 5) (by decide) rfl kf_X7_19 hm.1 (mR_slots hm) dX7_save_27 ?_
      refine q_sipush (v := nI 267) B dX7_save_30 rfl ?_
      refine q_iload_n B dX7_save_33 rfl rfl ?_
      refine q_imul B dX7_save_34 ?_
      refine q_iload_n B dX7_save_35 rfl rfl ?_
      refine q_iadd B dX7_save_36 ?_
      refine q_aload_n B dX7_save_37 rfl rfl ?_
      refine q_getR B kC_X7 (k := 1) (by decide) rfl kf_X7_7 hm.1 (mR_s hm) dX7_save_38 ?_
      refine q_iload_n B dX7_save_41 rfl rfl ?_
      refine q_ialdS (n := i) B (mA_s hm) rfl (by omega) (by decide) dX7_save_42 ?_
      refine q_iastO (n := 267 * c + i) B (by omega) (mA_slots hm) (by simp only [nI_add, q_nI_mul]) (by omega) (by decide) dX7_save_43 ?_
      refine q_iinc2 (y := nI (i + 1)) B dX7_save_44 rfl (q_inc1 _) (Nat.le_of_ble_eq_true rfl) rfl ?_
      refine q_goto (tgt := 19) B dX7_save_47 (by decide) ?_
      exact q_tkm (ih (i + 1) (by omega)) (by rw [q_setA_at, q_setA_setA, a_rs_s]) rfl (q_ac rfl (q_ac rfl (q_ac rfl q_an)))
  exact q_tkm (hl_19 267 0 (by omega)) (by rw [a_rs_0, q_setA_self]) rfl (q_ac rfl (q_ac rfl (q_ac rfl q_an)))
set_option maxRecDepth 100000 in
set_option maxHeartbeats 4000000 in
theorem s_restore_no1 {Sh : q_Sh} {I : q_Mem} {σ : a_A} {o : Nat} (hm : mOk Sh o) {T F : Nat} (hW : a_W T F σ) (h0 : I o 0 = nI 0) {t : Int32} (hr : ¬ (nI 0 ≤ t ∧ t ≤ nI 1)) : q_Rt mX7_restore 1 [.ref o, .int t] Sh (q_setA I (o + 1) σ) (some (.int (-2))) (q_setA I (o + 1) σ) := by
  refine q_rt_of (by decide) (Nat.le_of_ble_eq_true rfl) fun Γ BM => ?_
  have B := BM.1
  show q_W Γ mX7_restore 0 0 Sh (q_setA I (o + 1) σ) 0 [(0, .ref o), (1, .int t)] []
  refine q_aload_n B dX7_restore_0 rfl rfl ?_
  refine q_iconst (v := nI 0) B dX7_restore_1 rfl ?_
  refine q_putSame B kC_X7 (k := 0) (by decide) rfl kf_X7_32 rfl rfl rfl hm.1 ((congrFun (q_setA_ne (by omega)) _).trans h0) dX7_restore_2 ?_
  refine q_iload_n B dX7_restore_5 rfl rfl ?_
  refine q_iconst (v := nI 0) B dX7_restore_6 rfl ?_
  refine q_iconst (v := nI 1) B dX7_restore_7 rfl ?_
  refine q_rtS B s_in kv_yX7_in kt_yX7_in km_X7_94 rfl (by decide) rfl (Nat.le_of_ble_eq_true rfl) dX7_restore_8 ?_
  refine q_if_ne (tgt := 17) B dX7_restore_11 (by decide) (fun h => absurd ((if_neg hr)) h) (fun _ => ?_)
  refine q_bipush (v := -2) B dX7_restore_14 rfl ?_
  exact q_iret BM rfl dX7_restore_16 ⟨rfl, rfl, rfl⟩
set_option maxRecDepth 100000 in
set_option maxHeartbeats 4000000 in
theorem s_restore_no2 {Sh : q_Sh} {I : q_Mem} {σ : a_A} {o : Nat} (hm : mOk Sh o) {T F : Nat} (hW : a_W T F σ) (h0 : I o 0 = nI 0) {c : Nat} (hc : c < 2) (hz : I (o + 5) c = 0) : q_Rt mX7_restore 1 [.ref o, .int (nI c)] Sh (q_setA I (o + 1) σ) (some (.int (-5))) (q_setA I (o + 1) σ) := by
  refine q_rt_of (by decide) (Nat.le_of_ble_eq_true rfl) fun Γ BM => ?_
  have B := BM.1
  have hr : nI 0 ≤ nI c ∧ nI c ≤ nI 1 := ⟨(nI_leI (by omega) (by omega)).mpr (Nat.zero_le c), (nI_leI (by omega) (by omega)).mpr (by omega)⟩
  show q_W Γ mX7_restore 0 0 Sh (q_setA I (o + 1) σ) 0 [(0, .ref o), (1, .int (nI c))] []
  refine q_aload_n B dX7_restore_0 rfl rfl ?_
  refine q_iconst (v := nI 0) B dX7_restore_1 rfl ?_
  refine q_putSame B kC_X7 (k := 0) (by decide) rfl kf_X7_32 rfl rfl rfl hm.1 ((congrFun (q_setA_ne (by omega)) _).trans h0) dX7_restore_2 ?_
  refine q_iload_n B dX7_restore_5 rfl rfl ?_
  refine q_iconst (v := nI 0) B dX7_restore_6 rfl ?_
  refine q_iconst (v := nI 1) B dX7_restore_7 rfl ?_
  refine q_rtS B s_in kv_yX7_in kt_yX7_in km_X7_94 rfl (by decide) rfl (Nat.le_of_ble_eq_true rfl) dX7_restore_8 ?_
  refine q_if_ne (tgt := 17) B dX7_restore_11 (by decide) (fun _ => ?_) (fun h => absurd h ((by rw [if_pos hr]; decide)))
  refine q_aload_n B dX7_restore_17 rfl rfl ?_
  refine q_getR B kC_X7 (k := 6) (by decide) rfl kf_X7_22 hm.1 (mR_hasSlot hm) dX7_restore_18 ?_
  refine q_iload_n B dX7_restore_21 rfl rfl ?_
  refine q_zaldO (n := c) B (by omega) (mA_hasSlot hm) rfl (by omega) (by decide) dX7_restore_22 ?_
  refine q_if_ne (tgt := 29) B dX7_restore_23 (by decide) (fun h => absurd hz h) (fun _ => ?_)
  refine q_bipush (v := -5) B dX7_restore_26 rfl ?_
  exact q_iret BM rfl dX7_restore_28 ⟨rfl, rfl, rfl⟩
set_option maxRecDepth 100000 in
set_option maxHeartbeats 4000000 in
theorem s_restore_yes {Sh : q_Sh} {I : q_Mem} {σ : a_A} {o : Nat} (hm : mOk Sh o) {T F : Nat} (hW : a_W T F σ) (h0 : I o 0 = nI 0) {u : Nat} (hu : u ≤ 6) (hu4 : I o 4 = nI u) {c : Nat} (hc : c < 2) (hz : ¬ I (o + 5) c = 0) : q_Rt mX7_restore 1 [.ref o, .int (nI c)] Sh (q_setA I (o + 1) σ) (some (.int (I (o + 4) (267 * c + 1)))) (q_setA (a_rec I o σ) (o + 1) (fun k => I (o + 4) (267 * c + k))) := by
  refine q_rt_of (by decide) (Nat.le_of_ble_eq_true rfl) fun Γ BM => ?_
  have B := BM.1
  have hr : nI 0 ≤ nI c ∧ nI c ≤ nI 1 := ⟨(nI_leI (by omega) (by omega)).mpr (Nat.zero_le c), (nI_leI (by omega) (by omega)).mpr (by omega)⟩
  show q_W Γ mX7_restore 0 0 Sh (q_setA I (o + 1) σ) 0 [(0, .ref o), (1, .int (nI c))] []
  refine q_aload_n B dX7_restore_0 rfl rfl ?_
  refine q_iconst (v := nI 0) B dX7_restore_1 rfl ?_
  refine q_putSame B kC_X7 (k := 0) (by decide) rfl kf_X7_32 rfl rfl rfl hm.1 ((congrFun (q_setA_ne (by omega)) _).trans h0) dX7_restore_2 ?_
  refine q_iload_n B dX7_restore_5 rfl rfl ?_
  refine q_iconst (v := nI 0) B dX7_restore_6 rfl ?_
  refine q_iconst (v := nI 1) B dX7_restore_7 rfl ?_
  refine q_rtS B s_in kv_yX7_in kt_yX7_in km_X7_94 rfl (by decide) rfl (Nat.le_of_ble_eq_true rfl) dX7_restore_8 ?_
  refine q_if_ne (tgt := 17) B dX7_restore_11 (by decide) (fun _ => ?_) (fun h => absurd h ((by rw [if_pos hr]; decide)))
  refine q_aload_n B dX7_restore_17 rfl rfl ?_
  refine q_getR B kC_X7 (k := 6) (by decide) rfl kf_X7_22 hm.1 (mR_hasSlot hm) dX7_restore_18 ?_
  refine q_iload_n B dX7_restore_21 rfl rfl ?_
  refine q_zaldO (n := c) B (by omega) (mA_hasSlot hm) rfl (by omega) (by decide) dX7_restore_22 ?_
  refine q_if_ne (tgt := 29) B dX7_restore_23 (by decide) (fun _ => ?_) (fun h => absurd h hz)
  refine q_aload_n B dX7_restore_29 rfl rfl ?_
  refine q_rtV B (s_records hm hu hu4) kv_yX7_records ki_yX7_records ks_yX7_records km_X7_102 rfl (ci := 7) rfl rfl hm.1 (by decide) rfl (Nat.le_of_ble_eq_true rfl) dX7_restore_30 ?_
  refine q_iconst (v := nI 0) B dX7_restore_33 rfl ?_
  refine q_istore_n B dX7_restore_34 rfl (Nat.le_of_ble_eq_true rfl) rfl ?_
  have hl_35 : ∀ (n i : Nat) , i + n = 267 → q_W Γ mX7_restore 0 0 Sh (q_setA (a_rec I o σ) (o + 1) (a_cp i (fun k => I (o + 4) (267 * c + k)) σ)) 35 [(0, .ref o), (1, .int (nI c)), (2, .int (nI i))] [] := by
    intro n
    induction n with
    | zero =>
      intro i  hin
      have hi : i = 267 := by omega
      subst hi
      refine q_iload_n B dX7_restore_35 rfl rfl ?_
      refine q_sipush (v := nI 267) B dX7_restore_36 rfl ?_
      refine q_icmp_ge (tgt := 66) B dX7_restore_39 (by decide) (fun _ => ?_) (fun h => absurd (q_le (Nat.le_refl 267) (by decide)) h)
      refine q_norm (mA_s hm) (by decide) (g := fun k => I (o + 4) (267 * c + k)) (fun j hj => a_cp_at (by omega)) ?_
      refine q_aload_n B dX7_restore_66 rfl rfl ?_
      refine q_getR B kC_X7 (k := 1) (by decide) rfl kf_X7_7 hm.1 (mR_s hm) dX7_restore_67 ?_
      refine q_iconst (v := nI 1) B dX7_restore_70 rfl ?_
      refine q_ialdS (n := 1) B (mA_s hm) rfl (by omega) (by decide) dX7_restore_71 ?_
      exact q_iret BM rfl dX7_restore_72 ⟨rfl, rfl, rfl⟩
    | succ n ih =>
      intro i  hin
      have hiN : i < 267 := by omega
      refine q_iload_n B dX7_restore_35 rfl rfl ?_
      refine q_sipush (v := nI 267) B dX7_restore_36 rfl ?_
      refine q_icmp_ge (tgt := 66) B dX7_restore_39 (by decide) (fun h => absurd h (q_nle hiN (by decide))) (fun _ => ?_)
      refine q_aload_n B dX7_restore_42 rfl rfl ?_
      refine q_getR B kC_X7 (k := 1) (by decide) rfl kf_X7_7 hm.1 (mR_s hm) dX7_restore_43 ?_
      refine q_iload_n B dX7_restore_46 rfl rfl ?_
      refine q_aload_n B dX7_restore_47 rfl rfl ?_
      refine q_getR B kC_X7 (k := 5) (by decide) rfl kf_X7_19 hm.1 (mR_slots hm) dX7_restore_48 ?_
      refine q_sipush (v := nI 267) B dX7_restore_51 rfl ?_
      refine q_iload_n B dX7_restore_54 rfl rfl ?_
      refine q_imul B dX7_restore_55 ?_
      refine q_iload_n B dX7_restore_56 rfl rfl ?_
      refine q_iadd B dX7_restore_57 ?_
      refine q_ialdO (n := 267 * c + i) B (by omega) (mA_slots hm) (by simp only [nI_add, q_nI_mul]) (by omega) (by decide) dX7_restore_58 ?_
      refine q_top (y := I (o + 4) (267 * c + i)) (congrFun (a_rec_at (by omega) (by omega)) _) ?_
      refine q_iastS (n := i) B (mA_s hm) rfl (by omega) (by decide) dX7_restore_59 ?_
      refine q_iinc2 (y := nI (i + 1)) B dX7_restore_60 rfl (q_inc1 _) (Nat.le_of_ble_eq_true rfl) rfl ?_
      refine q_goto (tgt := 35) B dX7_restore_63 (by decide) ?_
      exact q_tkm (ih (i + 1) (by omega)) (by rw [show I (o + 4) (267 * c + i) = (fun k => I (o + 4) (267 * c + k)) i from rfl, a_cp_s]) rfl (q_ac rfl (q_ac rfl (q_ac rfl q_an)))
  exact q_tkm (hl_35 267 0 (by omega)) (by rw [a_cp_0]) rfl (q_ac rfl (q_ac rfl (q_ac rfl q_an)))
set_option maxRecDepth 100000 in
set_option maxHeartbeats 4000000 in
theorem s_ofThing_no {Sh : q_Sh} {I : q_Mem} {σ : a_A} {o : Nat} (hm : mOk Sh o) {T F : Nat} (hW : a_W T F σ) (h0 : I o 0 = nI 0) {w : Int32} {t : Int32} (hr : ¬ (nI 0 ≤ t ∧ t < nI T)) : q_Rt mX7_ofThing 2 [.ref o, .int t, .int w] Sh (q_setA I (o + 1) σ) (some (.int (a_ofThing σ t w))) (q_setA I (o + 1) σ) := by
  refine q_rt_of (by decide) (Nat.le_of_ble_eq_true rfl) fun Γ BM => ?_
  have B := BM.1
  show q_W Γ mX7_ofThing 0 0 Sh (q_setA I (o + 1) σ) 0 [(0, .ref o), (1, .int t), (2, .int w)] []
  refine q_aload_n B dX7_ofThing_0 rfl rfl ?_
  refine q_iconst (v := nI 0) B dX7_ofThing_1 rfl ?_
  refine q_putSame B kC_X7 (k := 0) (by decide) rfl kf_X7_32 rfl rfl rfl hm.1 ((congrFun (q_setA_ne (by omega)) _).trans h0) dX7_ofThing_2 ?_
  refine q_aload_n B dX7_ofThing_5 rfl rfl ?_
  refine q_iload_n B dX7_ofThing_6 rfl rfl ?_
  refine q_rtV B (s_isThing hm hW) kv_yX7_isThing ki_yX7_isThing ks_yX7_isThing km_X7_117 rfl (ci := 7) rfl rfl hm.1 (by decide) rfl (Nat.le_of_ble_eq_true rfl) dX7_ofThing_7 ?_
  refine q_if_ne (tgt := 15) B dX7_ofThing_10 (by decide) (fun h => absurd ((if_neg (by rw [hW.1.1]; exact fun q => hr ((a_isT_iff hW.1.2).mp q)))) h) (fun _ => ?_)
  refine q_iconst (v := -1) B dX7_ofThing_13 rfl ?_
  exact q_iret BM rfl dX7_ofThing_14 ⟨by rw [a_ofThing, if_pos (by rw [hW.1.1]; exact hr)], rfl, rfl⟩
set_option maxRecDepth 100000 in
set_option maxHeartbeats 4000000 in
theorem s_ofThing_yes {Sh : q_Sh} {I : q_Mem} {σ : a_A} {o : Nat} (hm : mOk Sh o) {T F : Nat} (hW : a_W T F σ) (h0 : I o 0 = nI 0) {w : Int32} {j : Nat} (hj : j < T) : q_Rt mX7_ofThing 2 [.ref o, .int (nI j), .int w] Sh (q_setA I (o + 1) σ) (some (.int (a_ofThing σ (nI j) w))) (q_setA I (o + 1) σ) := by
  refine q_rt_of (by decide) (Nat.le_of_ble_eq_true rfl) fun Γ BM => ?_
  have B := BM.1
  have hr : nI 0 ≤ nI j ∧ nI j < nI T := ⟨(nI_leI (by omega) (by have := hW.1.2; omega)).mpr (Nat.zero_le j), (nI_ltI (by have := hW.1.2; omega) (by have := hW.1.2; omega)).mpr hj⟩
  have hT2 := hW.1.2
  have hF2 := hW.2.1.2
  have haj : a_n (nI j) = j := nI_clamp (by omega)
  have hr2 : nI 0 ≤ nI j ∧ nI j < σ 1 := by rw [hW.1.1]; exact hr
  show q_W Γ mX7_ofThing 0 0 Sh (q_setA I (o + 1) σ) 0 [(0, .ref o), (1, .int (nI j)), (2, .int w)] []
  refine q_aload_n B dX7_ofThing_0 rfl rfl ?_
  refine q_iconst (v := nI 0) B dX7_ofThing_1 rfl ?_
  refine q_putSame B kC_X7 (k := 0) (by decide) rfl kf_X7_32 rfl rfl rfl hm.1 ((congrFun (q_setA_ne (by omega)) _).trans h0) dX7_ofThing_2 ?_
  refine q_aload_n B dX7_ofThing_5 rfl rfl ?_
  refine q_iload_n B dX7_ofThing_6 rfl rfl ?_
  refine q_rtV B (s_isThing hm hW) kv_yX7_isThing ki_yX7_isThing ks_yX7_isThing km_X7_117 rfl (ci := 7) rfl rfl hm.1 (by decide) rfl (Nat.le_of_ble_eq_true rfl) dX7_ofThing_7 ?_
  refine q_if_ne (tgt := 15) B dX7_ofThing_10 (by decide) (fun _ => ?_) (fun h => absurd h ((by rw [if_pos (by rw [hW.1.1]; exact (a_isT_iff hW.1.2).mpr hr)]; decide)))
  refine q_iload_n B dX7_ofThing_15 rfl rfl ?_
  
  by_cases h5 : w = nI 5
  · subst h5
    refine q_tableIn (off := 32) (tgt := 48) B dX7_ofThing_16 (by decide) (by decide) (by decide) (by decide) ?_
    refine q_aload_n B dX7_ofThing_48 rfl rfl ?_
    refine q_iload_n B dX7_ofThing_49 rfl rfl ?_
    refine q_rtV B (s_fixerOf hm (by rw [a_W_F hW]; exact hW.2.1.1) (by rw [a_W_F hW]; exact hF2)) kv_yX7_fixerOf ki_yX7_fixerOf ks_yX7_fixerOf km_X7_126 rfl (ci := 7) rfl rfl hm.1 (by decide) rfl (Nat.le_of_ble_eq_true rfl) dX7_ofThing_50 ?_
    exact q_iret BM rfl dX7_ofThing_53 ⟨by rw [a_ofThing, if_neg (not_not_intro hr2)]; rw [if_pos rfl], rfl, rfl⟩
  by_cases h6 : w = nI 6
  · subst h6
    refine q_tableIn (off := 38) (tgt := 54) B dX7_ofThing_16 (by decide) (by decide) (by decide) (by decide) ?_
    refine q_aload_n B dX7_ofThing_54 rfl rfl ?_
    refine q_iload_n B dX7_ofThing_55 rfl rfl ?_
    refine q_iconst (v := nI 5) B dX7_ofThing_56 rfl ?_
    refine q_rtV B (s_of hm (by omega) (by decide)) kv_yX7_of ki_yX7_of ks_yX7_of km_X7_39 rfl (ci := 7) rfl rfl hm.1 (by decide) rfl (Nat.le_of_ble_eq_true rfl) dX7_ofThing_57 ?_
    exact q_iret BM rfl dX7_ofThing_60 ⟨by rw [a_ofThing, if_neg (not_not_intro hr2)]; rw [if_neg (by decide), if_pos rfl, haj], rfl, rfl⟩
  by_cases h7 : w = nI 7
  · subst h7
    refine q_tableIn (off := 45) (tgt := 61) B dX7_ofThing_16 (by decide) (by decide) (by decide) (by decide) ?_
    refine q_aload_n B dX7_ofThing_61 rfl rfl ?_
    refine q_iload_n B dX7_ofThing_62 rfl rfl ?_
    refine q_bipush (v := nI 6) B dX7_ofThing_63 rfl ?_
    refine q_rtV B (s_of hm (by omega) (by decide)) kv_yX7_of ki_yX7_of ks_yX7_of km_X7_39 rfl (ci := 7) rfl rfl hm.1 (by decide) rfl (Nat.le_of_ble_eq_true rfl) dX7_ofThing_65 ?_
    exact q_iret BM rfl dX7_ofThing_68 ⟨by rw [a_ofThing, if_neg (not_not_intro hr2)]; rw [if_neg (by decide), if_neg (by decide), if_pos rfl, haj], rfl, rfl⟩
  by_cases h8 : w = nI 8
  · subst h8
    refine q_tableIn (off := 53) (tgt := 69) B dX7_ofThing_16 (by decide) (by decide) (by decide) (by decide) ?_
    refine q_aload_n B dX7_ofThing_69 rfl rfl ?_
    refine q_iload_n B dX7_ofThing_70 rfl rfl ?_
    refine q_rtV B (s_placeOf hm hW (by omega)) kv_yX7_placeOf ki_yX7_placeOf ks_yX7_placeOf km_X7_129 rfl (ci := 7) rfl rfl hm.1 (by decide) rfl (Nat.le_of_ble_eq_true rfl) dX7_ofThing_71 ?_
    exact q_iret BM rfl dX7_ofThing_74 ⟨by rw [a_ofThing, if_neg (not_not_intro hr2)]; rw [if_neg (by decide), if_neg (by decide), if_neg (by decide), if_pos rfl, haj], rfl, rfl⟩
  refine q_tableOut (tgt := 75) B dX7_ofThing_16 (a_tout (lo := 5) (hi := 8) (fun j h1 h2 => by rcases (show j = 5 ∨ j = 6 ∨ j = 7 ∨ j = 8 by omega) with rfl | rfl | rfl | rfl <;> assumption) (by decide)) (by decide) ?_
  refine q_iload_n B dX7_ofThing_75 rfl rfl ?_
  refine q_iconst (v := nI 0) B dX7_ofThing_76 rfl ?_
  refine q_iconst (v := nI 4) B dX7_ofThing_77 rfl ?_
  refine q_rtS B s_in kv_yX7_in kt_yX7_in km_X7_94 rfl (by decide) rfl (Nat.le_of_ble_eq_true rfl) dX7_ofThing_78 ?_
  refine q_if_eq (tgt := 93) B dX7_ofThing_81 (by decide) (fun c_81 => ?_) (fun c_81 => ?_)
  · skip
    have h81 := a_b0 c_81
    refine q_bipush (v := -2) B dX7_ofThing_93 rfl ?_
    exact q_iret BM rfl dX7_ofThing_95 ⟨by rw [a_ofThing, if_neg (not_not_intro hr2)]; rw [if_neg h5, if_neg h6, if_neg h7, if_neg h8]; first | (rw [if_neg h81]; done) | (rw [if_pos h81, haj, hax]; done), rfl, rfl⟩
  · skip
    have h81 := a_b1 c_81
    obtain ⟨x, hx, ex⟩ := a_in06 rfl rfl (by decide) h81
    have hax : a_n w = x := by rw [ex]; exact nI_clamp (by omega)
    refine q_aload_n B dX7_ofThing_84 rfl rfl ?_
    refine q_iload_n B dX7_ofThing_85 rfl rfl ?_
    refine q_iload_n B dX7_ofThing_86 rfl rfl ?_
    refine q_top ex ?_
    refine q_rtV B (s_of hm (by omega) (by omega)) kv_yX7_of ki_yX7_of ks_yX7_of km_X7_39 rfl (ci := 7) rfl rfl hm.1 (by decide) rfl (Nat.le_of_ble_eq_true rfl) dX7_ofThing_87 ?_
    refine q_goto (tgt := 95) B dX7_ofThing_90 (by decide) ?_
    exact q_iret BM rfl dX7_ofThing_95 ⟨by rw [a_ofThing, if_neg (not_not_intro hr2)]; rw [if_neg h5, if_neg h6, if_neg h7, if_neg h8]; first | (rw [if_neg h81]; done) | (rw [if_pos h81, haj, hax]; done), rfl, rfl⟩
set_option maxRecDepth 100000 in
set_option maxHeartbeats 4000000 in
theorem s_ofFixer_no {Sh : q_Sh} {I : q_Mem} {σ : a_A} {o : Nat} (hm : mOk Sh o) {T F : Nat} (hW : a_W T F σ) (h0 : I o 0 = nI 0) {w : Int32} {f : Int32} (hr : ¬ (nI 0 ≤ f ∧ f < nI F)) : q_Rt mX7_ofFixer 2 [.ref o, .int f, .int w] Sh (q_setA I (o + 1) σ) (some (.int (a_ofFixer σ f w))) (q_setA I (o + 1) σ) := by
  refine q_rt_of (by decide) (Nat.le_of_ble_eq_true rfl) fun Γ BM => ?_
  have B := BM.1
  show q_W Γ mX7_ofFixer 0 0 Sh (q_setA I (o + 1) σ) 0 [(0, .ref o), (1, .int f), (2, .int w)] []
  refine q_aload_n B dX7_ofFixer_0 rfl rfl ?_
  refine q_iconst (v := nI 0) B dX7_ofFixer_1 rfl ?_
  refine q_putSame B kC_X7 (k := 0) (by decide) rfl kf_X7_32 rfl rfl rfl hm.1 ((congrFun (q_setA_ne (by omega)) _).trans h0) dX7_ofFixer_2 ?_
  refine q_iload_n B dX7_ofFixer_5 rfl rfl ?_
  refine q_iconst (v := nI 0) B dX7_ofFixer_6 rfl ?_
  refine q_aload_n B dX7_ofFixer_7 rfl rfl ?_
  refine q_getR B kC_X7 (k := 1) (by decide) rfl kf_X7_7 hm.1 (mR_s hm) dX7_ofFixer_8 ?_
  refine q_iconst (v := nI 2) B dX7_ofFixer_11 rfl ?_
  refine q_ialdS (n := 2) B (mA_s hm) rfl (by omega) (by decide) dX7_ofFixer_12 ?_
  refine q_iconst (v := nI 1) B dX7_ofFixer_13 rfl ?_
  refine q_isub B dX7_ofFixer_14 ?_
  refine q_rtS B s_in kv_yX7_in kt_yX7_in km_X7_94 rfl (by decide) rfl (Nat.le_of_ble_eq_true rfl) dX7_ofFixer_15 ?_
  refine q_if_ne (tgt := 23) B dX7_ofFixer_18 (by decide) (fun h => absurd ((if_neg (by rw [hW.2.1.1]; exact fun q => hr ((a_isT_iff (by have := hW.2.1.2; omega)).mp q)))) h) (fun _ => ?_)
  refine q_iconst (v := -1) B dX7_ofFixer_21 rfl ?_
  exact q_iret BM rfl dX7_ofFixer_22 ⟨by rw [a_ofFixer, if_pos (by rw [hW.2.1.1]; exact hr)], rfl, rfl⟩
set_option maxRecDepth 100000 in
set_option maxHeartbeats 4000000 in
theorem s_ofFixer_yes {Sh : q_Sh} {I : q_Mem} {σ : a_A} {o : Nat} (hm : mOk Sh o) {T F : Nat} (hW : a_W T F σ) (h0 : I o 0 = nI 0) {w : Int32} {j : Nat} (hj : j < F) : q_Rt mX7_ofFixer 2 [.ref o, .int (nI j), .int w] Sh (q_setA I (o + 1) σ) (some (.int (a_ofFixer σ (nI j) w))) (q_setA I (o + 1) σ) := by
  refine q_rt_of (by decide) (Nat.le_of_ble_eq_true rfl) fun Γ BM => ?_
  have B := BM.1
  have hr : nI 0 ≤ nI j ∧ nI j < nI F := ⟨(nI_leI (by omega) (by have := hW.2.1.2; omega)).mpr (Nat.zero_le j), (nI_ltI (by have := hW.2.1.2; omega) (by have := hW.2.1.2; omega)).mpr hj⟩
  have hT2 := hW.1.2
  have hF2 := hW.2.1.2
  have haj : a_n (nI j) = j := nI_clamp (by omega)
  have hr2 : nI 0 ≤ nI j ∧ nI j < σ 2 := by rw [hW.2.1.1]; exact hr
  show q_W Γ mX7_ofFixer 0 0 Sh (q_setA I (o + 1) σ) 0 [(0, .ref o), (1, .int (nI j)), (2, .int w)] []
  refine q_aload_n B dX7_ofFixer_0 rfl rfl ?_
  refine q_iconst (v := nI 0) B dX7_ofFixer_1 rfl ?_
  refine q_putSame B kC_X7 (k := 0) (by decide) rfl kf_X7_32 rfl rfl rfl hm.1 ((congrFun (q_setA_ne (by omega)) _).trans h0) dX7_ofFixer_2 ?_
  refine q_iload_n B dX7_ofFixer_5 rfl rfl ?_
  refine q_iconst (v := nI 0) B dX7_ofFixer_6 rfl ?_
  refine q_aload_n B dX7_ofFixer_7 rfl rfl ?_
  refine q_getR B kC_X7 (k := 1) (by decide) rfl kf_X7_7 hm.1 (mR_s hm) dX7_ofFixer_8 ?_
  refine q_iconst (v := nI 2) B dX7_ofFixer_11 rfl ?_
  refine q_ialdS (n := 2) B (mA_s hm) rfl (by omega) (by decide) dX7_ofFixer_12 ?_
  refine q_iconst (v := nI 1) B dX7_ofFixer_13 rfl ?_
  refine q_isub B dX7_ofFixer_14 ?_
  refine q_rtS B s_in kv_yX7_in kt_yX7_in km_X7_94 rfl (by decide) rfl (Nat.le_of_ble_eq_true rfl) dX7_ofFixer_15 ?_
  refine q_if_ne (tgt := 23) B dX7_ofFixer_18 (by decide) (fun _ => ?_) (fun h => absurd h ((by rw [if_pos (by rw [hW.2.1.1]; exact (a_isT_iff (by have := hW.2.1.2; omega)).mpr hr)]; decide)))
  refine q_iload_n B dX7_ofFixer_23 rfl rfl ?_
  
  by_cases h2 : w = nI 2
  · subst h2
    refine q_lookup (off := 28) (tgt := 52) B dX7_ofFixer_24 (by decide) (by decide) (by decide) ?_
    refine q_aload_n B dX7_ofFixer_52 rfl rfl ?_
    refine q_iload_n B dX7_ofFixer_53 rfl rfl ?_
    refine q_iconst (v := nI 2) B dX7_ofFixer_54 rfl ?_
    refine q_rtV B (s_fixer0 hm (by omega) (by decide)) kv_yX7_fixer0 ki_yX7_fixer0 ks_yX7_fixer0 km_X7_51 rfl (ci := 7) rfl rfl hm.1 (by decide) rfl (Nat.le_of_ble_eq_true rfl) dX7_ofFixer_55 ?_
    refine q_if_ne (tgt := 66) B dX7_ofFixer_58 (by decide) (fun c_58 => ?_) (fun c_58 => ?_)
    · skip
      refine q_aload_n B dX7_ofFixer_66 rfl rfl ?_
      refine q_iload_n B dX7_ofFixer_67 rfl rfl ?_
      refine q_iconst (v := nI 2) B dX7_ofFixer_68 rfl ?_
      refine q_rtV B (s_fixer0 hm (by omega) (by decide)) kv_yX7_fixer0 ki_yX7_fixer0 ks_yX7_fixer0 km_X7_51 rfl (ci := 7) rfl rfl hm.1 (by decide) rfl (Nat.le_of_ble_eq_true rfl) dX7_ofFixer_69 ?_
      refine q_iconst (v := 1) B dX7_ofFixer_72 rfl ?_
      refine q_isub B dX7_ofFixer_73 ?_
      exact q_iret BM rfl dX7_ofFixer_74 ⟨by rw [a_ofFixer, if_neg (not_not_intro hr2)]; rw [if_pos rfl, haj]; first | (rw [if_pos c_58]; done) | (rw [if_neg c_58]; done), rfl, rfl⟩
    · skip
      refine q_bipush (v := -6) B dX7_ofFixer_61 rfl ?_
      refine q_goto (tgt := 74) B dX7_ofFixer_63 (by decide) ?_
      exact q_iret BM rfl dX7_ofFixer_74 ⟨by rw [a_ofFixer, if_neg (not_not_intro hr2)]; rw [if_pos rfl, haj]; first | (rw [if_pos c_58]; done) | (rw [if_neg c_58]; done), rfl, rfl⟩
  by_cases h6 : w = nI 6
  · subst h6
    refine q_lookup (off := 51) (tgt := 75) B dX7_ofFixer_24 (by decide) (by decide) (by decide) ?_
    refine q_aload_n B dX7_ofFixer_75 rfl rfl ?_
    refine q_aload_n B dX7_ofFixer_76 rfl rfl ?_
    refine q_iload_n B dX7_ofFixer_77 rfl rfl ?_
    refine q_iconst (v := nI 0) B dX7_ofFixer_78 rfl ?_
    refine q_rtV B (s_fixer0_0 hm (by omega)) kv_yX7_fixer0 ki_yX7_fixer0 ks_yX7_fixer0 km_X7_51 rfl (ci := 7) rfl rfl hm.1 (by decide) rfl (Nat.le_of_ble_eq_true rfl) dX7_ofFixer_79 ?_
    refine q_rtV B (s_nextForW hm hW) kv_yX7_nextFor ki_yX7_nextFor ks_yX7_nextFor km_X7_79 rfl (ci := 7) rfl rfl hm.1 (by decide) rfl (Nat.le_of_ble_eq_true rfl) dX7_ofFixer_82 ?_
    exact q_iret BM rfl dX7_ofFixer_85 ⟨by rw [a_ofFixer, if_neg (not_not_intro hr2)]; rw [if_neg (by decide), if_pos rfl, haj], rfl, rfl⟩
  have g2 := a_toInt_ne (j := 2) (by decide) h2
  have g6 := a_toInt_ne (j := 6) (by decide) h6
  refine q_lookup (off := 62) (tgt := 86) B dX7_ofFixer_24 (by decide) (by simp [Op.lookupswitch.offset]; omega) (by decide) ?_
  refine q_iload_n B dX7_ofFixer_86 rfl rfl ?_
  refine q_iconst (v := nI 0) B dX7_ofFixer_87 rfl ?_
  refine q_iconst (v := nI 5) B dX7_ofFixer_88 rfl ?_
  refine q_rtS B s_in kv_yX7_in kt_yX7_in km_X7_94 rfl (by decide) rfl (Nat.le_of_ble_eq_true rfl) dX7_ofFixer_89 ?_
  refine q_if_eq (tgt := 104) B dX7_ofFixer_92 (by decide) (fun c_92 => ?_) (fun c_92 => ?_)
  · skip
    have h92 := a_b0 c_92
    refine q_bipush (v := -2) B dX7_ofFixer_104 rfl ?_
    exact q_iret BM rfl dX7_ofFixer_106 ⟨by rw [a_ofFixer, if_neg (not_not_intro hr2)]; rw [if_neg h2, if_neg h6]; first | (rw [if_neg h92]; done) | (rw [if_pos h92, haj, hax]; done), rfl, rfl⟩
  · skip
    have h92 := a_b1 c_92
    obtain ⟨x, hx, ex⟩ := a_in06 rfl rfl (by decide) h92
    have hax : a_n w = x := by rw [ex]; exact nI_clamp (by omega)
    refine q_aload_n B dX7_ofFixer_95 rfl rfl ?_
    refine q_iload_n B dX7_ofFixer_96 rfl rfl ?_
    refine q_iload_n B dX7_ofFixer_97 rfl rfl ?_
    refine q_top ex ?_
    refine q_rtV B (s_fixer0 hm (by omega) (by omega)) kv_yX7_fixer0 ki_yX7_fixer0 ks_yX7_fixer0 km_X7_51 rfl (ci := 7) rfl rfl hm.1 (by decide) rfl (Nat.le_of_ble_eq_true rfl) dX7_ofFixer_98 ?_
    refine q_goto (tgt := 106) B dX7_ofFixer_101 (by decide) ?_
    exact q_iret BM rfl dX7_ofFixer_106 ⟨by rw [a_ofFixer, if_neg (not_not_intro hr2)]; rw [if_neg h2, if_neg h6]; first | (rw [if_neg h92]; done) | (rw [if_pos h92, haj, hax]; done), rfl, rfl⟩
set_option maxRecDepth 100000 in
set_option maxHeartbeats 4000000 in
theorem s_ofPart_no {Sh : q_Sh} {I : q_Mem} {σ : a_A} {o : Nat} (hm : mOk Sh o) {T F : Nat} (hW : a_W T F σ) (h0 : I o 0 = nI 0) {p w : Int32} (hr : ¬ (nI 0 ≤ p ∧ p ≤ nI 7)) : q_Rt mX7_ofPart 2 [.ref o, .int p, .int w] Sh (q_setA I (o + 1) σ) (some (.int (a_ofPart σ p w))) (q_setA I (o + 1) σ) := by
  refine q_rt_of (by decide) (Nat.le_of_ble_eq_true rfl) fun Γ BM => ?_
  have B := BM.1
  show q_W Γ mX7_ofPart 0 0 Sh (q_setA I (o + 1) σ) 0 [(0, .ref o), (1, .int p), (2, .int w)] []
  refine q_aload_n B dX7_ofPart_0 rfl rfl ?_
  refine q_iconst (v := nI 0) B dX7_ofPart_1 rfl ?_
  refine q_putSame B kC_X7 (k := 0) (by decide) rfl kf_X7_32 rfl rfl rfl hm.1 ((congrFun (q_setA_ne (by omega)) _).trans h0) dX7_ofPart_2 ?_
  refine q_iload_n B dX7_ofPart_5 rfl rfl ?_
  refine q_iconst (v := nI 0) B dX7_ofPart_6 rfl ?_
  refine q_bipush (v := nI 7) B dX7_ofPart_7 rfl ?_
  refine q_rtS B s_in kv_yX7_in kt_yX7_in km_X7_94 rfl (by decide) rfl (Nat.le_of_ble_eq_true rfl) dX7_ofPart_9 ?_
  refine q_if_ne (tgt := 17) B dX7_ofPart_12 (by decide) (fun h => absurd ((if_neg hr)) h) (fun _ => ?_)
  refine q_iconst (v := -1) B dX7_ofPart_15 rfl ?_
  exact q_iret BM rfl dX7_ofPart_16 ⟨by rw [a_ofPart, if_pos hr], rfl, rfl⟩
set_option maxRecDepth 100000 in
set_option maxHeartbeats 4000000 in
theorem s_ofPart_yes {Sh : q_Sh} {I : q_Mem} {σ : a_A} {o : Nat} (hm : mOk Sh o) {T F : Nat} (hW : a_W T F σ) (hth : I o 0 = nI 0) {w : Int32} {j : Nat} (hj : j < 8) : q_Rt mX7_ofPart 2 [.ref o, .int (nI j), .int w] Sh (q_setA I (o + 1) σ) (some (.int (a_ofPart σ (nI j) w))) (q_setA I (o + 1) σ) := by
  refine q_rt_of (by decide) (Nat.le_of_ble_eq_true rfl) fun Γ BM => ?_
  have B := BM.1
  have hr : nI 0 ≤ nI j ∧ nI j ≤ nI 7 := ⟨(nI_leI (by omega) (by omega)).mpr (Nat.zero_le j), (nI_leI (by omega) (by omega)).mpr (by omega)⟩
  have haj : a_n (nI j) = j := nI_clamp (by omega)
  show q_W Γ mX7_ofPart 0 0 Sh (q_setA I (o + 1) σ) 0 [(0, .ref o), (1, .int (nI j)), (2, .int w)] []
  refine q_aload_n B dX7_ofPart_0 rfl rfl ?_
  refine q_iconst (v := nI 0) B dX7_ofPart_1 rfl ?_
  refine q_putSame B kC_X7 (k := 0) (by decide) rfl kf_X7_32 rfl rfl rfl hm.1 ((congrFun (q_setA_ne (by omega)) _).trans hth) dX7_ofPart_2 ?_
  refine q_iload_n B dX7_ofPart_5 rfl rfl ?_
  refine q_iconst (v := nI 0) B dX7_ofPart_6 rfl ?_
  refine q_bipush (v := nI 7) B dX7_ofPart_7 rfl ?_
  refine q_rtS B s_in kv_yX7_in kt_yX7_in km_X7_94 rfl (by decide) rfl (Nat.le_of_ble_eq_true rfl) dX7_ofPart_9 ?_
  refine q_if_ne (tgt := 17) B dX7_ofPart_12 (by decide) (fun _ => ?_) (fun h => absurd h ((by rw [if_pos hr]; decide)))
  refine q_iload_n B dX7_ofPart_17 rfl rfl ?_
  
  by_cases h0 : w = nI 0
  · subst h0
    refine q_tableIn (off := 30) (tgt := 48) B dX7_ofPart_18 (by decide) (by decide) (by decide) (by decide) ?_
    refine q_aload_n B dX7_ofPart_48 rfl rfl ?_
    refine q_getR B kC_X7 (k := 1) (by decide) rfl kf_X7_7 hm.1 (mR_s hm) dX7_ofPart_49 ?_
    refine q_iconst (v := nI 3) B dX7_ofPart_52 rfl ?_
    refine q_iload_n B dX7_ofPart_53 rfl rfl ?_
    refine q_iadd B dX7_ofPart_54 ?_
    refine q_ialdS (n := 3 + j) B (mA_s hm) (by simp only [nI_add, q_nI_mul]) (by omega) (by decide) dX7_ofPart_55 ?_
    exact q_iret BM rfl dX7_ofPart_56 ⟨by rw [a_ofPart, if_neg (not_not_intro hr)]; rw [if_pos rfl, haj], rfl, rfl⟩
  by_cases h1 : w = nI 1
  · subst h1
    refine q_tableIn (off := 39) (tgt := 57) B dX7_ofPart_18 (by decide) (by decide) (by decide) (by decide) ?_
    refine q_aload_n B dX7_ofPart_57 rfl rfl ?_
    refine q_iload_n B dX7_ofPart_58 rfl rfl ?_
    refine q_rtV B (s_brokenOnes hm hW) kv_yX7_brokenOnes ki_yX7_brokenOnes ks_yX7_brokenOnes km_X7_132 rfl (ci := 7) rfl rfl hm.1 (by decide) rfl (Nat.le_of_ble_eq_true rfl) dX7_ofPart_59 ?_
    exact q_iret BM rfl dX7_ofPart_62 ⟨by rw [a_ofPart, if_neg (not_not_intro hr)]; rw [if_neg (by decide), if_pos rfl], rfl, rfl⟩
  by_cases h2 : w = nI 2
  · subst h2
    refine q_tableIn (off := 45) (tgt := 63) B dX7_ofPart_18 (by decide) (by decide) (by decide) (by decide) ?_
    refine q_aload_n B dX7_ofPart_63 rfl rfl ?_
    refine q_getR B kC_X7 (k := 1) (by decide) rfl kf_X7_7 hm.1 (mR_s hm) dX7_ofPart_64 ?_
    refine q_bipush (v := nI 11) B dX7_ofPart_67 rfl ?_
    refine q_iload_n B dX7_ofPart_69 rfl rfl ?_
    refine q_iadd B dX7_ofPart_70 ?_
    refine q_ialdS (n := 11 + j) B (mA_s hm) (by simp only [nI_add, q_nI_mul]) (by omega) (by decide) dX7_ofPart_71 ?_
    exact q_iret BM rfl dX7_ofPart_72 ⟨by rw [a_ofPart, if_neg (not_not_intro hr)]; rw [if_neg (by decide), if_neg (by decide), if_pos rfl, haj], rfl, rfl⟩
  by_cases h3 : w = nI 3
  · subst h3
    refine q_tableIn (off := 55) (tgt := 73) B dX7_ofPart_18 (by decide) (by decide) (by decide) (by decide) ?_
    refine q_aload_n B dX7_ofPart_73 rfl rfl ?_
    refine q_getR B kC_X7 (k := 1) (by decide) rfl kf_X7_7 hm.1 (mR_s hm) dX7_ofPart_74 ?_
    refine q_bipush (v := nI 19) B dX7_ofPart_77 rfl ?_
    refine q_iload_n B dX7_ofPart_79 rfl rfl ?_
    refine q_iadd B dX7_ofPart_80 ?_
    refine q_ialdS (n := 19 + j) B (mA_s hm) (by simp only [nI_add, q_nI_mul]) (by omega) (by decide) dX7_ofPart_81 ?_
    exact q_iret BM rfl dX7_ofPart_82 ⟨by rw [a_ofPart, if_neg (not_not_intro hr)]; rw [if_neg (by decide), if_neg (by decide), if_neg (by decide), if_pos rfl, haj], rfl, rfl⟩
  refine q_tableOut (tgt := 83) B dX7_ofPart_18 (a_tout (lo := 0) (hi := 3) (fun j h1 h2 => by rcases (show j = 0 ∨ j = 1 ∨ j = 2 ∨ j = 3 by omega) with rfl | rfl | rfl | rfl <;> assumption) (by decide)) (by decide) ?_
  refine q_bipush (v := -2) B dX7_ofPart_83 rfl ?_
  exact q_iret BM rfl dX7_ofPart_85 ⟨by rw [a_ofPart, if_neg (not_not_intro hr)]; rw [if_neg h0, if_neg h1, if_neg h2, if_neg h3], rfl, rfl⟩
set_option maxRecDepth 100000 in
set_option maxHeartbeats 4000000 in
theorem s_count {Sh : q_Sh} {I : q_Mem} {σ : a_A} {o : Nat} (hm : mOk Sh o) {T F : Nat} (hW : a_W T F σ) (h0 : I o 0 = nI 0) {w : Int32} : q_Rt mX7_count 2 [.ref o, .int w] Sh (q_setA I (o + 1) σ) (some (.int (a_count (I o) σ w))) (q_setA I (o + 1) σ) := by
  refine q_rt_of (by decide) (Nat.le_of_ble_eq_true rfl) fun Γ BM => ?_
  have B := BM.1
  show q_W Γ mX7_count 0 0 Sh (q_setA I (o + 1) σ) 0 [(0, .ref o), (1, .int w)] []
  refine q_aload_n B dX7_count_0 rfl rfl ?_
  refine q_iconst (v := nI 0) B dX7_count_1 rfl ?_
  refine q_putSame B kC_X7 (k := 0) (by decide) rfl kf_X7_32 rfl rfl rfl hm.1 ((congrFun (q_setA_ne (by omega)) _).trans h0) dX7_count_2 ?_
  refine q_iload_n B dX7_count_5 rfl rfl ?_
  refine q_bipush (v := nI 8) B dX7_count_6 rfl ?_
  refine q_icmp_eq (tgt := 17) B dX7_count_8 (by decide) (fun c_8 => ?_) (fun c_8 => ?_)
  · skip
    refine q_iload_n B dX7_count_17 rfl rfl ?_
    refine q_bipush (v := nI 8) B dX7_count_18 rfl ?_
    refine q_icmp_ne (tgt := 30) B dX7_count_20 (by decide) (fun c_20 => ?_) (fun c_20 => ?_)
    · skip
      refine q_aload_n B dX7_count_30 rfl rfl ?_
      refine q_getIS B (by omega) kC_X7 (k := 4) (by decide) rfl kf_X7_36 hm.1 dX7_count_31 ?_
      exact q_iret BM rfl dX7_count_34 ⟨by rw [a_count]; first | (rw [if_pos c_20]; done) | exact absurd c_8 c_20 | (rw [if_neg c_20, if_pos c_14]; done), rfl, rfl⟩
    · skip
      refine q_aload_n B dX7_count_23 rfl rfl ?_
      refine q_getIS B (by omega) kC_X7 (k := 8) (by decide) rfl kf_X7_135 hm.1 dX7_count_24 ?_
      refine q_goto (tgt := 34) B dX7_count_27 (by decide) ?_
      exact q_iret BM rfl dX7_count_34 ⟨by rw [a_count]; first | (rw [if_pos c_20]; done) | exact absurd c_8 c_20 | (rw [if_neg c_20, if_pos c_14]; done), rfl, rfl⟩
  · skip
    refine q_iload_n B dX7_count_11 rfl rfl ?_
    refine q_bipush (v := nI 9) B dX7_count_12 rfl ?_
    refine q_icmp_ne (tgt := 35) B dX7_count_14 (by decide) (fun c_14 => ?_) (fun c_14 => ?_)
    · skip
      refine q_iload_n B dX7_count_35 rfl rfl ?_
      refine q_iconst (v := nI 0) B dX7_count_36 rfl ?_
      refine q_iconst (v := nI 2) B dX7_count_37 rfl ?_
      refine q_rtS B s_in kv_yX7_in kt_yX7_in km_X7_94 rfl (by decide) rfl (Nat.le_of_ble_eq_true rfl) dX7_count_38 ?_
      refine q_if_eq (tgt := 53) B dX7_count_41 (by decide) (fun c_41 => ?_) (fun c_41 => ?_)
      · skip
        have h41 := a_b0 c_41
        refine q_iload_n B dX7_count_53 rfl rfl ?_
        refine q_iconst (v := nI 3) B dX7_count_54 rfl ?_
        refine q_bipush (v := nI 7) B dX7_count_55 rfl ?_
        refine q_rtS B s_in kv_yX7_in kt_yX7_in km_X7_94 rfl (by decide) rfl (Nat.le_of_ble_eq_true rfl) dX7_count_57 ?_
        refine q_if_eq (tgt := 73) B dX7_count_60 (by decide) (fun c_60 => ?_) (fun c_60 => ?_)
        · skip
          have h60 := a_b0 c_60
          refine q_bipush (v := -2) B dX7_count_73 rfl ?_
          exact q_iret BM rfl dX7_count_75 ⟨by rw [a_count, if_neg c_8, if_neg c_14]; first | (rw [if_pos h41, hax]; done) | (rw [if_neg h41, if_pos h60]; done) | (rw [if_neg h41, if_neg h60]; done), rfl, rfl⟩
        · skip
          have h60 := a_b1 c_60
          refine q_aload_n B dX7_count_63 rfl rfl ?_
          refine q_iload_n B dX7_count_64 rfl rfl ?_
          refine q_iconst (v := nI 3) B dX7_count_65 rfl ?_
          refine q_isub B dX7_count_66 ?_
          refine q_rtV B (s_withHowW hm hW) kv_yX7_withHow ki_yX7_withHow ks_yX7_withHow km_X7_88 rfl (ci := 7) rfl rfl hm.1 (by decide) rfl (Nat.le_of_ble_eq_true rfl) dX7_count_67 ?_
          refine q_goto (tgt := 75) B dX7_count_70 (by decide) ?_
          exact q_iret BM rfl dX7_count_75 ⟨by rw [a_count, if_neg c_8, if_neg c_14]; first | (rw [if_pos h41, hax]; done) | (rw [if_neg h41, if_pos h60]; done) | (rw [if_neg h41, if_neg h60]; done), rfl, rfl⟩
      · skip
        have h41 := a_b1 c_41
        obtain ⟨x, hx, ex⟩ := a_in06 rfl rfl (by decide) h41
        have hax : a_n w = x := by rw [ex]; exact nI_clamp (by omega)
        refine q_aload_n B dX7_count_44 rfl rfl ?_
        refine q_getR B kC_X7 (k := 1) (by decide) rfl kf_X7_7 hm.1 (mR_s hm) dX7_count_45 ?_
        refine q_iload_n B dX7_count_48 rfl rfl ?_
        refine q_top ex ?_
        refine q_ialdS (n := x) B (mA_s hm) rfl (by omega) (by decide) dX7_count_49 ?_
        refine q_goto (tgt := 75) B dX7_count_50 (by decide) ?_
        exact q_iret BM rfl dX7_count_75 ⟨by rw [a_count, if_neg c_8, if_neg c_14]; first | (rw [if_pos h41, hax]; done) | (rw [if_neg h41, if_pos h60]; done) | (rw [if_neg h41, if_neg h60]; done), rfl, rfl⟩
    · skip
      refine q_iload_n B dX7_count_17 rfl rfl ?_
      refine q_bipush (v := nI 8) B dX7_count_18 rfl ?_
      refine q_icmp_ne (tgt := 30) B dX7_count_20 (by decide) (fun c_20 => ?_) (fun c_20 => ?_)
      · skip
        refine q_aload_n B dX7_count_30 rfl rfl ?_
        refine q_getIS B (by omega) kC_X7 (k := 4) (by decide) rfl kf_X7_36 hm.1 dX7_count_31 ?_
        exact q_iret BM rfl dX7_count_34 ⟨by rw [a_count]; first | (rw [if_pos c_20]; done) | exact absurd c_8 c_20 | (rw [if_neg c_20, if_pos c_14]; done), rfl, rfl⟩
      · skip
        refine q_aload_n B dX7_count_23 rfl rfl ?_
        refine q_getIS B (by omega) kC_X7 (k := 8) (by decide) rfl kf_X7_135 hm.1 dX7_count_24 ?_
        refine q_goto (tgt := 34) B dX7_count_27 (by decide) ?_
        exact q_iret BM rfl dX7_count_34 ⟨by rw [a_count]; first | (rw [if_pos c_20]; done) | exact absurd c_8 c_20 | (rw [if_neg c_20, if_pos c_14]; done), rfl, rfl⟩
end
