section
-- ===== PART A: goes FIRST, ahead of the names: the tables' words, and 'selects' of the private methods out of them =====
/-- a private method of a class that the tables say can be made, by its rows of tables_1 -/
def lw_okq (q : MethodName × Nat) : Prop := (q.1.cls ≠ "java/lang/invoke/MethodHandle" ∧ q.1.cls ≠ "java/lang/invoke/VarHandle") ∧ Cond.instantiable q.1.cls q.2 ∈ tables_1 ∧ Cond.privateMethod q.1 ∈ tables_1 ∧ Cond.instanceMethod q.1 ∈ tables_1
theorem lw_p0 : lw_okq (⟨"PagerHouse", "leastFreeProcess", "()I"⟩, 11) := ⟨⟨by decide +kernel, by decide +kernel⟩, List.mem_of_getElem? (i := 23) (by decide +kernel), List.mem_of_getElem? (i := 95) (by decide +kernel), List.mem_of_getElem? (i := 96) (by decide +kernel)⟩
theorem lw_p1 : lw_okq (⟨"PagerHouse", "hasProcess", "(I)Z"⟩, 11) := ⟨⟨by decide +kernel, by decide +kernel⟩, List.mem_of_getElem? (i := 23) (by decide +kernel), List.mem_of_getElem? (i := 103) (by decide +kernel), List.mem_of_getElem? (i := 104) (by decide +kernel)⟩
theorem lw_p2 : lw_okq (⟨"PagerHouse", "empty", "(I)Z"⟩, 11) := ⟨⟨by decide +kernel, by decide +kernel⟩, List.mem_of_getElem? (i := 23) (by decide +kernel), List.mem_of_getElem? (i := 114) (by decide +kernel), List.mem_of_getElem? (i := 115) (by decide +kernel)⟩
theorem lw_p3 : lw_okq (⟨"PagerHouse", "release", "(LPagerHouse$Body;)V"⟩, 11) := ⟨⟨by decide +kernel, by decide +kernel⟩, List.mem_of_getElem? (i := 23) (by decide +kernel), List.mem_of_getElem? (i := 118) (by decide +kernel), List.mem_of_getElem? (i := 119) (by decide +kernel)⟩
theorem lw_p4 : lw_okq (⟨"PagerHouse$Rows", "has", "(I)Z"⟩, 2) := ⟨⟨by decide +kernel, by decide +kernel⟩, List.mem_of_getElem? (i := 37) (by decide +kernel), List.mem_of_getElem? (i := 122) (by decide +kernel), List.mem_of_getElem? (i := 123) (by decide +kernel)⟩
theorem lw_p5 : lw_okq (⟨"PagerHouse", "hasPage", "(II)Z"⟩, 11) := ⟨⟨by decide +kernel, by decide +kernel⟩, List.mem_of_getElem? (i := 23) (by decide +kernel), List.mem_of_getElem? (i := 130) (by decide +kernel), List.mem_of_getElem? (i := 131) (by decide +kernel)⟩
theorem lw_p6 : lw_okq (⟨"PagerHouse", "countWithoutSector", "()I"⟩, 11) := ⟨⟨by decide +kernel, by decide +kernel⟩, List.mem_of_getElem? (i := 23) (by decide +kernel), List.mem_of_getElem? (i := 138) (by decide +kernel), List.mem_of_getElem? (i := 139) (by decide +kernel)⟩
theorem lw_p7 : lw_okq (⟨"PagerHouse$Rows", "countFree", "()I"⟩, 2) := ⟨⟨by decide +kernel, by decide +kernel⟩, List.mem_of_getElem? (i := 37) (by decide +kernel), List.mem_of_getElem? (i := 142) (by decide +kernel), List.mem_of_getElem? (i := 143) (by decide +kernel)⟩
theorem lw_p8 : lw_okq (⟨"PagerHouse", "store", "(LPagerHouse$Body;)V"⟩, 11) := ⟨⟨by decide +kernel, by decide +kernel⟩, List.mem_of_getElem? (i := 23) (by decide +kernel), List.mem_of_getElem? (i := 146) (by decide +kernel), List.mem_of_getElem? (i := 147) (by decide +kernel)⟩
theorem lw_p9 : lw_okq (⟨"PagerHouse$Rows", "leastFree", "()I"⟩, 2) := ⟨⟨by decide +kernel, by decide +kernel⟩, List.mem_of_getElem? (i := 37) (by decide +kernel), List.mem_of_getElem? (i := 150) (by decide +kernel), List.mem_of_getElem? (i := 151) (by decide +kernel)⟩
theorem lw_p10 : lw_okq (⟨"PagerHouse$Rows", "copyWords", "(ILPagerHouse$Rows;I)V"⟩, 2) := ⟨⟨by decide +kernel, by decide +kernel⟩, List.mem_of_getElem? (i := 37) (by decide +kernel), List.mem_of_getElem? (i := 154) (by decide +kernel), List.mem_of_getElem? (i := 155) (by decide +kernel)⟩
theorem lw_p11 : lw_okq (⟨"PagerHouse", "leastHolder", "(LPagerHouse$Body;)I"⟩, 11) := ⟨⟨by decide +kernel, by decide +kernel⟩, List.mem_of_getElem? (i := 23) (by decide +kernel), List.mem_of_getElem? (i := 170) (by decide +kernel), List.mem_of_getElem? (i := 171) (by decide +kernel)⟩
theorem lw_p12 : lw_okq (⟨"PagerHouse", "countProcesses", "()I"⟩, 11) := ⟨⟨by decide +kernel, by decide +kernel⟩, List.mem_of_getElem? (i := 23) (by decide +kernel), List.mem_of_getElem? (i := 178) (by decide +kernel), List.mem_of_getElem? (i := 179) (by decide +kernel)⟩
theorem lw_p13 : lw_okq (⟨"PagerHouse", "countBodies", "()I"⟩, 11) := ⟨⟨by decide +kernel, by decide +kernel⟩, List.mem_of_getElem? (i := 23) (by decide +kernel), List.mem_of_getElem? (i := 182) (by decide +kernel), List.mem_of_getElem? (i := 183) (by decide +kernel)⟩
theorem lw_p14 : lw_okq (⟨"PagerHouse", "countDirty", "()I"⟩, 11) := ⟨⟨by decide +kernel, by decide +kernel⟩, List.mem_of_getElem? (i := 23) (by decide +kernel), List.mem_of_getElem? (i := 186) (by decide +kernel), List.mem_of_getElem? (i := 187) (by decide +kernel)⟩
theorem lw_p15 : lw_okq (⟨"PagerHouse", "checkAddress", "(II)V"⟩, 11) := ⟨⟨by decide +kernel, by decide +kernel⟩, List.mem_of_getElem? (i := 23) (by decide +kernel), List.mem_of_getElem? (i := 202) (by decide +kernel), List.mem_of_getElem? (i := 203) (by decide +kernel)⟩
def lw_privs_1 : List (MethodName × Nat) := [(⟨"PagerHouse", "leastFreeProcess", "()I"⟩, 11), (⟨"PagerHouse", "hasProcess", "(I)Z"⟩, 11), (⟨"PagerHouse", "empty", "(I)Z"⟩, 11), (⟨"PagerHouse", "release", "(LPagerHouse$Body;)V"⟩, 11), (⟨"PagerHouse$Rows", "has", "(I)Z"⟩, 2), (⟨"PagerHouse", "hasPage", "(II)Z"⟩, 11), (⟨"PagerHouse", "countWithoutSector", "()I"⟩, 11), (⟨"PagerHouse$Rows", "countFree", "()I"⟩, 2), (⟨"PagerHouse", "store", "(LPagerHouse$Body;)V"⟩, 11), (⟨"PagerHouse$Rows", "leastFree", "()I"⟩, 2), (⟨"PagerHouse$Rows", "copyWords", "(ILPagerHouse$Rows;I)V"⟩, 2), (⟨"PagerHouse", "leastHolder", "(LPagerHouse$Body;)I"⟩, 11), (⟨"PagerHouse", "countProcesses", "()I"⟩, 11), (⟨"PagerHouse", "countBodies", "()I"⟩, 11), (⟨"PagerHouse", "countDirty", "()I"⟩, 11), (⟨"PagerHouse", "checkAddress", "(II)V"⟩, 11)]
theorem lw_r1 : ∀ q ∈ lw_privs_1, lw_okq q := List.forall_mem_cons.mpr ⟨lw_p0, List.forall_mem_cons.mpr ⟨lw_p1, List.forall_mem_cons.mpr ⟨lw_p2, List.forall_mem_cons.mpr ⟨lw_p3, List.forall_mem_cons.mpr ⟨lw_p4, List.forall_mem_cons.mpr ⟨lw_p5, List.forall_mem_cons.mpr ⟨lw_p6, List.forall_mem_cons.mpr ⟨lw_p7, List.forall_mem_cons.mpr ⟨lw_p8, List.forall_mem_cons.mpr ⟨lw_p9, List.forall_mem_cons.mpr ⟨lw_p10, List.forall_mem_cons.mpr ⟨lw_p11, List.forall_mem_cons.mpr ⟨lw_p12, List.forall_mem_cons.mpr ⟨lw_p13, List.forall_mem_cons.mpr ⟨lw_p14, List.forall_mem_cons.mpr ⟨lw_p15, fun _ h => absurd h List.not_mem_nil⟩⟩⟩⟩⟩⟩⟩⟩⟩⟩⟩⟩⟩⟩⟩⟩
theorem lw_p16 : lw_okq (⟨"java/lang/Throwable", "fillInStackTrace", "(I)Ljava/lang/Throwable;"⟩, 6) := ⟨⟨by decide +kernel, by decide +kernel⟩, List.mem_of_getElem? (i := 244) (by decide +kernel), List.mem_of_getElem? (i := 242) (by decide +kernel), List.mem_of_getElem? (i := 243) (by decide +kernel)⟩
theorem lw_p17 : lw_okq (⟨"PagerHouse", "checkRoom", "(I)V"⟩, 11) := ⟨⟨by decide +kernel, by decide +kernel⟩, List.mem_of_getElem? (i := 23) (by decide +kernel), List.mem_of_getElem? (i := 277) (by decide +kernel), List.mem_of_getElem? (i := 278) (by decide +kernel)⟩
theorem lw_p18 : lw_okq (⟨"PagerHouse", "take", "(I)I"⟩, 11) := ⟨⟨by decide +kernel, by decide +kernel⟩, List.mem_of_getElem? (i := 23) (by decide +kernel), List.mem_of_getElem? (i := 297) (by decide +kernel), List.mem_of_getElem? (i := 298) (by decide +kernel)⟩
theorem lw_p19 : lw_okq (⟨"PagerHouse", "secondChance", "(I)I"⟩, 11) := ⟨⟨by decide +kernel, by decide +kernel⟩, List.mem_of_getElem? (i := 23) (by decide +kernel), List.mem_of_getElem? (i := 301) (by decide +kernel), List.mem_of_getElem? (i := 302) (by decide +kernel)⟩
theorem lw_p20 : lw_okq (⟨"PagerHouse", "behind", "(I)I"⟩, 11) := ⟨⟨by decide +kernel, by decide +kernel⟩, List.mem_of_getElem? (i := 23) (by decide +kernel), List.mem_of_getElem? (i := 305) (by decide +kernel), List.mem_of_getElem? (i := 306) (by decide +kernel)⟩
theorem lw_p21 : lw_okq (⟨"PagerHouse", "vacate", "(I)V"⟩, 11) := ⟨⟨by decide +kernel, by decide +kernel⟩, List.mem_of_getElem? (i := 23) (by decide +kernel), List.mem_of_getElem? (i := 309) (by decide +kernel), List.mem_of_getElem? (i := 310) (by decide +kernel)⟩
theorem lw_p22 : lw_okq (⟨"PagerHouse", "bring", "(LPagerHouse$Body;I)V"⟩, 11) := ⟨⟨by decide +kernel, by decide +kernel⟩, List.mem_of_getElem? (i := 23) (by decide +kernel), List.mem_of_getElem? (i := 313) (by decide +kernel), List.mem_of_getElem? (i := 314) (by decide +kernel)⟩
theorem lw_p23 : lw_okq (⟨"PagerHouse", "lay", "(LPagerHouse$Body;I)V"⟩, 11) := ⟨⟨by decide +kernel, by decide +kernel⟩, List.mem_of_getElem? (i := 23) (by decide +kernel), List.mem_of_getElem? (i := 317) (by decide +kernel), List.mem_of_getElem? (i := 318) (by decide +kernel)⟩
theorem lw_p24 : lw_okq (⟨"PagerHouse", "ownBody", "(LPagerHouse$Body;I)LPagerHouse$Body;"⟩, 11) := ⟨⟨by decide +kernel, by decide +kernel⟩, List.mem_of_getElem? (i := 23) (by decide +kernel), List.mem_of_getElem? (i := 331) (by decide +kernel), List.mem_of_getElem? (i := 332) (by decide +kernel)⟩
theorem lw_p25 : lw_okq (⟨"PagerHouse", "newBody", "(II)LPagerHouse$Body;"⟩, 11) := ⟨⟨by decide +kernel, by decide +kernel⟩, List.mem_of_getElem? (i := 23) (by decide +kernel), List.mem_of_getElem? (i := 335) (by decide +kernel), List.mem_of_getElem? (i := 336) (by decide +kernel)⟩
theorem lw_p26 : lw_okq (⟨"PagerHouse$Rows", "zero", "(I)V"⟩, 2) := ⟨⟨by decide +kernel, by decide +kernel⟩, List.mem_of_getElem? (i := 37) (by decide +kernel), List.mem_of_getElem? (i := 364) (by decide +kernel), List.mem_of_getElem? (i := 365) (by decide +kernel)⟩
theorem lw_p27 : lw_okq (⟨"PagerHouse", "copyBody", "(LPagerHouse$Body;I)LPagerHouse$Body;"⟩, 11) := ⟨⟨by decide +kernel, by decide +kernel⟩, List.mem_of_getElem? (i := 23) (by decide +kernel), List.mem_of_getElem? (i := 622) (by decide +kernel), List.mem_of_getElem? (i := 623) (by decide +kernel)⟩
theorem lw_p28 : lw_okq (⟨"PagerHouseModel", "leastProcess", "()I"⟩, 18) := ⟨⟨by decide +kernel, by decide +kernel⟩, List.mem_of_getElem? (i := 634) (by decide +kernel), List.mem_of_getElem? (i := 703) (by decide +kernel), List.mem_of_getElem? (i := 704) (by decide +kernel)⟩
theorem lw_p29 : lw_okq (⟨"PagerHouseModel", "isProcess", "(I)Z"⟩, 18) := ⟨⟨by decide +kernel, by decide +kernel⟩, List.mem_of_getElem? (i := 634) (by decide +kernel), List.mem_of_getElem? (i := 711) (by decide +kernel), List.mem_of_getElem? (i := 712) (by decide +kernel)⟩
theorem lw_p30 : lw_okq (⟨"PagerHouseModel", "leave", "(I)V"⟩, 18) := ⟨⟨by decide +kernel, by decide +kernel⟩, List.mem_of_getElem? (i := 634) (by decide +kernel), List.mem_of_getElem? (i := 719) (by decide +kernel), List.mem_of_getElem? (i := 720) (by decide +kernel)⟩
theorem lw_p31 : lw_okq (⟨"PagerHouseModel", "holders", "(I)I"⟩, 18) := ⟨⟨by decide +kernel, by decide +kernel⟩, List.mem_of_getElem? (i := 634) (by decide +kernel), List.mem_of_getElem? (i := 723) (by decide +kernel), List.mem_of_getElem? (i := 724) (by decide +kernel)⟩
def lw_privs_2 : List (MethodName × Nat) := [(⟨"java/lang/Throwable", "fillInStackTrace", "(I)Ljava/lang/Throwable;"⟩, 6), (⟨"PagerHouse", "checkRoom", "(I)V"⟩, 11), (⟨"PagerHouse", "take", "(I)I"⟩, 11), (⟨"PagerHouse", "secondChance", "(I)I"⟩, 11), (⟨"PagerHouse", "behind", "(I)I"⟩, 11), (⟨"PagerHouse", "vacate", "(I)V"⟩, 11), (⟨"PagerHouse", "bring", "(LPagerHouse$Body;I)V"⟩, 11), (⟨"PagerHouse", "lay", "(LPagerHouse$Body;I)V"⟩, 11), (⟨"PagerHouse", "ownBody", "(LPagerHouse$Body;I)LPagerHouse$Body;"⟩, 11), (⟨"PagerHouse", "newBody", "(II)LPagerHouse$Body;"⟩, 11), (⟨"PagerHouse$Rows", "zero", "(I)V"⟩, 2), (⟨"PagerHouse", "copyBody", "(LPagerHouse$Body;I)LPagerHouse$Body;"⟩, 11), (⟨"PagerHouseModel", "leastProcess", "()I"⟩, 18), (⟨"PagerHouseModel", "isProcess", "(I)Z"⟩, 18), (⟨"PagerHouseModel", "leave", "(I)V"⟩, 18), (⟨"PagerHouseModel", "holders", "(I)I"⟩, 18)]
theorem lw_r2 : ∀ q ∈ lw_privs_2, lw_okq q := List.forall_mem_cons.mpr ⟨lw_p16, List.forall_mem_cons.mpr ⟨lw_p17, List.forall_mem_cons.mpr ⟨lw_p18, List.forall_mem_cons.mpr ⟨lw_p19, List.forall_mem_cons.mpr ⟨lw_p20, List.forall_mem_cons.mpr ⟨lw_p21, List.forall_mem_cons.mpr ⟨lw_p22, List.forall_mem_cons.mpr ⟨lw_p23, List.forall_mem_cons.mpr ⟨lw_p24, List.forall_mem_cons.mpr ⟨lw_p25, List.forall_mem_cons.mpr ⟨lw_p26, List.forall_mem_cons.mpr ⟨lw_p27, List.forall_mem_cons.mpr ⟨lw_p28, List.forall_mem_cons.mpr ⟨lw_p29, List.forall_mem_cons.mpr ⟨lw_p30, List.forall_mem_cons.mpr ⟨lw_p31, fun _ h => absurd h List.not_mem_nil⟩⟩⟩⟩⟩⟩⟩⟩⟩⟩⟩⟩⟩⟩⟩⟩
theorem lw_p32 : lw_okq (⟨"PagerHouseModel", "isPage", "(II)Z"⟩, 18) := ⟨⟨by decide +kernel, by decide +kernel⟩, List.mem_of_getElem? (i := 634) (by decide +kernel), List.mem_of_getElem? (i := 731) (by decide +kernel), List.mem_of_getElem? (i := 732) (by decide +kernel)⟩
theorem lw_p33 : lw_okq (⟨"PagerHouseModel", "fails", "(IIZ)Z"⟩, 18) := ⟨⟨by decide +kernel, by decide +kernel⟩, List.mem_of_getElem? (i := 634) (by decide +kernel), List.mem_of_getElem? (i := 739) (by decide +kernel), List.mem_of_getElem? (i := 740) (by decide +kernel)⟩
theorem lw_p34 : lw_okq (⟨"PagerHouseModel", "freeFrames", "()I"⟩, 18) := ⟨⟨by decide +kernel, by decide +kernel⟩, List.mem_of_getElem? (i := 634) (by decide +kernel), List.mem_of_getElem? (i := 743) (by decide +kernel), List.mem_of_getElem? (i := 744) (by decide +kernel)⟩
theorem lw_p35 : lw_okq (⟨"PagerHouseModel", "bodyIn", "(I)I"⟩, 18) := ⟨⟨by decide +kernel, by decide +kernel⟩, List.mem_of_getElem? (i := 634) (by decide +kernel), List.mem_of_getElem? (i := 747) (by decide +kernel), List.mem_of_getElem? (i := 748) (by decide +kernel)⟩
theorem lw_p36 : lw_okq (⟨"PagerHouseModel", "freeSectors", "()I"⟩, 18) := ⟨⟨by decide +kernel, by decide +kernel⟩, List.mem_of_getElem? (i := 634) (by decide +kernel), List.mem_of_getElem? (i := 751) (by decide +kernel), List.mem_of_getElem? (i := 752) (by decide +kernel)⟩
theorem lw_p37 : lw_okq (⟨"PagerHouseModel", "isSectorFree", "(I)Z"⟩, 18) := ⟨⟨by decide +kernel, by decide +kernel⟩, List.mem_of_getElem? (i := 634) (by decide +kernel), List.mem_of_getElem? (i := 755) (by decide +kernel), List.mem_of_getElem? (i := 756) (by decide +kernel)⟩
theorem lw_p38 : lw_okq (⟨"PagerHouseModel", "bring", "(I)V"⟩, 18) := ⟨⟨by decide +kernel, by decide +kernel⟩, List.mem_of_getElem? (i := 634) (by decide +kernel), List.mem_of_getElem? (i := 759) (by decide +kernel), List.mem_of_getElem? (i := 760) (by decide +kernel)⟩
theorem lw_p39 : lw_okq (⟨"PagerHouseModel", "take", "(I)I"⟩, 18) := ⟨⟨by decide +kernel, by decide +kernel⟩, List.mem_of_getElem? (i := 634) (by decide +kernel), List.mem_of_getElem? (i := 763) (by decide +kernel), List.mem_of_getElem? (i := 764) (by decide +kernel)⟩
theorem lw_p40 : lw_okq (⟨"PagerHouseModel", "store", "(I)V"⟩, 18) := ⟨⟨by decide +kernel, by decide +kernel⟩, List.mem_of_getElem? (i := 634) (by decide +kernel), List.mem_of_getElem? (i := 767) (by decide +kernel), List.mem_of_getElem? (i := 768) (by decide +kernel)⟩
theorem lw_p41 : lw_okq (⟨"PagerHouseModel", "newBody", "(I)I"⟩, 18) := ⟨⟨by decide +kernel, by decide +kernel⟩, List.mem_of_getElem? (i := 634) (by decide +kernel), List.mem_of_getElem? (i := 775) (by decide +kernel), List.mem_of_getElem? (i := 776) (by decide +kernel)⟩
def lw_privs_3 : List (MethodName × Nat) := [(⟨"PagerHouseModel", "isPage", "(II)Z"⟩, 18), (⟨"PagerHouseModel", "fails", "(IIZ)Z"⟩, 18), (⟨"PagerHouseModel", "freeFrames", "()I"⟩, 18), (⟨"PagerHouseModel", "bodyIn", "(I)I"⟩, 18), (⟨"PagerHouseModel", "freeSectors", "()I"⟩, 18), (⟨"PagerHouseModel", "isSectorFree", "(I)Z"⟩, 18), (⟨"PagerHouseModel", "bring", "(I)V"⟩, 18), (⟨"PagerHouseModel", "take", "(I)I"⟩, 18), (⟨"PagerHouseModel", "store", "(I)V"⟩, 18), (⟨"PagerHouseModel", "newBody", "(I)I"⟩, 18)]
theorem lw_r3 : ∀ q ∈ lw_privs_3, lw_okq q := List.forall_mem_cons.mpr ⟨lw_p32, List.forall_mem_cons.mpr ⟨lw_p33, List.forall_mem_cons.mpr ⟨lw_p34, List.forall_mem_cons.mpr ⟨lw_p35, List.forall_mem_cons.mpr ⟨lw_p36, List.forall_mem_cons.mpr ⟨lw_p37, List.forall_mem_cons.mpr ⟨lw_p38, List.forall_mem_cons.mpr ⟨lw_p39, List.forall_mem_cons.mpr ⟨lw_p40, List.forall_mem_cons.mpr ⟨lw_p41, fun _ h => absurd h List.not_mem_nil⟩⟩⟩⟩⟩⟩⟩⟩⟩⟩
def lw_privs : List (MethodName × Nat) := lw_privs_1 ++ (lw_privs_2 ++ (lw_privs_3))
def lw_tbl : List Cond := k2_sels lw_privs ++ tables_1
theorem lw_privs_ok : ∀ q ∈ lw_privs, lw_okq q := by
  show ∀ q ∈ lw_privs_1 ++ (lw_privs_2 ++ (lw_privs_3)), lw_okq q
  exact List.forall_mem_append.mpr ⟨lw_r1, List.forall_mem_append.mpr ⟨lw_r2, lw_r3⟩⟩
/-! ===== BEGIN words of one list among another's, by their places ===== -/
theorem goodIn_r {big : List Cond} (ws : List Cond) (ps : List Nat) (hp : ws = ps.filterMap (fun i => big[i]?)) (h : ws.all goodWord = true) : GoodIn big ws := by
  intro w hw
  have h1 := List.all_eq_true.mp h w hw
  rw [hp] at hw
  obtain ⟨i, -, hi⟩ := List.mem_filterMap.mp hw
  have hm : w ∈ big := by first | exact List.mem_of_getElem? hi | exact List.getElem?_mem hi
  exact ⟨hm, good_of_word h1⟩
theorem goodIn_app {big a b : List Cond} (ha : GoodIn big a) (hb : GoodIn big b) : GoodIn big (a ++ b) := fun w h => (List.mem_append.mp h).elim (ha w) (hb w)
theorem goodIn_ca {big a b : List Cond} {c : Cond} (ha : GoodIn big (c :: a)) (hb : GoodIn big b) : GoodIn big (c :: (a ++ b)) := fun w h => (List.mem_cons.mp h).elim (fun e => ha w (List.mem_cons.mpr (Or.inl e))) (fun h => (List.mem_append.mp h).elim (fun h => ha w (List.mem_cons.mpr (Or.inr h))) (hb w))
theorem goodIn_sub {big ws : List Cond} (hm : ∀ w ∈ ws, w ∈ big) (h : ws.all goodWord = true) : GoodIn big ws := fun w hw => ⟨hm w hw, good_of_word (List.all_eq_true.mp h w hw)⟩
/-! ===== END ===== -/

/-! ===== BEGIN exceptions that leave a method, and their catching by the caller (launches without stack traces) ===== -/
section VXA
/-! The laws vx_back, vx_callV, vx_callS, vx_callSW, vx_throw0, vx_throwS follow proofs of the library, with one case more: JvmDerived/Free/Laws.lean (Back.of_free), Shelf42/LK1.lean (callV, callS), Shelf/KitTraced.lean (throwNew0V, throwNewS). -/
/-- where a method has thrown q: the class by its name, the cell, what was written, the world -/
def vx_T (XC : String → State → State → Prop) (st : State) (q : Addr) (t : State) (mc ms : Nat) (free : Addr → Prop) : Prop :=
  ∃ (E : String) (ce : Cell) (L : List Loc), XC E st t ∧ t.heap[q]? = some ce ∧ ce.vm = .none ∧ st.vm.findClass E = some ce.cls ∧ st.WarmedH t.vm ∧ st.sameButNew ({ t with vm := st.vm } : State) L mc ms ∧ ∀ z ∈ L, free z.base
def vx_Q (Qc : Array Value → State → Outcome → State → Prop) (XC : String → State → State → Prop) (mc ms : Nat) (free : Addr → Prop) : Array Value → State → Outcome → State → Prop := fun a st o t =>
  (Qc a st o t ∧ ∃ L, FrameEnd st o t L mc ms ∧ ∀ q ∈ L, free q.base) ∨ ∃ q, o = .threw q ∧ vx_T XC st q t mc ms free
/-- a callee that returns or throws -/
def vx_Met (l : Launch) (y : MethodName) (ws : List Cond) (rm : Room) (Pc : Array Value → State → Prop) (Qc : Array Value → State → Outcome → State → Prop) (XC : String → State → State → Prop) (mc ms : Nat) (free : Addr → Prop) : Prop :=
  MetFree l y (headSpec ws rm) Pc (fun _ _ _ _ _ => True) (vx_Q Qc XC mc ms free)
def vx_Post (XC : String → State → State → Prop) (mc ms : Nat) (free : Addr → Prop) : Pt → Array Value → Addr → Pt → Prop := fun A a q B =>
  ∃ (g : JFrame) (mk : MethodId) (t : State) (L : List Loc) (E : String) (ce : Cell), B.U.heap = t.heap ∧ B.U.vm = t.vm ∧ XC E (A.U.calling g mk a) t ∧ t.heap[q]? = some ce ∧ ce.vm = .none ∧ A.U.vm.findClass E = some ce.cls ∧ B.locs = A.locs ++ L ∧ (∀ z ∈ L, free z.base) ∧ B.cells = A.cells + mc ∧ B.slots = A.slots + ms
def vx_Back (l : Launch) (R : Room) (p : Program) (e : Env) (below : List Frame) (s : State) (sargs : Array Value) (y : MethodName) (len W9 : Nat)
    (Pre : Pt → Array Value → Prop) (Post : Pt → Array Value → Option Value → Pt → Prop) (PostX : Pt → Array Value → Addr → Pt → Prop) : Prop :=
  ∀ (m : MethodId) (meth : Method) (c : Code) (A : Pt) (g : JFrame) (ig : Instr) (mk : MethodId) (a : Array Value),
    Stand p l e R s m sargs below meth c A.U A.locs A.cells A.slots → g.method = m → g.locals.size = c.maxLocals → decode c.code g.pc = .ok (ig, len) →
    2 * g.monitorRoom + (g.stack.map fun v => v.category).sum ≤ W9 → A.U.methodNamed? y = some mk → Pre A a →
    (∃ (v : Option Value) (B : Pt), Stand p l e R s m sargs below meth c B.U B.locs B.cells B.slots ∧ Post A a v B ∧
      Steps p.tables e below (doInvoke e (A.U.setTop g) [] mk a).1 (B.U.setTop { g with pc := g.pc + len, stack := v.toList ++ g.stack })) ∨
    (∃ (q : Addr) (B : Pt), Stand p l e R s m sargs below meth c B.U B.locs B.cells B.slots ∧ PostX A a q B ∧
      Steps p.tables e below (doInvoke e (A.U.setTop g) [] mk a).1 ((B.U.setTop g).pushFrame (.throwing q)))
section Payer
variable {l : Launch} {R : Room} {p : Program} {e : Env} {below : List Frame} {s : State} {sargs : Array Value} {y : MethodName} {len W9 : Nat}
theorem vx_back {ws : List Cond} {rm : Room} {Pc : Array Value → State → Prop} {Qc : Array Value → State → Outcome → State → Prop} {XC : String → State → State → Prop} {mc ms : Nat} {free : Addr → Prop} {bytes : ByteArray} {maxL : Nat} {ret : Option FieldType}
    (hM : vx_Met l y ws rm Pc Qc XC mc ms free) (hblind : FrameBlind Pc) (hrc : rm.cells = mc) (hrs : rm.slots = ms)
    (hframes : rm.frames + 1 ≤ R.frames) (hlocals : W9 + (maxL + 11) + rm.locals ≤ R.locals)
    (hws : ∀ w ∈ ws, ∀ a' U, s.WarmedH U.vm → w.before a' U = true) (hcode : Cond.code y bytes maxL ret ∈ ws) (hinit : ∀ a' U, s.WarmedH U.vm → (Cond.initialized y.cls).before a' U = true) :
    vx_Back l R p e below s sargs y len W9 (PreOf R mc ms Pc) (PostOf Qc mc ms free) (vx_Post XC mc ms free) := by
  intro m meth c A g ig mk a X hg hsize hdg hW hn hp
  have h1 : (headSpec ws rm).pre.before a A.U = true := atoms_intro fun w hw => hws w hw _ _ X.warmed
  have h2 : (Cond.code y bytes maxL ret).before a A.U = true := hws _ hcode _ _ X.warmed
  have h3 : (Cond.initialized y.cls).before a A.U = true := hinit _ _ X.warmed
  have h4 : A.cells + (headSpec ws rm).room.cells ≤ R.cells := by rw [show (headSpec ws rm).room.cells = mc from hrc]; exact hp.1
  have h5 : A.slots + (headSpec ws rm).room.slots ≤ R.slots := by rw [show (headSpec ws rm).room.slots = ms from hrs]; exact hp.2.1
  have hPc : Pc a (A.U.calling g mk a) := hblind _ _ _ _ hp.2.2
  obtain ⟨U, Ls, c0, s0⟩ := A
  dsimp only [Pt.U, Pt.locs, Pt.cells, Pt.slots] at h1 h2 h3 h4 h5 X hn hPc ⊢
  obtain ⟨methY, cY, hmY, hcY, -, hlY, -, -, -, -⟩ := Cond.code_spec hn h2
  obtain ⟨kY, hkY, -⟩ := className_of_methodNamed hn
  have hinitY : kY.init = .initialized := Cond.initialized_spec (findClass_of_methodNamed hn) hkY h3
  have h : At U g.method c below := by rw [hg]; exact X.here
  have hlocals9 : W9 + (maxL + 11) + (headSpec ws rm).room.locals ≤ R.locals := hlocals
  have happ : (headSpec ws rm).appliesLoose y e.platform (U.calling g mk a) = true :=
    Spec.appliesLoose_calling (g := g) h hdg hn hkY hinitY
      (X.room_calling (g := g) (R' := (headSpec ws rm).room) hsize hmY hcY hframes (by rw [hlY]; omega) h4 h5) h1
  obtain ⟨mid, hmid⟩ := h.above
  have hfr : (U.setTop g).frames = (.java g :: mid) ++ below := by rw [State.frames_setTop' g h.top, hmid]; rfl
  obtain ⟨o, s₂, hsteps, -, hend, hq⟩ := Steps.callFree hM p X.admits X.cas X.clock (acts := []) hfr happ hPc trivial
  have hq' : vx_Q Qc XC mc ms free a (U.calling g mk a) o s₂ := hq
  rw [State.frames_setTop' g h.top] at hend
  obtain ⟨g₀, hg0⟩ := Option.isSome_iff_exists.mp h.top
  obtain ⟨r, hr⟩ := State.topJava?_eq_some.mp hg0
  have hr' : (({ U with heap := s₂.heap, slotsUsed := s₂.slotsUsed } : State).setVm s₂.vm).frames = .java g₀ :: r := hr
  rcases hq' with ⟨hqc, L, hfe, hL⟩ | ⟨q, rfl, E, ce, L, hx, hce, hcv, hcl, hW₂, hsm, hL⟩
  · obtain ⟨⟨v, rfl⟩, hW₂, e2, q2, q3, q4, q5, q6⟩ := id hfe
    have e3 : s₂ = ({ (U.calling g mk a).setFrames s₂.frames with heap := s₂.heap, slotsUsed := s₂.slotsUsed } : State).setVm s₂.vm := by
      have : s₂ = ({ s₂ with vm := (U.calling g mk a).vm } : State).setVm s₂.vm := rfl
      rw [e2] at this
      exact this
    obtain ⟨c₂, i₂, len₂, hc₂, hd₂, hf₂⟩ := hend
    have hW' : U.WarmedH s₂.vm := hW₂
    have hcc : c₂ = c := by
      have h1 : s₂.code? g.method = U.code? g.method := by
        rw [State.code?_eq, State.code?_eq, hW'.alike.method?]
      exact Option.some.inj (hc₂.symm.trans (h1.trans h.code))
    subst hcc
    have hlen : len₂ = len := by rw [hdg] at hd₂; cases hd₂; rfl
    subst hlen
    have hs₂ : s₂ = (({ U with heap := s₂.heap, slotsUsed := s₂.slotsUsed } : State).setVm s₂.vm).setTop { g with pc := g.pc + len₂, stack := v.toList ++ g.stack } := by
      refine e3.trans ?_
      rw [hf₂, State.calling_eq h.top, State.setFrames_setFrames, State.setTop_of_frames _ hr', hr]
      rfl
    have hsame : U.sameButNew ({ U with heap := s₂.heap, slotsUsed := s₂.slotsUsed } : State) L mc ms := by
      refine ⟨?_, q2, q3, q4, q5, q6⟩
      obtain ⟨t, ht, -⟩ := State.frames_cons hr
      show ({ U with heap := s₂.heap, slotsUsed := s₂.slotsUsed } : State) = { U.setFrames U.frames with heap := s₂.heap, slotsUsed := s₂.slotsUsed }
      rw [State.setFrames_self ht]
    subst hg
    refine Or.inl ⟨v, ⟨(({ U with heap := s₂.heap, slotsUsed := s₂.slotsUsed } : State).setVm s₂.vm), Ls ++ L, c0 + mc, s0 + ms⟩,
      ⟨X.admits, X.cas, X.clock, X.frames, X.room, X.hears, X.method, X.code, (X.here.setHeapUsed s₂.heap s₂.slotsUsed).setVm hW'.alike, X.tail, State.WarmedH.trans X.warmed hW', X.limits, X.bytes, X.same.trans (hsame.setVm s.vm)⟩,
      ⟨g, mk, s₂, L, rfl, rfl, hqc, rfl, hL, rfl, rfl⟩, ?_⟩
    show Steps p.tables e below _ ((({ U with heap := s₂.heap, slotsUsed := s₂.slotsUsed } : State).setVm s₂.vm).setTop { g with pc := g.pc + len₂, stack := v.toList ++ g.stack })
    rw [← hs₂]
    exact hsteps
  · obtain ⟨e2, q2, q3, q4, q5, q6⟩ := id hsm
    have e3 : s₂ = ({ (U.calling g mk a).setFrames s₂.frames with heap := s₂.heap, slotsUsed := s₂.slotsUsed } : State).setVm s₂.vm := by
      have : s₂ = ({ s₂ with vm := (U.calling g mk a).vm } : State).setVm s₂.vm := rfl
      rw [e2] at this
      exact this
    have hf₂ : s₂.frames = .throwing q :: .java g :: U.frames.tail := hend
    have hW' : U.WarmedH s₂.vm := hW₂
    have hs₂ : s₂ = ((({ U with heap := s₂.heap, slotsUsed := s₂.slotsUsed } : State).setVm s₂.vm).setTop g).pushFrame (.throwing q) := by
      refine e3.trans ?_
      rw [hf₂, State.calling_eq h.top, State.setFrames_setFrames, State.pushFrame, State.frames_setTop _ hr', State.setTop_of_frames _ hr', State.setFrames_setFrames, hr]
      rfl
    have hsame : U.sameButNew ({ U with heap := s₂.heap, slotsUsed := s₂.slotsUsed } : State) L mc ms := by
      refine ⟨?_, q2, q3, q4, q5, q6⟩
      obtain ⟨t, ht, -⟩ := State.frames_cons hr
      show ({ U with heap := s₂.heap, slotsUsed := s₂.slotsUsed } : State) = { U.setFrames U.frames with heap := s₂.heap, slotsUsed := s₂.slotsUsed }
      rw [State.setFrames_self ht]
    subst hg
    refine Or.inr ⟨q, ⟨(({ U with heap := s₂.heap, slotsUsed := s₂.slotsUsed } : State).setVm s₂.vm), Ls ++ L, c0 + mc, s0 + ms⟩,
      ⟨X.admits, X.cas, X.clock, X.frames, X.room, X.hears, X.method, X.code, (X.here.setHeapUsed s₂.heap s₂.slotsUsed).setVm hW'.alike, X.tail, State.WarmedH.trans X.warmed hW', X.limits, X.bytes, X.same.trans (hsame.setVm s.vm)⟩,
      ⟨g, mk, s₂, L, E, ce, rfl, rfl, hx, hce, hcv, hcl, rfl, hL, rfl, rfl⟩, ?_⟩
    show Steps p.tables e below _ (((({ U with heap := s₂.heap, slotsUsed := s₂.slotsUsed } : State).setVm s₂.vm).setTop g).pushFrame (.throwing q))
    rw [← hs₂]
    exact hsteps
end Payer
section Calls
variable {p : Program} {l : Launch} {e : Env} {R : Room} {s : State} {m : MethodId} {args : Array Value} {below : List Frame} {meth : Method} {c : Code} {T : State} {locs : List Loc} {cells slots : Nat}
theorem vx_callV (X : Stand p l e R s m args below meth c T locs cells slots) (hexec : p.tables.exec = Jvm.exec) {own C : String} {index : Nat} {y : MethodName} {bytes : ByteArray} {maxL : Nat} {ret : Option FieldType}
    (hown : s.vm.findClass own = some m.cls) (hlink : (Cond.methodLink own index y).before args s = true) (hinst : (Cond.instanceMethod y).before args s = true) (hsel : (Cond.selects C y y).before args s = true)
    (hcode : (Cond.code y bytes maxL ret).before args s = true) (hy : y.cls ≠ "java/lang/invoke/MethodHandle" ∧ y.cls ≠ "java/lang/invoke/VarHandle")
    {W9 : Nat} {Pre : Pt → Array Value → Prop} {Post : Pt → Array Value → Option Value → Pt → Prop} {PostX : Pt → Array Value → Addr → Pt → Prop} (hK : vx_Back l R p e below s args y 3 W9 Pre Post PostX)
    {b : Addr} {cellB : Cell} (hcell : T.heap[b]? = some cellB) (hobj : cellB.vm.isStatics = false) (hcls : s.vm.findClass C = some cellB.cls)
    {g : JFrame} (hg : g.method = m) (hsize : g.locals.size = c.maxLocals) {argsL rest : List Value} (hlen : ∀ sig, parseMethodDescriptor y.desc = some sig → argsL.length = sig.parameters.length)
    (hstack : g.stack = argsL.reverse ++ .ref b :: rest) (hW : 2 * g.monitorRoom + (rest.map fun v => v.category).sum ≤ W9) (hdg : decode c.code g.pc = .ok (.invokevirtual index, 3))
    (hpre : ∀ vm₁, s.WarmedH vm₁ → Pre ⟨T.setVm vm₁, locs, cells, slots⟩ (Value.ref b :: argsL).toArray) :
    (∃ (v : Option Value) (vm₁ : Vm) (B : Pt), s.WarmedH vm₁ ∧ Stand p l e R s m args below meth c B.U B.locs B.cells B.slots ∧ Post ⟨T.setVm vm₁, locs, cells, slots⟩ (Value.ref b :: argsL).toArray v B ∧
      ∀ target, Steps p.tables e below (B.U.setTop { g with pc := g.pc + 3, stack := v.toList ++ rest }) target → Steps p.tables e below (T.setTop g) target) ∨
    (∃ (q : Addr) (vm₁ : Vm) (B : Pt), s.WarmedH vm₁ ∧ Stand p l e R s m args below meth c B.U B.locs B.cells B.slots ∧ PostX ⟨T.setVm vm₁, locs, cells, slots⟩ (Value.ref b :: argsL).toArray q B ∧
      Steps p.tables e below (T.setTop g) ((B.U.setTop { g with stack := rest }).pushFrame (.throwing q))) := by
  obtain ⟨mk, methM, hnamed, hmethM, hstM, habM⟩ := Cond.instanceMethod_spec hinst
  obtain ⟨methM', cM, hmethM', -, -, -, -, -, -, hsigM⟩ := Cond.code_spec hnamed hcode
  cases hmethM.symm.trans hmethM'
  obtain ⟨c2, r2, m2, q1, q2, q3, q4, kP, hkP, hkPi⟩ := Cond.selects_spec hsel
  cases hcls.symm.trans q1
  cases (State.methodFound?_of_named hnamed hy).symm.trans q2
  cases hnamed.symm.trans q3
  have hselP : selectMethod e.platform s.vm cellB.cls mk = .method mk := by rw [Launch.admits_selectMethod X.admits]; exact q4
  obtain ⟨vm₁, X₁, hstep₁⟩ := X.invokevirtual hexec hown hlink hnamed hmethM hstM hkP hkPi hy (a := b) (cell := cellB) hcell
    (fun z h => by rw [h] at hobj; cases hobj) hselP hmethM habM hkP hkPi (g := g) hg (argsL := argsL) (rest := rest) (hlen _ hsigM) hstack hdg
  rcases hK m meth c ⟨T.setVm vm₁, locs, cells, slots⟩ { g with stack := rest } (.invokevirtual index) mk (Value.ref b :: argsL).toArray X₁ hg hsize hdg hW (X₁.named hnamed) (hpre vm₁ X₁.warmed) with ⟨v, B, X', hpost, hsteps⟩ | ⟨q, B, X', hpost, hsteps⟩
  · exact Or.inl ⟨v, vm₁, B, X₁.warmed, X', hpost, fun target h => hstep₁ _ fun acts => by rw [doInvoke_state]; exact hsteps.trans h⟩
  · exact Or.inr ⟨q, vm₁, B, X₁.warmed, X', hpost, hstep₁ _ fun acts => by rw [doInvoke_state]; exact hsteps⟩
theorem vx_callS (X : Stand p l e R s m args below meth c T locs cells slots) (hexec : p.tables.exec = Jvm.exec) {own : String} {index : Nat} {y : MethodName} {bytes : ByteArray} {maxL : Nat} {ret : Option FieldType}
    (hown : s.vm.findClass own = some m.cls) (hlink : (Cond.methodLink own index y).before args s = true) (hstat : (Cond.static y).before args s = true) (hinit : (Cond.initialized y.cls).before args s = true)
    (hcode : (Cond.code y bytes maxL ret).before args s = true) (hy : y.cls ≠ "java/lang/invoke/MethodHandle" ∧ y.cls ≠ "java/lang/invoke/VarHandle")
    {W9 : Nat} {Pre : Pt → Array Value → Prop} {Post : Pt → Array Value → Option Value → Pt → Prop} {PostX : Pt → Array Value → Addr → Pt → Prop} (hK : vx_Back l R p e below s args y 3 W9 Pre Post PostX)
    {g : JFrame} (hg : g.method = m) (hsize : g.locals.size = c.maxLocals) {argsL rest : List Value} (hlen : ∀ sig, parseMethodDescriptor y.desc = some sig → argsL.length = sig.parameters.length)
    (hstack : g.stack = argsL.reverse ++ rest) (hW : 2 * g.monitorRoom + (rest.map fun v => v.category).sum ≤ W9) (hdg : decode c.code g.pc = .ok (.invokestatic index, 3))
    (hpre : ∀ vm₁, s.WarmedH vm₁ → Pre ⟨T.setVm vm₁, locs, cells, slots⟩ argsL.toArray) :
    (∃ (v : Option Value) (vm₁ : Vm) (B : Pt), s.WarmedH vm₁ ∧ Stand p l e R s m args below meth c B.U B.locs B.cells B.slots ∧ Post ⟨T.setVm vm₁, locs, cells, slots⟩ argsL.toArray v B ∧
      ∀ target, Steps p.tables e below (B.U.setTop { g with pc := g.pc + 3, stack := v.toList ++ rest }) target → Steps p.tables e below (T.setTop g) target) ∨
    (∃ (q : Addr) (vm₁ : Vm) (B : Pt), s.WarmedH vm₁ ∧ Stand p l e R s m args below meth c B.U B.locs B.cells B.slots ∧ PostX ⟨T.setVm vm₁, locs, cells, slots⟩ argsL.toArray q B ∧
      Steps p.tables e below (T.setTop g) ((B.U.setTop { g with stack := rest }).pushFrame (.throwing q))) := by
  obtain ⟨mk, hnamed⟩ := Cond.code_named hcode
  obtain ⟨methM, cM, hmethM, -, -, -, -, -, -, hsigM⟩ := Cond.code_spec hnamed hcode
  have hstatic : methM.isStatic = true := Cond.static_spec hnamed hmethM hstat
  obtain ⟨kP, hkP, -⟩ := className_of_methodNamed hnamed
  have hinitP : kP.init = .initialized := Cond.initialized_spec (findClass_of_methodNamed hnamed) hkP hinit
  obtain ⟨vm₁, X₁, hstep₁⟩ := X.invokestatic hexec hown hlink hnamed hmethM hstatic hkP hinitP hy (g := g) hg (argsL := argsL) (rest := rest) (hlen _ hsigM) hstack hdg
  rcases hK m meth c ⟨T.setVm vm₁, locs, cells, slots⟩ { g with stack := rest } (.invokestatic index) mk argsL.toArray X₁ hg hsize hdg hW (X₁.named hnamed) (hpre vm₁ X₁.warmed) with ⟨v, B, X', hpost, hsteps⟩ | ⟨q, B, X', hpost, hsteps⟩
  · exact Or.inl ⟨v, vm₁, B, X₁.warmed, X', hpost, fun target h => hstep₁ _ fun acts => by rw [doInvoke_state]; exact hsteps.trans h⟩
  · exact Or.inr ⟨q, vm₁, B, X₁.warmed, X', hpost, hstep₁ _ fun acts => by rw [doInvoke_state]; exact hsteps⟩
end Calls
theorem vx_cls {s : State} {T : State} {vm₁ : Vm} {E : String} {k : ClassId} (hW : s.WarmedH vm₁) (h : (T.setVm vm₁).vm.findClass E = some k) : s.vm.findClass E = some k := by
  have h1 : vm₁.findClass E = some k := h
  rw [hW.alike.findClass] at h1
  exact h1
/-- the method's frame g, with q thrown over it -/
def vx_W (p : Program) (l : Launch) (e : Env) (R : Room) (s : State) (m : MethodId) (args : Array Value) (below : List Frame) (meth : Method) (c : Code) (H : Heap) (locs : List Loc) (cells slots : Nat) (Q : State → Prop) (g : JFrame) (q : Addr) : Prop :=
  ∀ T : State, T.heap = H → Stand p l e R s m args below meth c T locs cells slots → ∃ t, Steps p.tables e below ((T.setTop g).pushFrame (.throwing q)) t ∧ Q t
def vx_Run (p : Program) (l : Launch) (e : Env) (R : Room) (s : State) (m : MethodId) (args : Array Value) (below : List Frame) (meth : Method) (c : Code) (H : Heap) (locs : List Loc) (cells slots mc ms : Nat) (g : JFrame) (rest : List Value) (Qa : State → Outcome → State → Prop) (XC : String → State → State → Prop) (free : Addr → Prop) : Prop :=
  ∀ T : State, T.heap = H → Stand p l e R s m args below meth c T locs cells slots →
    (∃ (v : Option Value) (st₀ t T' : State) (L : List Loc), st₀.heap = H ∧ Stand p l e R s m args below meth c T' (locs ++ L) (cells + mc) (slots + ms) ∧ (∀ q ∈ L, free q.base) ∧ T'.heap = t.heap ∧ T'.vm = t.vm ∧ Qa st₀ (.returned v) t ∧
      Goes p e below T g T' { g with pc := g.pc + 3, stack := v.toList ++ rest }) ∨
    (∃ (q : Addr) (st₀ t T' : State) (L : List Loc) (E : String) (ce : Cell), st₀.heap = H ∧ Stand p l e R s m args below meth c T' (locs ++ L) (cells + mc) (slots + ms) ∧ (∀ z ∈ L, free z.base) ∧ T'.heap = t.heap ∧ T'.vm = t.vm ∧ XC E st₀ t ∧ t.heap[q]? = some ce ∧ ce.vm = .none ∧ s.vm.findClass E = some ce.cls ∧
      Steps p.tables e below (T.setTop g) ((T'.setTop { g with stack := rest }).pushFrame (.throwing q)))
def vx_X {S : Type} (px : S → Prop) (B : String → S → State → Prop) (A : Nat → Prop) : String → State → State → Prop := fun E st t => ∃ u : S, px u ∧ B E u t ∧ va_F A st t
section Runs
variable {p : Program} {l : Launch} {e : Env} {R : Room} {s : State} {m : MethodId} {args : Array Value} {below : List Frame} {meth : Method} {c : Code} {H : Heap} {locs : List Loc} {cells slots : Nat}
variable {y : MethodName} {bytes cc : ByteArray} {maxL nL mc ms n index : Nat} {ret : Option FieldType} {ws : List Cond} {rm : Room} {Pc : Array Value → State → Prop} {Qc : Array Value → State → Outcome → State → Prop} {XC : String → State → State → Prop} {free : Addr → Prop} {Ts : List Cond} {own C : String} {b : Addr} {As rest : List Value} {g : JFrame}
theorem vx_callBack (cb : CallB R s args own index y bytes maxL ret ws rm mc ms n) (hM : vx_Met l y ws rm Pc Qc XC mc ms free) (hbl : FrameBlind Pc) : vx_Back l R p e below s args y 3 8 (PreOf R mc ms Pc) (PostOf Qc mc ms free) (vx_Post XC mc ms free) := by
  obtain ⟨hrc, hrs, hfr, hlo, hws, hcw, -, hini, -⟩ := cb
  exact vx_back (bytes := bytes) (maxL := maxL) (ret := ret) hM hbl hrc hrs hfr hlo hws hcw (fun a' U hW => word_at hW (Or.inl (by first | rfl | simp [Cond.onTables, Cond.keeps, Cond.steady])) hini)
theorem vx_runV (S : CallFix p m c cc nL s args Ts own) (hM : vx_Met l y ws rm Pc Qc XC mc ms free) (cw : CallW R s args own C index y bytes maxL ret ws rm mc ms n) (hp : PreV s H C b Pc As)
    (hg : g.method = m) (hn : As.length = n) (hsize : g.locals.size = nL) (hstack : g.stack = As.reverse ++ .ref b :: rest) (hW : 2 * g.monitorRoom + (rest.map fun v => v.category).sum ≤ 8) (hdg : decode cc g.pc = .ok (.invokevirtual index, 3)) (hf : cells + mc ≤ R.cells ∧ slots + ms ≤ R.slots) :
    vx_Run p l e R s m args below meth c H locs cells slots mc ms g rest (Qc (Value.ref b :: As).toArray) XC free := by
  have hK : vx_Back l R p e below s args y 3 8 (PreOf R mc ms Pc) (PostOf Qc mc ms free) (vx_Post XC mc ms free) := vx_callBack cw.1 hM hp.1
  obtain ⟨⟨-, -, -, -, -, -, hcode, -, hy, hlen, hl⟩, hin, hse⟩ := cw
  obtain ⟨hx, hb, hml, ho, -⟩ := S
  obtain ⟨-, ⟨cellB, hcB, hoB, hclB⟩, hPc⟩ := hp
  intro T hT X
  rcases vx_callV X hx (C := C) (bytes := bytes) (maxL := maxL) (ret := ret) ho hl hin hse hcode hy hK (by rw [hT]; exact hcB) hoB hclB hg (hsize.trans hml.symm) (argsL := As) (rest := rest) (fun sig h => hn.trans (hlen sig h)) hstack hW (by rw [hb]; exact hdg)
    (fun vm₁ hW₁ => ⟨hf.1, hf.2, hPc (T.setVm vm₁) hT hW₁⟩) with ⟨v, vm₁, ⟨U', l2, c2, s2⟩, hW₁, X', ⟨g', mk, t, L, e1, e2, hq, h1, hL, h2, h3⟩, st⟩ | ⟨q, vm₁, ⟨U', l2, c2, s2⟩, hW₁, X', ⟨g', mk, t, L, E, ce, e1, e2, hq, hce, hcv, hcl, h1, hL, h2, h3⟩, st⟩
  · dsimp only [Pt.U, Pt.locs, Pt.cells, Pt.slots] at X' e1 e2 h1 h2 h3 st
    subst h1; subst h2; subst h3
    exact Or.inl ⟨v, (T.setVm vm₁).calling g' mk (Value.ref b :: As).toArray, t, U', L, hT, X', hL, e1, e2, hq, st⟩
  · dsimp only [Pt.U, Pt.locs, Pt.cells, Pt.slots] at X' e1 e2 h1 h2 h3 st hcl
    subst h1; subst h2; subst h3
    exact Or.inr ⟨q, (T.setVm vm₁).calling g' mk (Value.ref b :: As).toArray, t, U', L, E, ce, hT, X', hL, e1, e2, hq, hce, hcv, vx_cls hW₁ hcl, st⟩
theorem vx_runS (S : CallFix p m c cc nL s args Ts own) (hM : vx_Met l y ws rm Pc Qc XC mc ms free) (cw : CallB R s args own index y bytes maxL ret ws rm mc ms n ∧ (Cond.static y).before args s = true) (hp : PreS s H Pc As)
    (hg : g.method = m) (hn : As.length = n) (hsize : g.locals.size = nL) (hstack : g.stack = As.reverse ++ rest) (hW : 2 * g.monitorRoom + (rest.map fun v => v.category).sum ≤ 8) (hdg : decode cc g.pc = .ok (.invokestatic index, 3)) (hf : cells + mc ≤ R.cells ∧ slots + ms ≤ R.slots) :
    vx_Run p l e R s m args below meth c H locs cells slots mc ms g rest (Qc As.toArray) XC free := by
  have hK : vx_Back l R p e below s args y 3 8 (PreOf R mc ms Pc) (PostOf Qc mc ms free) (vx_Post XC mc ms free) := vx_callBack cw.1 hM hp.1
  obtain ⟨⟨-, -, -, -, -, -, hcode, hini, hy, hlen, hl⟩, hstt⟩ := cw
  obtain ⟨hx, hb, hml, ho, -⟩ := S
  intro T hT X
  rcases vx_callS X hx (bytes := bytes) (maxL := maxL) (ret := ret) ho hl hstt hini hcode hy hK hg (hsize.trans hml.symm) (argsL := As) (rest := rest) (fun sig h => hn.trans (hlen sig h)) hstack hW (by rw [hb]; exact hdg)
    (fun vm₁ hW₁ => ⟨hf.1, hf.2, hp.2 (T.setVm vm₁) hT hW₁⟩) with ⟨v, vm₁, ⟨U', l2, c2, s2⟩, hW₁, X', ⟨g', mk, t, L, e1, e2, hq, h1, hL, h2, h3⟩, st⟩ | ⟨q, vm₁, ⟨U', l2, c2, s2⟩, hW₁, X', ⟨g', mk, t, L, E, ce, e1, e2, hq, hce, hcv, hcl, h1, hL, h2, h3⟩, st⟩
  · dsimp only [Pt.U, Pt.locs, Pt.cells, Pt.slots] at X' e1 e2 h1 h2 h3 st
    subst h1; subst h2; subst h3
    exact Or.inl ⟨v, (T.setVm vm₁).calling g' mk As.toArray, t, U', L, hT, X', hL, e1, e2, hq, st⟩
  · dsimp only [Pt.U, Pt.locs, Pt.cells, Pt.slots] at X' e1 e2 h1 h2 h3 st hcl
    subst h1; subst h2; subst h3
    exact Or.inr ⟨q, (T.setVm vm₁).calling g' mk As.toArray, t, U', L, E, ce, hT, X', hL, e1, e2, hq, hce, hcv, vx_cls hW₁ hcl, st⟩
end Runs
section Rows
variable {p : Program} {l : Launch} {e : Env} {R : Room} {s : State} {m : MethodId} {args : Array Value} {below : List Frame} {meth : Method} {c : Code} {H : Heap} {locs : List Loc} {cells slots : Nat} {Q : State → Prop}
variable {mc ms : Nat} {free : Addr → Prop} {A0 A1 : Nat → Prop} {H0 : Heap} {a : Array Value} {pc : Nat} {ls : Array Slot} {st0 rest : List Value}
theorem vx_keep {st₀ t T' : State} {L : List Loc} (h0 : st₀.heap = H) (e1 : T'.heap = t.heap) (hS : va_S A0 H0 H locs) (hA : ∀ q, q < H.size → A1 q → A0 q) (hf : ∀ q, free q → A0 q) (hL : ∀ q ∈ L, free q.base) (hF : va_F A1 st₀ t) :
    H.size ≤ T'.heap.size ∧ (∀ q : Nat, q < H.size → ¬ A1 q → T'.heap[q]? = H[q]?) ∧ va_S A0 H0 T'.heap (locs ++ L) := by
  obtain ⟨hz, hk⟩ := hF
  rw [h0] at hz hk
  exact ⟨by rw [e1]; exact hz, fun q h1 h2 => by rw [e1]; exact hk q h1 h2,
    ⟨Nat.le_trans hS.1 (by rw [e1]; exact hz), fun q h1 h2 => by rw [e1, hk q (Nat.lt_of_lt_of_le h1 hS.1) (fun z => h2 (hA q (Nat.lt_of_lt_of_le h1 hS.1) z))]; exact hS.2.1 q h1 h2, fun q hq => by
      rcases List.mem_append.mp hq with h | h
      · exact hS.2.2 q h
      · exact hf _ (hL q h)⟩⟩
theorem vx_calli {S SX : Type} {post : Int32 → S → Prop} {px : SX → Prop} {B : S → State → Prop} {BX : String → SX → State → Prop} {AX : Nat → Prop} (hr : vx_Run p l e R s m args below meth c H locs cells slots mc ms (F0 m pc ls st0) rest (va_Qi post B A1 a) (vx_X px BX AX) free) (hS : va_S A0 H0 H locs) (hA : ∀ q, q < H.size → A1 q → A0 q) (hf : ∀ q, free q → A0 q) (hAX : ∀ q, q < H.size → AX q → A0 q)
    (kx : ∀ (E : String) (ce : Cell) (q9 : Addr) (u : SX) (t : State) (H1 : Heap) (locs1 : List Loc), t.heap = H1 → s.vm.Alike t.vm → px u → BX E u t → H.size ≤ H1.size → (∀ q : Nat, q < H.size → ¬ AX q → H1[q]? = H[q]?) → va_S A0 H0 H1 locs1 → H1[q9]? = some ce → ce.vm = .none → s.vm.findClass E = some ce.cls → vx_W p l e R s m args below meth c H1 locs1 (cells + mc) (slots + ms) Q (F0 m pc ls rest) q9)
    (kk : ∀ (r : Int32) (u : S) (t : State) (H1 : Heap) (locs1 : List Loc), t.heap = H1 → s.vm.Alike t.vm → post r u → B u t → H.size ≤ H1.size → (∀ q : Nat, q < H.size → ¬ A1 q → H1[q]? = H[q]?) → va_S A0 H0 H1 locs1 → W p l e R s m args below meth c H1 locs1 (cells + mc) (slots + ms) Q (F0 m (pc + 3) ls (.int r :: rest))) : W p l e R s m args below meth c H locs cells slots Q (F0 m pc ls st0) := by
  intro T hT X
  rcases hr T hT X with ⟨v, st₀, t, T', L, h0, X', hL, e1, e2, ⟨⟨r, u, hv, hp, hb⟩, hF⟩, st⟩ | ⟨q, st₀, t, T', L, E, ce, h0, X', hL, e1, e2, ⟨u, hp, hb, hF⟩, hce, hcv, hcl, st⟩
  · cases hv
    obtain ⟨k1, k2, k3⟩ := vx_keep h0 e1 hS hA hf hL hF
    obtain ⟨t2, a1, b1⟩ := kk r u t T'.heap (locs ++ L) e1.symm (by rw [← e2]; exact X'.warmed.alike) hp hb k1 k2 k3 T' rfl X'
    exact ⟨t2, st t2 a1, b1⟩
  · obtain ⟨k1, k2, k3⟩ := vx_keep h0 e1 hS hAX hf hL hF
    obtain ⟨t2, a1, b1⟩ := kx E ce q u t T'.heap (locs ++ L) e1.symm (by rw [← e2]; exact X'.warmed.alike) hp hb k1 k2 k3 (by rw [e1]; exact hce) hcv hcl T' rfl X'
    exact ⟨t2, st.trans a1, b1⟩
theorem vx_calll {S SX : Type} {post : Int64 → S → Prop} {px : SX → Prop} {B : S → State → Prop} {BX : String → SX → State → Prop} {AX : Nat → Prop} (hr : vx_Run p l e R s m args below meth c H locs cells slots mc ms (F0 m pc ls st0) rest (va_Ql post B A1 a) (vx_X px BX AX) free) (hS : va_S A0 H0 H locs) (hA : ∀ q, q < H.size → A1 q → A0 q) (hf : ∀ q, free q → A0 q) (hAX : ∀ q, q < H.size → AX q → A0 q)
    (kx : ∀ (E : String) (ce : Cell) (q9 : Addr) (u : SX) (t : State) (H1 : Heap) (locs1 : List Loc), t.heap = H1 → s.vm.Alike t.vm → px u → BX E u t → H.size ≤ H1.size → (∀ q : Nat, q < H.size → ¬ AX q → H1[q]? = H[q]?) → va_S A0 H0 H1 locs1 → H1[q9]? = some ce → ce.vm = .none → s.vm.findClass E = some ce.cls → vx_W p l e R s m args below meth c H1 locs1 (cells + mc) (slots + ms) Q (F0 m pc ls rest) q9)
    (kk : ∀ (r : Int64) (u : S) (t : State) (H1 : Heap) (locs1 : List Loc), t.heap = H1 → s.vm.Alike t.vm → post r u → B u t → H.size ≤ H1.size → (∀ q : Nat, q < H.size → ¬ A1 q → H1[q]? = H[q]?) → va_S A0 H0 H1 locs1 → W p l e R s m args below meth c H1 locs1 (cells + mc) (slots + ms) Q (F0 m (pc + 3) ls (.long r :: rest))) : W p l e R s m args below meth c H locs cells slots Q (F0 m pc ls st0) := by
  intro T hT X
  rcases hr T hT X with ⟨v, st₀, t, T', L, h0, X', hL, e1, e2, ⟨⟨r, u, hv, hp, hb⟩, hF⟩, st⟩ | ⟨q, st₀, t, T', L, E, ce, h0, X', hL, e1, e2, ⟨u, hp, hb, hF⟩, hce, hcv, hcl, st⟩
  · cases hv
    obtain ⟨k1, k2, k3⟩ := vx_keep h0 e1 hS hA hf hL hF
    obtain ⟨t2, a1, b1⟩ := kk r u t T'.heap (locs ++ L) e1.symm (by rw [← e2]; exact X'.warmed.alike) hp hb k1 k2 k3 T' rfl X'
    exact ⟨t2, st t2 a1, b1⟩
  · obtain ⟨k1, k2, k3⟩ := vx_keep h0 e1 hS hAX hf hL hF
    obtain ⟨t2, a1, b1⟩ := kx E ce q u t T'.heap (locs ++ L) e1.symm (by rw [← e2]; exact X'.warmed.alike) hp hb k1 k2 k3 (by rw [e1]; exact hce) hcv hcl T' rfl X'
    exact ⟨t2, st.trans a1, b1⟩
theorem vx_callf {S SX : Type} {post : UInt32 → S → Prop} {px : SX → Prop} {B : S → State → Prop} {BX : String → SX → State → Prop} {AX : Nat → Prop} (hr : vx_Run p l e R s m args below meth c H locs cells slots mc ms (F0 m pc ls st0) rest (va_Qf post B A1 a) (vx_X px BX AX) free) (hS : va_S A0 H0 H locs) (hA : ∀ q, q < H.size → A1 q → A0 q) (hf : ∀ q, free q → A0 q) (hAX : ∀ q, q < H.size → AX q → A0 q)
    (kx : ∀ (E : String) (ce : Cell) (q9 : Addr) (u : SX) (t : State) (H1 : Heap) (locs1 : List Loc), t.heap = H1 → s.vm.Alike t.vm → px u → BX E u t → H.size ≤ H1.size → (∀ q : Nat, q < H.size → ¬ AX q → H1[q]? = H[q]?) → va_S A0 H0 H1 locs1 → H1[q9]? = some ce → ce.vm = .none → s.vm.findClass E = some ce.cls → vx_W p l e R s m args below meth c H1 locs1 (cells + mc) (slots + ms) Q (F0 m pc ls rest) q9)
    (kk : ∀ (r : UInt32) (u : S) (t : State) (H1 : Heap) (locs1 : List Loc), t.heap = H1 → s.vm.Alike t.vm → post r u → B u t → H.size ≤ H1.size → (∀ q : Nat, q < H.size → ¬ A1 q → H1[q]? = H[q]?) → va_S A0 H0 H1 locs1 → W p l e R s m args below meth c H1 locs1 (cells + mc) (slots + ms) Q (F0 m (pc + 3) ls (.float r :: rest))) : W p l e R s m args below meth c H locs cells slots Q (F0 m pc ls st0) := by
  intro T hT X
  rcases hr T hT X with ⟨v, st₀, t, T', L, h0, X', hL, e1, e2, ⟨⟨r, u, hv, hp, hb⟩, hF⟩, st⟩ | ⟨q, st₀, t, T', L, E, ce, h0, X', hL, e1, e2, ⟨u, hp, hb, hF⟩, hce, hcv, hcl, st⟩
  · cases hv
    obtain ⟨k1, k2, k3⟩ := vx_keep h0 e1 hS hA hf hL hF
    obtain ⟨t2, a1, b1⟩ := kk r u t T'.heap (locs ++ L) e1.symm (by rw [← e2]; exact X'.warmed.alike) hp hb k1 k2 k3 T' rfl X'
    exact ⟨t2, st t2 a1, b1⟩
  · obtain ⟨k1, k2, k3⟩ := vx_keep h0 e1 hS hAX hf hL hF
    obtain ⟨t2, a1, b1⟩ := kx E ce q u t T'.heap (locs ++ L) e1.symm (by rw [← e2]; exact X'.warmed.alike) hp hb k1 k2 k3 (by rw [e1]; exact hce) hcv hcl T' rfl X'
    exact ⟨t2, st.trans a1, b1⟩
theorem vx_calld {S SX : Type} {post : UInt64 → S → Prop} {px : SX → Prop} {B : S → State → Prop} {BX : String → SX → State → Prop} {AX : Nat → Prop} (hr : vx_Run p l e R s m args below meth c H locs cells slots mc ms (F0 m pc ls st0) rest (va_Qd post B A1 a) (vx_X px BX AX) free) (hS : va_S A0 H0 H locs) (hA : ∀ q, q < H.size → A1 q → A0 q) (hf : ∀ q, free q → A0 q) (hAX : ∀ q, q < H.size → AX q → A0 q)
    (kx : ∀ (E : String) (ce : Cell) (q9 : Addr) (u : SX) (t : State) (H1 : Heap) (locs1 : List Loc), t.heap = H1 → s.vm.Alike t.vm → px u → BX E u t → H.size ≤ H1.size → (∀ q : Nat, q < H.size → ¬ AX q → H1[q]? = H[q]?) → va_S A0 H0 H1 locs1 → H1[q9]? = some ce → ce.vm = .none → s.vm.findClass E = some ce.cls → vx_W p l e R s m args below meth c H1 locs1 (cells + mc) (slots + ms) Q (F0 m pc ls rest) q9)
    (kk : ∀ (r : UInt64) (u : S) (t : State) (H1 : Heap) (locs1 : List Loc), t.heap = H1 → s.vm.Alike t.vm → post r u → B u t → H.size ≤ H1.size → (∀ q : Nat, q < H.size → ¬ A1 q → H1[q]? = H[q]?) → va_S A0 H0 H1 locs1 → W p l e R s m args below meth c H1 locs1 (cells + mc) (slots + ms) Q (F0 m (pc + 3) ls (.double r :: rest))) : W p l e R s m args below meth c H locs cells slots Q (F0 m pc ls st0) := by
  intro T hT X
  rcases hr T hT X with ⟨v, st₀, t, T', L, h0, X', hL, e1, e2, ⟨⟨r, u, hv, hp, hb⟩, hF⟩, st⟩ | ⟨q, st₀, t, T', L, E, ce, h0, X', hL, e1, e2, ⟨u, hp, hb, hF⟩, hce, hcv, hcl, st⟩
  · cases hv
    obtain ⟨k1, k2, k3⟩ := vx_keep h0 e1 hS hA hf hL hF
    obtain ⟨t2, a1, b1⟩ := kk r u t T'.heap (locs ++ L) e1.symm (by rw [← e2]; exact X'.warmed.alike) hp hb k1 k2 k3 T' rfl X'
    exact ⟨t2, st t2 a1, b1⟩
  · obtain ⟨k1, k2, k3⟩ := vx_keep h0 e1 hS hAX hf hL hF
    obtain ⟨t2, a1, b1⟩ := kx E ce q u t T'.heap (locs ++ L) e1.symm (by rw [← e2]; exact X'.warmed.alike) hp hb k1 k2 k3 (by rw [e1]; exact hce) hcv hcl T' rfl X'
    exact ⟨t2, st.trans a1, b1⟩
theorem vx_callv {S SX : Type} {post : S → Prop} {px : SX → Prop} {B : S → State → Prop} {BX : String → SX → State → Prop} {AX : Nat → Prop} (hr : vx_Run p l e R s m args below meth c H locs cells slots mc ms (F0 m pc ls st0) rest (va_Qv post B A1 a) (vx_X px BX AX) free) (hS : va_S A0 H0 H locs) (hA : ∀ q, q < H.size → A1 q → A0 q) (hf : ∀ q, free q → A0 q) (hAX : ∀ q, q < H.size → AX q → A0 q)
    (kx : ∀ (E : String) (ce : Cell) (q9 : Addr) (u : SX) (t : State) (H1 : Heap) (locs1 : List Loc), t.heap = H1 → s.vm.Alike t.vm → px u → BX E u t → H.size ≤ H1.size → (∀ q : Nat, q < H.size → ¬ AX q → H1[q]? = H[q]?) → va_S A0 H0 H1 locs1 → H1[q9]? = some ce → ce.vm = .none → s.vm.findClass E = some ce.cls → vx_W p l e R s m args below meth c H1 locs1 (cells + mc) (slots + ms) Q (F0 m pc ls rest) q9)
    (kk : ∀ (u : S) (t : State) (H1 : Heap) (locs1 : List Loc), t.heap = H1 → s.vm.Alike t.vm → post u → B u t → H.size ≤ H1.size → (∀ q : Nat, q < H.size → ¬ A1 q → H1[q]? = H[q]?) → va_S A0 H0 H1 locs1 → W p l e R s m args below meth c H1 locs1 (cells + mc) (slots + ms) Q (F0 m (pc + 3) ls (rest))) : W p l e R s m args below meth c H locs cells slots Q (F0 m pc ls st0) := by
  intro T hT X
  rcases hr T hT X with ⟨v, st₀, t, T', L, h0, X', hL, e1, e2, ⟨⟨u, hv, hp, hb⟩, hF⟩, st⟩ | ⟨q, st₀, t, T', L, E, ce, h0, X', hL, e1, e2, ⟨u, hp, hb, hF⟩, hce, hcv, hcl, st⟩
  · cases hv
    obtain ⟨k1, k2, k3⟩ := vx_keep h0 e1 hS hA hf hL hF
    obtain ⟨t2, a1, b1⟩ := kk u t T'.heap (locs ++ L) e1.symm (by rw [← e2]; exact X'.warmed.alike) hp hb k1 k2 k3 T' rfl X'
    exact ⟨t2, st t2 a1, b1⟩
  · obtain ⟨k1, k2, k3⟩ := vx_keep h0 e1 hS hAX hf hL hF
    obtain ⟨t2, a1, b1⟩ := kx E ce q u t T'.heap (locs ++ L) e1.symm (by rw [← e2]; exact X'.warmed.alike) hp hb k1 k2 k3 (by rw [e1]; exact hce) hcv hcl T' rfl X'
    exact ⟨t2, st.trans a1, b1⟩
end Rows
section Ends
variable {p : Program} {l : Launch} {e : Env} {R : Room} {s : State} {m : MethodId} {args : Array Value} {below : List Frame} {meth : Method} {c : Code} {H : Heap} {locs : List Loc} {cells slots : Nat} {Q : State → Prop}
variable {mc ms : Nat} {free : Addr → Prop} {A0 A1 : Nat → Prop} {H0 : Heap} {a : Array Value} {ls : Array Slot} {st0 rest : List Value}
variable {Qc : Array Value → State → Outcome → State → Prop} {XC : String → State → State → Prop}
/-- what a body that may throw owes at its end -/
def vx_MQ (below : List Frame) (Qc : Array Value → State → Outcome → State → Prop) (XC : String → State → State → Prop) (a : Array Value) (s : State) (mc ms : Nat) (free : Addr → Prop) : State → Prop := fun t =>
  ∃ o, t.status = .running ∧ Ended t below o ∧ vx_Q Qc XC mc ms free a s o t
theorem vx_ret {g : JFrame} {mc ms : Nat} (k : W p l e R s m args below meth c H locs cells slots (MQ below Qc args s mc ms free) g) : W p l e R s m args below meth c H locs cells slots (vx_MQ below Qc XC args s mc ms free) g := by
  intro T hT X
  obtain ⟨t, a1, o, b1, b2, b3, b4⟩ := k T hT X
  exact ⟨t, a1, o, b1, b2, Or.inl ⟨b3, b4⟩⟩
/-- not caught here: it goes on to the caller -/
theorem vx_widen {g : JFrame} {q : Addr} {k n : Nat} (h1 : cells ≤ k) (h2 : slots ≤ n) (kk : vx_W p l e R s m args below meth c H locs k n Q g q) : vx_W p l e R s m args below meth c H locs cells slots Q g q := fun T hT X => kk T hT (stand_widen X h1 h2)
theorem vx_out {pc : Nat} {E : String} {ce : Cell} {q : Addr} {mc ms : Nat} (hout : ∀ x ∈ c.exceptionTable.toList, covers x pc = false) (hlocks : meth.locks = false) (hcell : H[q]? = some ce) (hv : ce.vm = .none) (hcl : s.vm.findClass E = some ce.cls)
    (hx : ∀ t : State, t.heap = H → s.vm.Alike t.vm → XC E s t) (hf : ∀ z ∈ locs, free z.base) (hc : cells ≤ mc) (hs : slots ≤ ms) :
    vx_W p l e R s m args below meth c H locs cells slots (vx_MQ below Qc XC args s mc ms free) (F0 m pc ls rest) q := by
  intro T hT X
  obtain ⟨st1, hrun, hend, hW, hsm⟩ := X.leaveThrown q (g := F0 m pc ls rest) rfl rfl rfl hout hlocks
  have hcell9 : (T.setFrames (.throwing q :: below)).heap[q]? = some ce := by
    show T.heap[q]? = some ce
    rw [hT]; exact hcell
  exact ⟨_, st1, .threw q, hrun, hend, Or.inr ⟨q, rfl, E, ce, locs, hx _ hT hW.alike, hcell9, hv, hcl, hW, hsm.mono hc hs, hf⟩⟩
theorem vx_frame {U : State} {k n : Nat} (h : s.sameButNew ({ U with vm := s.vm } : State) locs k n) : s.heap.size ≤ U.heap.size ∧ ∀ q : Nat, q < s.heap.size → (∀ z ∈ locs, z.base ≠ q) → U.heap[q]? = s.heap[q]? := by
  obtain ⟨-, h2, -, -, -, h6⟩ := h
  refine ⟨h2, fun q hq hz => ?_⟩
  obtain ⟨c9, e1, e2, e3, e4⟩ := h6 q _ (Array.getElem?_eq_getElem hq)
  have hs : c9.slots = (s.heap[q]).slots := Array.ext_getElem? fun i => e4 i fun hm => hz _ hm rfl
  have h9 : c9 = s.heap[q] := by
    rw [hs] at e2
    exact e2
  have e5 : U.heap[q]? = some c9 := e1
  rw [e5, h9, Array.getElem?_eq_getElem hq]
/-- the words of a throw but the four that speak of the heap -/
def vx_no (w : Cond) : Bool := decide (w ≠ .isRef (.static Bundle.tN "UNASSIGNED_STACK" Bundle.steD)) && decide (w ≠ .isRef (.static Bundle.tN "SUPPRESSED_SENTINEL" Bundle.listD)) && decide (w ≠ .laysStatic Bundle.tN "UNASSIGNED_STACK" Bundle.steD) && decide (w ≠ .laysStatic Bundle.tN "SUPPRESSED_SENTINEL" Bundle.listD)
def vx_at0 (own : String) (ic : Nat) (X : String) (names : List String) : List Cond := (Bundle.ownAtoms0 own ic X names).filter vx_no
def vx_atS (own : String) (ic : Nat) (X : String) (names : List String) : List Cond := (Bundle.ownAtoms own ic X names).filter vx_no
/-- a word that the tables alone decide, or a good one -/
def vx_ot (w : Cond) : Bool := w.onTables || goodWord w
theorem vx_ot_at {args a' : Array Value} {s U : State} {w : Cond} (hW : s.WarmedH U.vm) (hvm : s.vm = U.vm) (hg : vx_ot w = true) (h : w.before args s = true) : w.before a' U = true := by
  simp only [vx_ot, Bool.or_eq_true] at hg
  rcases hg with hg | hg
  · exact va_tabs hg hvm h
  · exact word_at hW (good_of_word hg) h
/-- a list's words: the good ones out of the method's own list, the others by premises of their own -/
theorem vx_hat {args : Array Value} {s : State} {L B : List Cond} (h1 : ∀ w ∈ L.filter goodWord, w.before args s = true) (h2 : ∀ w ∈ L.filter (fun w => !goodWord w), w ∈ B) (h3 : ∀ w ∈ B, w.before args s = true) : ∀ w ∈ L, w.before args s = true := by
  intro w hw
  by_cases g : goodWord w = true
  · exact h1 w (List.mem_filter.mpr ⟨hw, g⟩)
  · refine h3 w (h2 w (List.mem_filter.mpr ⟨hw, ?_⟩))
    show (!goodWord w) = true
    cases hgw : goodWord w
    · rfl
    · exact absurd hgw g
theorem vx_c {args : Array Value} {s : State} {w : Cond} {B : List Cond} (h : w.before args s = true) (t : ∀ w ∈ B, w.before args s = true) : ∀ w' ∈ w :: B, w'.before args s = true := fun w' h' => (List.mem_cons.mp h').elim (fun e => by rw [e]; exact h) (t w')
theorem vx_n {args : Array Value} {s : State} : ∀ w ∈ ([] : List Cond), w.before args s = true := fun _ h => nomatch h
theorem vx_own {args : Array Value} {s : State} {L : List Cond} (h1 : ∀ w ∈ L.filter vx_no, w.before args s = true)
    (hU : (Cond.isRef (.static Bundle.tN "UNASSIGNED_STACK" Bundle.steD)).before args s = true) (hN : (Cond.isRef (.static Bundle.tN "SUPPRESSED_SENTINEL" Bundle.listD)).before args s = true)
    (lU : (Cond.laysStatic Bundle.tN "UNASSIGNED_STACK" Bundle.steD).before args s = true) (lN : (Cond.laysStatic Bundle.tN "SUPPRESSED_SENTINEL" Bundle.listD).before args s = true) : ∀ w ∈ L, w.before args s = true := by
  intro w hw
  by_cases e1 : w = .isRef (.static Bundle.tN "UNASSIGNED_STACK" Bundle.steD)
  · rw [e1]; exact hU
  · by_cases e2 : w = .isRef (.static Bundle.tN "SUPPRESSED_SENTINEL" Bundle.listD)
    · rw [e2]; exact hN
    · by_cases e3 : w = .laysStatic Bundle.tN "UNASSIGNED_STACK" Bundle.steD
      · rw [e3]; exact lU
      · by_cases e4 : w = .laysStatic Bundle.tN "SUPPRESSED_SENTINEL" Bundle.listD
        · rw [e4]; exact lN
        · exact h1 w (List.mem_filter.mpr ⟨hw, by unfold vx_no; rw [decide_eq_true e1, decide_eq_true e2, decide_eq_true e3, decide_eq_true e4]; rfl⟩)
/-- where a static field lies, its class's statics cell in H -/
def vx_L (C n d : String) (A : Nat → Prop) (U : State) (H : Heap) : Prop := ∃ (c : ClassId) (k : Class) (i : Nat) (f : Field) (a : Nat) (cell : Cell), U.vm.findClass C = some c ∧ U.fieldFound? C n d = some (c, k, i, f) ∧ f.isStatic = true ∧ k.statics = some a ∧ H[a]? = some cell ∧ cell.vm.isStatics = true ∧ cell.cls = c ∧ f.slot < cell.slots.size ∧ k.staticTypes[f.slot]? = some f.type ∧ ¬ A a
theorem vx_L.moved {C n d : String} {A : Nat → Prop} {u U : State} {H : Heap} (hvm : u.vm.Alike U.vm) (h : vx_L C n d A u H) : vx_L C n d A U H := by
  obtain ⟨c, k, i, f, a, cell, h1, h2, h3, h4, h5, h6, h7, h8, h9, h10⟩ := h
  obtain ⟨k', hi', he⟩ := State.fieldFound?_setVm hvm h2
  exact ⟨c, k', i, f, a, cell, by rw [hvm.findClass]; exact h1, hi', h3, by rw [he]; exact h4, h5, h6, h7, h8, by rw [he]; exact h9, h10⟩
theorem vx_L.kept {C n d : String} {A : Nat → Prop} {U : State} {H H1 : Heap} (h : vx_L C n d A U H) (hq : ∀ a : Nat, a < H.size → ¬ A a → H1[a]? = H[a]?) : vx_L C n d A U H1 := by
  obtain ⟨c, k, i, f, a, cell, h1, h2, h3, h4, h5, h6, h7, h8, h9, h10⟩ := h
  exact ⟨c, k, i, f, a, cell, h1, h2, h3, h4, by rw [hq a (Array.getElem?_eq_some_iff.mp h5).1 h10]; exact h5, h6, h7, h8, h9, h10⟩
theorem vx_L.narrow {C n d : String} {A B : Nat → Prop} {U : State} {H : Heap} (h : vx_L C n d A U H) (hAB : ∀ q, B q → A q) : vx_L C n d B U H := by
  obtain ⟨c, k, i, f, a, cell, h1, h2, h3, h4, h5, h6, h7, h8, h9, h10⟩ := h
  exact ⟨c, k, i, f, a, cell, h1, h2, h3, h4, h5, h6, h7, h8, h9, fun z => h10 (hAB _ z)⟩
theorem vx_L.word {C n d : String} {A : Nat → Prop} {s : State} {args : Array Value} (h : vx_L C n d A s s.heap) : (Cond.laysStatic C n d).before args s = true := by
  obtain ⟨c, k, i, f, a, cell, h1, h2, h3, h4, h5, h6, h7, h8, h9, -⟩ := h
  show (Cond.laysStatic C n d).holds args s none s [] = true
  exact Cond.laysStatic_of h1 h2 h3 h4 h5 h6 h7 h8 h9
/-- .. and what it holds: null or some reference -/
def vx_Zq (C n d : String) (A : Nat → Prop) (U : State) (H : Heap) : Prop := va_Zq C n d A U H ∧ vx_L C n d A U H
theorem vx_Zq.moved {C n d : String} {A : Nat → Prop} {u U : State} {H : Heap} (hvm : u.vm.Alike U.vm) (h : vx_Zq C n d A u H) : vx_Zq C n d A U H := ⟨va_Zq.moved hvm h.1, vx_L.moved hvm h.2⟩
theorem vx_Zq.kept {C n d : String} {A : Nat → Prop} {U : State} {H H1 : Heap} (h : vx_Zq C n d A U H) (hq : ∀ a : Nat, a < H.size → ¬ A a → H1[a]? = H[a]?) : vx_Zq C n d A U H1 := ⟨va_Zq.kept h.1 hq, vx_L.kept h.2 hq⟩
theorem vx_Zq.narrow {C n d : String} {A B : Nat → Prop} {U : State} {H : Heap} (h : vx_Zq C n d A U H) (hAB : ∀ q, B q → A q) : vx_Zq C n d B U H := ⟨va_Zq.narrow h.1 hAB, vx_L.narrow h.2 hAB⟩
theorem vx_Zqof {args : Array Value} {s : State} {C n d : String} {A : Nat → Prop} (hl : (Cond.laysStatic C n d).before args s = true) (hini : (Cond.initialized C).before args s = true) (h : (Cond.isRef (.static C n d)).before args s = true) (hA : ∀ a : Nat, a < s.heap.size → ¬ A a) : vx_Zq C n d A s s.heap := by
  refine ⟨va_Zqof hl hini h hA, ?_⟩
  obtain ⟨c, k, i, f, a, cell, h1, h2, h3, h4, h5, h6, h7, h8, h9⟩ := Cond.laysStatic_spec hl
  exact ⟨c, k, i, f, a, cell, h1, h2, h3, h4, h5, h6, h7, h8, h9, hA a (Array.getElem?_eq_some_iff.mp h5).1⟩
theorem vx_isRef {C n d : String} {v : Value} {A : Nat → Prop} {s : State} {args : Array Value} (h : va_Z C n d v A s s.heap) (hv : v.isRef = true) : (Cond.isRef (.static C n d)).before args s = true := by
  obtain ⟨cf, kf, fi, f, a, cell, h1, h2, h3, h4, h5, h6, h7, -⟩ := h
  have he : (Term.static C n d).eval args s none [] s = some v := by
    simp [Term.eval, State.fieldNamed?, h1, h2, h4, h5, h6, h7]
  simp only [Cond.before, Cond.holds, Cond.value, he]
  cases v <;> simp_all [Value.isRef]
theorem vx_isRefq {C n d : String} {A : Nat → Prop} {s : State} {args : Array Value} (h : va_Zq C n d A s s.heap) : (Cond.isRef (.static C n d)).before args s = true := by
  rcases h with h | ⟨t, h⟩
  · exact vx_isRef h rfl
  · exact vx_isRef h rfl
/-- the same frame, seen from here: as if the method were called anew in this heap -/
theorem vx_rebase {T : State} (X : Stand p l e R s m args below meth c T locs cells slots) {R' : Room} (hf : R'.frames ≤ R.frames) (hl : R'.locals ≤ R.locals) (hc : cells + R'.cells ≤ R.cells) (hs : slots + R'.slots ≤ R.slots) :
    Stand p l e R' ((T.setVm s.vm).setFrames (.invoking m args :: below)) m args below meth c T [] 0 0 := by
  have htop : (T.setVm s.vm).topJava?.isSome := X.here.top
  have hF : ((T.setVm s.vm).setFrames (.invoking m args :: below)).frames = .invoking m args :: below := State.frames_setFrames _ (State.cur_lt_of_top htop)
  obtain ⟨g₀, hg0⟩ := Option.isSome_iff_exists.mp htop
  obtain ⟨r, hr⟩ := State.topJava?_eq_some.mp hg0
  have hl9 : e.platform.stackLimits (T.setVm s.vm).me = e.platform.stackLimits s.me := X.limits
  have hb9 : (T.setVm s.vm).me.stackBytes = s.me.stackBytes := X.bytes
  refine ⟨X.admits, X.cas, X.clock, hF, ?_, X.hears, X.method, X.code, X.here, X.tail, X.warmed, ?_, ?_, ?_⟩
  · have h := X.room
    have hU : ((T.setVm s.vm).setFrames (.invoking m args :: below)).localsInUse = s.localsInUse := by
      rw [State.localsInUse_invoking hF (meth := meth) (c := c) X.method X.code, State.localsInUse_invoking X.frames X.method X.code]
    simp only [State.hasRoom, Bool.and_eq_true, decide_eq_true_eq] at h ⊢
    obtain ⟨⟨⟨⟨h1, h2, h3, h4, h5, h6⟩, h7⟩, h8⟩, h9⟩ := h
    rw [X.frames, List.length_cons] at h2 h3
    have q1 := X.heapSize
    have q2 := X.used
    simp only [hF, hU, List.length_cons, State.stackLimits_setFrames, State.stackBytes_setFrames, hl9, hb9]
    refine ⟨⟨⟨⟨by omega, by omega, by omega, by omega, by omega, h6⟩, ?_⟩, ?_⟩, X.book⟩
    · show T.heap.size + R'.cells ≤ e.platform.maxCells
      omega
    · show T.slotsUsed + R'.slots ≤ e.platform.maxSlots
      omega
  · rw [State.stackLimits_setFrames]; rfl
  · rw [State.stackBytes_setFrames]; rfl
  · refine ⟨?_, Nat.le_refl _, Nat.le_refl _, ?_, ?_, fun a c9 h9 => ⟨c9, h9, rfl, rfl, fun _ _ => rfl⟩⟩
    · obtain ⟨t, ht, -⟩ := State.frames_cons hr
      show T.setVm s.vm = { ((T.setVm s.vm).setFrames (.invoking m args :: below)).setFrames (T.setVm s.vm).frames with heap := T.heap, slotsUsed := T.slotsUsed }
      rw [State.setFrames_setFrames, State.setFrames_self ht]
      rfl
    · show T.slotsUsed = T.slotsUsed + ((T.heap.toList.drop T.heap.size).map (·.slots.size)).sum
      rw [List.drop_eq_nil_of_le (Nat.le_of_eq Array.length_toList)]
      rfl
    · show ((T.heap.toList.drop T.heap.size).map (·.slots.size)).sum ≤ 0
      rw [List.drop_eq_nil_of_le (Nat.le_of_eq Array.length_toList)]
      exact Nat.le_refl _
/-- 'throw new E()': new; dup; invokespecial; athrow -/
theorem vx_throw0 {cc : ByteArray} {pc : Nat} (hexec : p.tables.exec = Jvm.exec) (hb : c.code = cc) (hl : l.stackTraces = false) {own cls : String} {names : List String} {ik ic mc ms : Nat} {A : Nat → Prop}
    (hown : s.vm.findClass own = some m.cls) (hcls : Bundle.fit cls = true) (hnames : ∀ n ∈ names, Bundle.fit n = true)
    (hk : (Cond.classLink own ik cls).before args s = true) (hini : (Cond.initialized cls).before args s = true) (hat : ∀ w ∈ vx_at0 own ic cls names, w.before args s = true)
    (hgood : ∀ w ∈ Cond.classLink own ik cls :: Cond.initialized cls :: vx_at0 own ic cls names, vx_ot w = true)
    (hU : vx_Zq Bundle.tN "UNASSIGNED_STACK" Bundle.steD A s s.heap) (hN : vx_Zq Bundle.tN "SUPPRESSED_SENTINEL" Bundle.listD A s s.heap) (hS : va_S A s.heap H locs) (hsize : ls.size = c.maxLocals)
    (d0 : decode cc pc = .ok (.new ik, 3)) (d3 : decode cc (pc + 3) = .ok (.dup, 1)) (d4 : decode cc (pc + 4) = .ok (.invokespecial ic, 3)) (d7 : decode cc (pc + 7) = .ok (.athrow, 1))
    (hout : ∀ x ∈ c.exceptionTable.toList, covers x (pc + 7) = false)
    (hRframes : names.length + 3 < R.frames) (hRlocals : (rest.map fun v => v.category).sum + (13 * (names.length + 1) + 42) ≤ R.locals) (hRcells : cells + 1 ≤ R.cells) (hRslots : slots + 6 ≤ R.slots) (hlocks : meth.locks = false)
    (hx : ∀ t : State, s.vm.Alike t.vm → H.size ≤ t.heap.size → (∀ q : Nat, q < H.size → t.heap[q]? = H[q]?) → XC cls s t)
    (hf : ∀ z ∈ locs, free z.base) (hc : cells + 1 ≤ mc) (hs : slots + 6 ≤ ms) :
    W p l e R s m args below meth c H locs cells slots (vx_MQ below Qc XC args s mc ms free) (F0 m pc ls rest) := by
  intro T hT X
  have htr : e.platform.stackTraces = false := (show e.platform.stackTraces = l.stackTraces by rw [X.admits.platform]).trans hl
  have Y := vx_rebase X (R' := { frames := R.frames, locals := R.locals, cells := 1, slots := 6 }) (Nat.le_refl _) (Nat.le_refl _) hRcells hRslots
  obtain ⟨s', hA⟩ : ∃ z, z = (T.setVm s.vm).setFrames (.invoking m args :: below) := ⟨_, rfl⟩
  rw [← hA] at Y
  have hvm : s'.vm = s.vm := by rw [hA]; rfl
  have hhp : s'.heap = H := by rw [hA]; exact hT
  have hW0 : s.WarmedH s'.vm := by rw [hvm]; exact State.WarmedH.refl s
  have hat' : ∀ w ∈ vx_at0 own ic cls names, w.before args s' = true := fun w hw => vx_ot_at hW0 hvm.symm (hgood w (List.mem_cons_of_mem _ (List.mem_cons_of_mem _ hw))) (hat w hw)
  have hk' : (Cond.classLink own ik cls).before args s' = true := vx_ot_at hW0 hvm.symm (hgood _ List.mem_cons_self) hk
  have hini' : (Cond.initialized cls).before args s' = true := vx_ot_at hW0 hvm.symm (hgood _ (List.mem_cons_of_mem _ List.mem_cons_self)) hini
  have hU' : vx_Zq Bundle.tN "UNASSIGNED_STACK" Bundle.steD A s' s'.heap := by rw [hhp]; exact vx_Zq.moved hW0.alike (hU.kept hS.2.1)
  have hN' : vx_Zq Bundle.tN "SUPPRESSED_SENTINEL" Bundle.listD A s' s'.heap := by rw [hhp]; exact vx_Zq.moved hW0.alike (hN.kept hS.2.1)
  have h : ∀ w ∈ Bundle.ownAtoms0 own ic cls names, w.before args s' = true := vx_own hat' (vx_isRefq hU'.1) (vx_isRefq hN'.1) hU'.2.word hN'.2.word
  have hown' : s'.vm.findClass own = some m.cls := by rw [hvm]; exact hown
  have hins : (Cond.instantiable cls 6).before args s' = true := h _ (by simp [Bundle.ownAtoms0])
  obtain ⟨vm₁, cX, kX, hfX, hkX, -, -, X₁, st1⟩ := Y.newCold hexec (own := own) (C := cls) (index := ik) (n := 6) hown' hk' hins hini'
    (g := F0 m pc ls rest) rfl (by rw [hb]; exact d0) (Nat.le_refl _) (Nat.le_refl _)
  generalize hT1 : (T.setVm vm₁).pushCell { cls := cX, slots := kX.instanceTypes.map defaultValue, vm := .none } = T1 at X₁ st1
  have hcat : (Value.ref T.heap.size).category = 1 := rfl
  have hcellA : T1.heap[T.heap.size]? = some (freshCell cX kX) := by rw [← hT1]; exact State.heap_pushCell_size _ _
  have d3' : decode c.code (pc + 3) = .ok (.dup, 1) := by rw [hb]; exact d3
  obtain ⟨U, hsteps, hrun, hend, hW, hsame, ce, hce, hO⟩ := X₁.ctorThrow0 hexec htr (own := own) (cls := cls) (names := names) (ic := ic) hown' hcls hnames h (fun x hx => nomatch hx) hfX hkX hcellA (by rw [hhp, hT]; exact Nat.le_refl _)
    (g := { method := m, pc := pc + 4, locals := ls, stack := .ref T.heap.size :: .ref T.heap.size :: rest, locked := none }) rfl hsize rfl rfl (rest := rest) rfl
    (by rw [hb]; exact d4) (by rw [hb]; exact d7) hout hRframes (by simp only [List.map_cons, List.sum_cons, hcat]; omega) hlocks
  obtain ⟨f1, f2⟩ := vx_frame hsame
  rw [hhp] at f1 f2
  have hWs : s.WarmedH U.vm := State.WarmedH.trans hW0 hW
  have hcl : s.vm.findClass cls = some ce.cls := by
    have h9 := hO.cls
    rw [hvm] at h9
    exact h9
  have hall : s.sameButNew ({ U with vm := s.vm } : State) locs mc ms := by
    subst hA
    obtain ⟨e1, e2⟩ := hsame
    rw [State.setFrames_setFrames] at e1
    have h2 : (T.setVm s.vm).sameButNew ({ U with vm := s.vm } : State) [] (0 + 1) (0 + 6) := ⟨e1, e2⟩
    have h3 := X.same.trans h2
    rw [List.append_nil] at h3
    exact h3.mono hc hs
  refine ⟨U, ?_, .threw T.heap.size, hrun, hend, Or.inr ⟨T.heap.size, rfl, cls, ce, locs, hx U hWs.alike f1 (fun q hq => f2 q hq (fun z hz => nomatch hz)), hce, hO.vm, hcl, hWs, hall, hf⟩⟩
  refine st1 _ ?_
  show Steps p.tables e below (T1.setTop { method := m, pc := pc + 3, locals := ls, stack := .ref T.heap.size :: rest, locked := none }) _
  jvm_step X₁.here [X₁.here.top, hexec, d3', Value.category]
  exact hsteps
/-- 'throw new E("text")': new; dup; ldc; invokespecial; athrow -/
theorem vx_throwS {cc : ByteArray} {pc : Nat} (hexec : p.tables.exec = Jvm.exec) (hb : c.code = cc) (hl : l.stackTraces = false) {own cls text : String} {names : List String} {ik is ic mc ms sa : Nat} {A : Nat → Prop}
    (hown : s.vm.findClass own = some m.cls) (hcls : Bundle.fit cls = true) (hnames : ∀ n ∈ names, Bundle.fit n = true)
    (hk : (Cond.classLink own ik cls).before args s = true) (hini : (Cond.initialized cls).before args s = true) (hstr : vk_R own is text sa s) (hat : ∀ w ∈ vx_atS own ic cls names, w.before args s = true)
    (hgood : ∀ w ∈ Cond.classLink own ik cls :: Cond.initialized cls :: vx_atS own ic cls names, vx_ot w = true)
    (hU : vx_Zq Bundle.tN "UNASSIGNED_STACK" Bundle.steD A s s.heap) (hN : vx_Zq Bundle.tN "SUPPRESSED_SENTINEL" Bundle.listD A s s.heap) (hS : va_S A s.heap H locs) (hsize : ls.size = c.maxLocals)
    (d0 : decode cc pc = .ok (.new ik, 3)) (d3 : decode cc (pc + 3) = .ok (.dup, 1)) (d4 : decode cc (pc + 4) = .ok (.ldc is, 2)) (d6 : decode cc (pc + 6) = .ok (.invokespecial ic, 3)) (d9 : decode cc (pc + 9) = .ok (.athrow, 1))
    (hout : ∀ x ∈ c.exceptionTable.toList, covers x (pc + 9) = false)
    (hRframes : names.length + 3 < R.frames) (hRlocals : (rest.map fun v => v.category).sum + (13 * (names.length + 1) + 43) ≤ R.locals) (hRcells : cells + 1 ≤ R.cells) (hRslots : slots + 6 ≤ R.slots) (hlocks : meth.locks = false)
    (hx : ∀ t : State, s.vm.Alike t.vm → H.size ≤ t.heap.size → (∀ q : Nat, q < H.size → t.heap[q]? = H[q]?) → XC cls s t)
    (hf : ∀ z ∈ locs, free z.base) (hc : cells + 1 ≤ mc) (hs : slots + 6 ≤ ms) :
    W p l e R s m args below meth c H locs cells slots (vx_MQ below Qc XC args s mc ms free) (F0 m pc ls rest) := by
  intro T hT X
  have htr : e.platform.stackTraces = false := (show e.platform.stackTraces = l.stackTraces by rw [X.admits.platform]).trans hl
  have Y := vx_rebase X (R' := { frames := R.frames, locals := R.locals, cells := 1, slots := 6 }) (Nat.le_refl _) (Nat.le_refl _) hRcells hRslots
  obtain ⟨s', hA⟩ : ∃ z, z = (T.setVm s.vm).setFrames (.invoking m args :: below) := ⟨_, rfl⟩
  rw [← hA] at Y
  have hvm : s'.vm = s.vm := by rw [hA]; rfl
  have hhp : s'.heap = H := by rw [hA]; exact hT
  have hW0 : s.WarmedH s'.vm := by rw [hvm]; exact State.WarmedH.refl s
  have hat' : ∀ w ∈ vx_atS own ic cls names, w.before args s' = true := fun w hw => vx_ot_at hW0 hvm.symm (hgood w (List.mem_cons_of_mem _ (List.mem_cons_of_mem _ hw))) (hat w hw)
  have hk' : (Cond.classLink own ik cls).before args s' = true := vx_ot_at hW0 hvm.symm (hgood _ List.mem_cons_self) hk
  have hini' : (Cond.initialized cls).before args s' = true := vx_ot_at hW0 hvm.symm (hgood _ (List.mem_cons_of_mem _ List.mem_cons_self)) hini
  have hU' : vx_Zq Bundle.tN "UNASSIGNED_STACK" Bundle.steD A s' s'.heap := by rw [hhp]; exact vx_Zq.moved hW0.alike (hU.kept hS.2.1)
  have hN' : vx_Zq Bundle.tN "SUPPRESSED_SENTINEL" Bundle.listD A s' s'.heap := by rw [hhp]; exact vx_Zq.moved hW0.alike (hN.kept hS.2.1)
  have h : ∀ w ∈ Bundle.ownAtoms own ic cls names, w.before args s' = true := vx_own hat' (vx_isRefq hU'.1) (vx_isRefq hN'.1) hU'.2.word hN'.2.word
  have hown' : s'.vm.findClass own = some m.cls := by rw [hvm]; exact hown
  have hins : (Cond.instantiable cls 6).before args s' = true := h _ (by simp [Bundle.ownAtoms])
  obtain ⟨vm₁, cX, kX, hfX, hkX, -, -, X₁, st1⟩ := Y.newCold hexec (own := own) (C := cls) (index := ik) (n := 6) hown' hk' hins hini'
    (g := F0 m pc ls rest) rfl (by rw [hb]; exact d0) (Nat.le_refl _) (Nat.le_refl _)
  generalize hT1 : (T.setVm vm₁).pushCell { cls := cX, slots := kX.instanceTypes.map defaultValue, vm := .none } = T1 at X₁ st1
  have hcat : (Value.ref T.heap.size).category = 1 := rfl
  have hcellA : T1.heap[T.heap.size]? = some (freshCell cX kX) := by rw [← hT1]; exact State.heap_pushCell_size _ _
  have d3' : decode c.code (pc + 3) = .ok (.dup, 1) := by rw [hb]; exact d3
  have d4' : decode c.code (pc + 4) = .ok (.ldc is, 2) := by rw [hb]; exact d4
  have hstr' : vk_R own is text sa s' := vk_R.warm hW0 hstr
  obtain ⟨U, hsteps, hrun, hend, hW, hsame, ce, hce, hO⟩ := X₁.ctorThrowS hexec htr (own := own) (cls := cls) (names := names) (ic := ic) hown' hcls hnames h (fun x hx => nomatch hx) hfX hkX hcellA (by rw [hhp, hT]; exact Nat.le_refl _) (msg := .ref sa) rfl
    (g := { method := m, pc := pc + 6, locals := ls, stack := .ref sa :: .ref T.heap.size :: .ref T.heap.size :: rest, locked := none }) rfl hsize rfl rfl (rest := rest) rfl
    (by rw [hb]; exact d6) (by rw [hb]; exact d9) hout hRframes (by simp only [List.map_cons, List.sum_cons, hcat]; omega) hlocks
  obtain ⟨f1, f2⟩ := vx_frame hsame
  rw [hhp] at f1 f2
  have hWs : s.WarmedH U.vm := State.WarmedH.trans hW0 hW
  have hcl : s.vm.findClass cls = some ce.cls := by
    have h9 := hO.cls
    rw [hvm] at h9
    exact h9
  have hall : s.sameButNew ({ U with vm := s.vm } : State) locs mc ms := by
    subst hA
    obtain ⟨e1, e2⟩ := hsame
    rw [State.setFrames_setFrames] at e1
    have h2 : (T.setVm s.vm).sameButNew ({ U with vm := s.vm } : State) [] (0 + 1) (0 + 6) := ⟨e1, e2⟩
    have h3 := X.same.trans h2
    rw [List.append_nil] at h3
    exact h3.mono hc hs
  refine ⟨U, ?_, .threw T.heap.size, hrun, hend, Or.inr ⟨T.heap.size, rfl, cls, ce, locs, hx U hWs.alike f1 (fun q hq => f2 q hq (fun z hz => nomatch hz)), hce, hO.vm, hcl, hWs, hall, hf⟩⟩
  refine st1 _ ?_
  show Steps p.tables e below (T1.setTop { method := m, pc := pc + 3, locals := ls, stack := .ref T.heap.size :: rest, locked := none }) _
  jvm_step X₁.here [X₁.here.top, hexec, d3', Value.category]
  exact X₁.ldcString hexec (own := own) (text := text) (index := is) (a := sa) hown' hstr'.1 hstr'.2
    (g := { method := m, pc := pc + 4, locals := ls, stack := .ref T.heap.size :: .ref T.heap.size :: rest, locked := none }) rfl d4' _ hsteps
/-- 'throw new E("text")', the text by a wide index -/
theorem vx_throwSW {cc : ByteArray} {pc : Nat} (hexec : p.tables.exec = Jvm.exec) (hb : c.code = cc) (hl : l.stackTraces = false) {own cls text : String} {names : List String} {ik is ic mc ms sa : Nat} {A : Nat → Prop}
    (hown : s.vm.findClass own = some m.cls) (hcls : Bundle.fit cls = true) (hnames : ∀ n ∈ names, Bundle.fit n = true)
    (hk : (Cond.classLink own ik cls).before args s = true) (hini : (Cond.initialized cls).before args s = true) (hstr : vk_R own is text sa s) (hat : ∀ w ∈ vx_atS own ic cls names, w.before args s = true)
    (hgood : ∀ w ∈ Cond.classLink own ik cls :: Cond.initialized cls :: vx_atS own ic cls names, vx_ot w = true)
    (hU : vx_Zq Bundle.tN "UNASSIGNED_STACK" Bundle.steD A s s.heap) (hN : vx_Zq Bundle.tN "SUPPRESSED_SENTINEL" Bundle.listD A s s.heap) (hS : va_S A s.heap H locs) (hsize : ls.size = c.maxLocals)
    (d0 : decode cc pc = .ok (.new ik, 3)) (d3 : decode cc (pc + 3) = .ok (.dup, 1)) (d4 : decode cc (pc + 4) = .ok (.ldc_w is, 3)) (d7 : decode cc (pc + 7) = .ok (.invokespecial ic, 3)) (d10 : decode cc (pc + 10) = .ok (.athrow, 1))
    (hout : ∀ x ∈ c.exceptionTable.toList, covers x (pc + 10) = false)
    (hRframes : names.length + 3 < R.frames) (hRlocals : (rest.map fun v => v.category).sum + (13 * (names.length + 1) + 43) ≤ R.locals) (hRcells : cells + 1 ≤ R.cells) (hRslots : slots + 6 ≤ R.slots) (hlocks : meth.locks = false)
    (hx : ∀ t : State, s.vm.Alike t.vm → H.size ≤ t.heap.size → (∀ q : Nat, q < H.size → t.heap[q]? = H[q]?) → XC cls s t)
    (hf : ∀ z ∈ locs, free z.base) (hc : cells + 1 ≤ mc) (hs : slots + 6 ≤ ms) :
    W p l e R s m args below meth c H locs cells slots (vx_MQ below Qc XC args s mc ms free) (F0 m pc ls rest) := by
  intro T hT X
  have htr : e.platform.stackTraces = false := (show e.platform.stackTraces = l.stackTraces by rw [X.admits.platform]).trans hl
  have Y := vx_rebase X (R' := { frames := R.frames, locals := R.locals, cells := 1, slots := 6 }) (Nat.le_refl _) (Nat.le_refl _) hRcells hRslots
  obtain ⟨s', hA⟩ : ∃ z, z = (T.setVm s.vm).setFrames (.invoking m args :: below) := ⟨_, rfl⟩
  rw [← hA] at Y
  have hvm : s'.vm = s.vm := by rw [hA]; rfl
  have hhp : s'.heap = H := by rw [hA]; exact hT
  have hW0 : s.WarmedH s'.vm := by rw [hvm]; exact State.WarmedH.refl s
  have hat' : ∀ w ∈ vx_atS own ic cls names, w.before args s' = true := fun w hw => vx_ot_at hW0 hvm.symm (hgood w (List.mem_cons_of_mem _ (List.mem_cons_of_mem _ hw))) (hat w hw)
  have hk' : (Cond.classLink own ik cls).before args s' = true := vx_ot_at hW0 hvm.symm (hgood _ List.mem_cons_self) hk
  have hini' : (Cond.initialized cls).before args s' = true := vx_ot_at hW0 hvm.symm (hgood _ (List.mem_cons_of_mem _ List.mem_cons_self)) hini
  have hU' : vx_Zq Bundle.tN "UNASSIGNED_STACK" Bundle.steD A s' s'.heap := by rw [hhp]; exact vx_Zq.moved hW0.alike (hU.kept hS.2.1)
  have hN' : vx_Zq Bundle.tN "SUPPRESSED_SENTINEL" Bundle.listD A s' s'.heap := by rw [hhp]; exact vx_Zq.moved hW0.alike (hN.kept hS.2.1)
  have h : ∀ w ∈ Bundle.ownAtoms own ic cls names, w.before args s' = true := vx_own hat' (vx_isRefq hU'.1) (vx_isRefq hN'.1) hU'.2.word hN'.2.word
  have hown' : s'.vm.findClass own = some m.cls := by rw [hvm]; exact hown
  have hins : (Cond.instantiable cls 6).before args s' = true := h _ (by simp [Bundle.ownAtoms])
  obtain ⟨vm₁, cX, kX, hfX, hkX, -, -, X₁, st1⟩ := Y.newCold hexec (own := own) (C := cls) (index := ik) (n := 6) hown' hk' hins hini'
    (g := F0 m pc ls rest) rfl (by rw [hb]; exact d0) (Nat.le_refl _) (Nat.le_refl _)
  generalize hT1 : (T.setVm vm₁).pushCell { cls := cX, slots := kX.instanceTypes.map defaultValue, vm := .none } = T1 at X₁ st1
  have hcat : (Value.ref T.heap.size).category = 1 := rfl
  have hcellA : T1.heap[T.heap.size]? = some (freshCell cX kX) := by rw [← hT1]; exact State.heap_pushCell_size _ _
  have d3' : decode c.code (pc + 3) = .ok (.dup, 1) := by rw [hb]; exact d3
  have d4' : decode c.code (pc + 4) = .ok (.ldc_w is, 3) := by rw [hb]; exact d4
  have hstr' : vk_R own is text sa s' := vk_R.warm hW0 hstr
  obtain ⟨U, hsteps, hrun, hend, hW, hsame, ce, hce, hO⟩ := X₁.ctorThrowS hexec htr (own := own) (cls := cls) (names := names) (ic := ic) hown' hcls hnames h (fun x hx => nomatch hx) hfX hkX hcellA (by rw [hhp, hT]; exact Nat.le_refl _) (msg := .ref sa) rfl
    (g := { method := m, pc := pc + 7, locals := ls, stack := .ref sa :: .ref T.heap.size :: .ref T.heap.size :: rest, locked := none }) rfl hsize rfl rfl (rest := rest) rfl
    (by rw [hb]; exact d7) (by rw [hb]; exact d10) hout hRframes (by simp only [List.map_cons, List.sum_cons, hcat]; omega) hlocks
  obtain ⟨f1, f2⟩ := vx_frame hsame
  rw [hhp] at f1 f2
  have hWs : s.WarmedH U.vm := State.WarmedH.trans hW0 hW
  have hcl : s.vm.findClass cls = some ce.cls := by
    have h9 := hO.cls
    rw [hvm] at h9
    exact h9
  have hall : s.sameButNew ({ U with vm := s.vm } : State) locs mc ms := by
    subst hA
    obtain ⟨e1, e2⟩ := hsame
    rw [State.setFrames_setFrames] at e1
    have h2 : (T.setVm s.vm).sameButNew ({ U with vm := s.vm } : State) [] (0 + 1) (0 + 6) := ⟨e1, e2⟩
    have h3 := X.same.trans h2
    rw [List.append_nil] at h3
    exact h3.mono hc hs
  refine ⟨U, ?_, .threw T.heap.size, hrun, hend, Or.inr ⟨T.heap.size, rfl, cls, ce, locs, hx U hWs.alike f1 (fun q hq => f2 q hq (fun z hz => nomatch hz)), hce, hO.vm, hcl, hWs, hall, hf⟩⟩
  refine st1 _ ?_
  show Steps p.tables e below (T1.setTop { method := m, pc := pc + 3, locals := ls, stack := .ref T.heap.size :: rest, locked := none }) _
  jvm_step X₁.here [X₁.here.top, hexec, d3', Value.category]
  exact X₁.ldcStringW hexec (own := own) (text := text) (index := is) (a := sa) hown' hstr'.1 hstr'.2
    (g := { method := m, pc := pc + 4, locals := ls, stack := .ref T.heap.size :: .ref T.heap.size :: rest, locked := none }) rfl d4' _ hsteps
end Ends
section Bodies
variable {l : Launch}
theorem vx_ofW {y : MethodName} {ws ws' : List Cond} {rm : Room} {Pc : Array Value → State → Prop} {Qc : Array Value → State → Outcome → State → Prop} {XC : String → State → State → Prop} {mc ms : Nat} {free : Addr → Prop} {cc : ByteArray} {maxL : Nat} {ret : Option FieldType}
    (hy : plainName y.cls = true) (hw : ws = Cond.code y cc maxL ret :: ws')
    (body : ∀ p e s m args below meth c s₁, BodyLoose p l y (headSpec ws rm) cc maxL ret e s m args below meth c s₁ → c.maxLocals = maxL → (∀ x ∈ c.exceptionTable.toList, False) → Pc args s →
      W p l e (headSpec ws rm).room s m args below meth c s.heap [] 0 0 (vx_MQ below Qc XC args s mc ms free) (entryFrame m args maxL)) : vx_Met l y ws rm Pc Qc XC mc ms free := by
  refine MetFree.of_bodyS (code := cc) (maxLocals := maxL) (ret := ret) hy ?_ ?_
  · intro args s m h hn
    obtain ⟨meth, c, h1, h2, h3, h4, h5, h6, -, -⟩ := Cond.code_spec hn (atoms_spec (ws := ws) h _ (by rw [hw]; exact List.mem_cons_self))
    exact ⟨meth, c, h1, h2, h3, h4, h5, h6⟩
  · intro p e s m args below meth c s₁ B hml hP _
    have hh0 : s₁.heap = s.heap := by rw [B.state]; rfl
    have ht : ∀ x ∈ c.exceptionTable.toList, False := by
      obtain ⟨meth9, c9, h1, h2, -, -, -, -, h7, -⟩ := Cond.code_spec B.named (atoms_spec (ws := ws) B.pre _ (by rw [hw]; exact List.mem_cons_self))
      cases Option.some.inj (h1.symm.trans B.method)
      cases Option.some.inj (h2.symm.trans (Stand.of_body B).code)
      intro x hx
      rw [Array.isEmpty_iff.mp h7] at hx
      cases hx
    obtain ⟨t, a1, o, b1, b2, b3⟩ := body p e s m args below meth c s₁ B hml ht hP s₁ hh0 (Stand.of_body B)
    exact ⟨t, o, a1, b1, b2, b3⟩
/-- the table of a body with handlers -/
theorem vx_table {p : Program} {x y : MethodName} {S : Spec} {cc bytes : ByteArray} {maxL maxL' : Nat} {ret ret' : Option FieldType} {e : Env} {s s₁ : State} {m : MethodId} {args : Array Value} {below : List Frame} {meth : Method} {c : Code} {hh : List (Nat × Nat × Nat × Nat)}
    (B : BodyLoose p l y S cc maxL ret e s m args below meth c s₁) (h : (Cond.codeWith y bytes maxL' ret' hh).before args s = true) : c.exceptionTable.toList = tableOf hh := by
  obtain ⟨m9, meth9, c9, hn9, h1, h2, -, -, h6, -⟩ := Cond.codeWith_spec h
  cases Option.some.inj (hn9.symm.trans B.named)
  cases Option.some.inj (h1.symm.trans B.method)
  cases Option.some.inj (h2.symm.trans (Stand.of_body B).code)
  rw [← h6, table_eq]
end Bodies
end VXA
/-! ===== END ===== -/
/-! ===== BEGIN a static call of a method with an exception table ===== -/
section VXS
variable {p : Program} {l : Launch} {e : Env} {R : Room} {s : State} {m : MethodId} {args : Array Value} {below : List Frame} {meth : Method} {c : Code} {T : State} {H : Heap} {locs : List Loc} {cells slots : Nat}
abbrev vx_CSW (R : Room) (s : State) (args : Array Value) (own : String) (index : Nat) (y : MethodName) (bytes : ByteArray) (maxL : Nat) (ret : Option FieldType) (hh : List (Nat × Nat × Nat × Nat)) (ws : List Cond) (rm : Room) (mc ms n : Nat) : Prop :=
  (rm.cells = mc ∧ rm.slots = ms ∧ rm.frames + 1 ≤ R.frames ∧ 8 + (maxL + 11) + rm.locals ≤ R.locals ∧ (∀ w ∈ ws, ∀ (a' : Array Value) (U : State), s.WarmedH U.vm → w.before a' U = true) ∧ Cond.codeWith y bytes maxL ret hh ∈ ws) ∧
  (Cond.codeWith y bytes maxL ret hh).before args s = true ∧ (Cond.initialized y.cls).before args s = true ∧ (y.cls ≠ "java/lang/invoke/MethodHandle" ∧ y.cls ≠ "java/lang/invoke/VarHandle") ∧
  (∀ sig, parseMethodDescriptor y.desc = some sig → n = sig.parameters.length) ∧ (Cond.methodLink own index y).before args s = true ∧ (Cond.static y).before args s = true
theorem vx_cwSW {own : String} {index maxL mc ms : Nat} {y : MethodName} {bytes : ByteArray} {ret : Option FieldType} {hh : List (Nat × Nat × Nat × Nat)} {Ts ws ws' : List Cond} {rm : Room} (n : Nat) (ht : ∀ w ∈ Ts, w.before args s = true) (hT : GoodIn Ts (va_wsS own index y ws)) (hw : ws = Cond.codeWith y bytes maxL ret hh :: ws') (hrc : rm.cells = mc) (hrs : rm.slots = ms)
    (hd : y.cls ≠ "java/lang/invoke/MethodHandle" ∧ y.cls ≠ "java/lang/invoke/VarHandle" ∧ (parseMethodDescriptor y.desc).map (fun d => d.parameters.length) = some n) (hR : rm.frames + 1 ≤ R.frames ∧ 8 + (maxL + 11) + rm.locals ≤ R.locals) :
    vx_CSW R s args own index y bytes maxL ret hh ws rm mc ms n := by
  have ok : ∀ w ∈ va_wsS own index y ws, w.before args s = true := fun w h => ht w (hT w h).1
  have hG : GoodIn Ts ws := fun w h => hT w (by unfold va_wsS; exact List.mem_append_right _ h)
  have hc : Cond.codeWith y bytes maxL ret hh ∈ ws := by rw [hw]; exact List.mem_cons_self
  refine ⟨⟨hrc, hrs, hR.1, hR.2, pay_in ht hG, hc⟩, ht _ (hG _ hc).1, ok _ (by simp [va_wsS]), ⟨hd.1, hd.2.1⟩, fun sig h => ?_, ok _ (by simp [va_wsS]), ok _ (by simp [va_wsS])⟩
  have h2 := hd.2.2
  rw [h] at h2
  exact (Option.some.inj h2).symm
theorem vx_callSW (X : Stand p l e R s m args below meth c T locs cells slots) (hexec : p.tables.exec = Jvm.exec) {own : String} {index : Nat} {y : MethodName} {bytes : ByteArray} {maxL : Nat} {ret : Option FieldType} {hh : List (Nat × Nat × Nat × Nat)}
    (hown : s.vm.findClass own = some m.cls) (hlink : (Cond.methodLink own index y).before args s = true) (hstat : (Cond.static y).before args s = true) (hinit : (Cond.initialized y.cls).before args s = true)
    (hcode : (Cond.codeWith y bytes maxL ret hh).before args s = true) (hy : y.cls ≠ "java/lang/invoke/MethodHandle" ∧ y.cls ≠ "java/lang/invoke/VarHandle")
    {W9 : Nat} {Pre : Pt → Array Value → Prop} {Post : Pt → Array Value → Option Value → Pt → Prop} (hK : Back l R p e below s args y 3 W9 Pre Post)
    {g : JFrame} (hg : g.method = m) (hsize : g.locals.size = c.maxLocals) {argsL rest : List Value} (hlen : ∀ sig, parseMethodDescriptor y.desc = some sig → argsL.length = sig.parameters.length)
    (hstack : g.stack = argsL.reverse ++ rest) (hW : 2 * g.monitorRoom + (rest.map fun v => v.category).sum ≤ W9) (hdg : decode c.code g.pc = .ok (.invokestatic index, 3))
    (hpre : ∀ vm₁, s.WarmedH vm₁ → Pre ⟨T.setVm vm₁, locs, cells, slots⟩ argsL.toArray) :
    ∃ (v : Option Value) (vm₁ : Vm) (B : Pt), s.WarmedH vm₁ ∧ Stand p l e R s m args below meth c B.U B.locs B.cells B.slots ∧ Post ⟨T.setVm vm₁, locs, cells, slots⟩ argsL.toArray v B ∧
      ∀ target, Steps p.tables e below (B.U.setTop { g with pc := g.pc + 3, stack := v.toList ++ rest }) target → Steps p.tables e below (T.setTop g) target := by
  obtain ⟨mk, methM, cM, hnamed, hmethM, -, -, -, -, -, -, hsigM⟩ := Cond.codeWith_spec hcode
  have hstatic : methM.isStatic = true := Cond.static_spec hnamed hmethM hstat
  obtain ⟨kP, hkP, -⟩ := className_of_methodNamed hnamed
  have hinitP : kP.init = .initialized := Cond.initialized_spec (findClass_of_methodNamed hnamed) hkP hinit
  obtain ⟨vm₁, X₁, hstep₁⟩ := X.invokestatic hexec hown hlink hnamed hmethM hstatic hkP hinitP hy (g := g) hg (argsL := argsL) (rest := rest) (hlen _ hsigM) hstack hdg
  obtain ⟨v, B, X', hpost, hsteps⟩ := hK m meth c ⟨T.setVm vm₁, locs, cells, slots⟩ { g with stack := rest } (.invokestatic index) mk argsL.toArray X₁ hg hsize hdg hW (X₁.named hnamed) (hpre vm₁ X₁.warmed)
  exact ⟨v, vm₁, B, X₁.warmed, X', hpost, fun target h => hstep₁ _ fun acts => by rw [doInvoke_state]; exact hsteps.trans h⟩
theorem vx_runSW {y : MethodName} {bytes cc : ByteArray} {maxL nL mc ms n index : Nat} {ret : Option FieldType} {hh : List (Nat × Nat × Nat × Nat)} {ws : List Cond} {rm : Room} {Pc : Array Value → State → Prop} {Qc : Array Value → State → Outcome → State → Prop} {free : Addr → Prop} {Ts : List Cond} {own : String} {As rest : List Value} {g : JFrame}
    (S : CallFix p m c cc nL s args Ts own) (hM : Met l y ws rm Pc Qc mc ms free) (cw : vx_CSW R s args own index y bytes maxL ret hh ws rm mc ms n) (hp : PreS s H Pc As)
    (hg : g.method = m) (hn : As.length = n) (hsize : g.locals.size = nL) (hstack : g.stack = As.reverse ++ rest) (hW : 2 * g.monitorRoom + (rest.map fun v => v.category).sum ≤ 8) (hdg : decode cc g.pc = .ok (.invokestatic index, 3)) (hf : cells + mc ≤ R.cells ∧ slots + ms ≤ R.slots) :
    va_Run p l e R s m args below meth c H locs cells slots mc ms g rest (Qc As.toArray) (free) := by
  obtain ⟨⟨hrc, hrs, hfr, hlo, hws, hcw⟩, hcode, hini, hy, hlen, hl, hstt⟩ := cw
  have hK : Back l R p e below s args y 3 8 (PreOf R mc ms Pc) (PostOf Qc mc ms free) := va_backW (hh := hh) (bytes := bytes) (maxL := maxL) (ret := ret) hM hp.1 hrc hrs hfr hlo hws hcw (fun a' U hW => word_at hW (Or.inl (by first | rfl | simp [Cond.onTables, Cond.keeps, Cond.steady])) hini)
  obtain ⟨hx, hb, hml, ho, -⟩ := S
  intro T hT X
  obtain ⟨v, vm₁, ⟨U', l2, c2, s2⟩, hW₁, X', ⟨g', mk, t, L, e1, e2, hq, h1, hL, h2, h3⟩, st⟩ := vx_callSW X hx (hh := hh) (bytes := bytes) (maxL := maxL) (ret := ret) ho hl hstt hini hcode hy hK hg (hsize.trans hml.symm) (argsL := As) (rest := rest) (fun sig h => hn.trans (hlen sig h)) hstack hW (by rw [hb]; exact hdg)
    (fun vm₁ hW₁ => ⟨hf.1, hf.2, hp.2 (T.setVm vm₁) hT hW₁⟩)
  dsimp only [Pt.U, Pt.locs, Pt.cells, Pt.slots] at X' e1 e2 h1 h2 h3 st
  subst h1; subst h2; subst h3
  exact ⟨v, (T.setVm vm₁).calling g' mk As.toArray, t, U', L, hT, X', hL, e1, e2, hq, st⟩
/-- a thing of a world lies in the heap -/
theorem vx_lt {D : va_G} {cl : List vw_C} {ws : va_W} {H1 : Heap} (h : va_P D cl ws H1) {k : Nat} {q : Nat × va_E} (hk : ws[k]? = some q) : q.1 < H1.size := (h k q hk).lt
end VXS
/-! ===== END ===== -/
/-! ===== BEGIN methods with a table of their own: called by a name, returning or throwing ===== -/
section VXH
/-! vx_backW, vx_callVX, vx_callSX, vx_callVW, vx_runVW, vx_runVX, vx_runSX, vx_ofWH follow the same proofs as their sisters above (Free/Laws.lean, Shelf42/LK1.lean); vx_outP calls Shelf42/NT130.lean (outThrough). -/
section
variable {l : Launch} {R : Room} {p : Program} {e : Env} {below : List Frame} {s : State} {sargs : Array Value} {y : MethodName} {len W9 : Nat}
theorem vx_backW {ws : List Cond} {rm : Room} {Pc : Array Value → State → Prop} {Qc : Array Value → State → Outcome → State → Prop} {XC : String → State → State → Prop} {mc ms : Nat} {free : Addr → Prop} {bytes : ByteArray} {maxL : Nat} {ret : Option FieldType} {hh : List (Nat × Nat × Nat × Nat)}
    (hM : vx_Met l y ws rm Pc Qc XC mc ms free) (hblind : FrameBlind Pc) (hrc : rm.cells = mc) (hrs : rm.slots = ms)
    (hframes : rm.frames + 1 ≤ R.frames) (hlocals : W9 + (maxL + 11) + rm.locals ≤ R.locals)
    (hws : ∀ w ∈ ws, ∀ a' U, s.WarmedH U.vm → w.before a' U = true) (hcode : Cond.codeWith y bytes maxL ret hh ∈ ws) (hinit : ∀ a' U, s.WarmedH U.vm → (Cond.initialized y.cls).before a' U = true) :
    vx_Back l R p e below s sargs y len W9 (PreOf R mc ms Pc) (PostOf Qc mc ms free) (vx_Post XC mc ms free) := by
  intro m meth c A g ig mk a X hg hsize hdg hW hn hp
  have h1 : (headSpec ws rm).pre.before a A.U = true := atoms_intro fun w hw => hws w hw _ _ X.warmed
  have h2 : (Cond.codeWith y bytes maxL ret hh).before a A.U = true := hws _ hcode _ _ X.warmed
  have h3 : (Cond.initialized y.cls).before a A.U = true := hinit _ _ X.warmed
  have h4 : A.cells + (headSpec ws rm).room.cells ≤ R.cells := by rw [show (headSpec ws rm).room.cells = mc from hrc]; exact hp.1
  have h5 : A.slots + (headSpec ws rm).room.slots ≤ R.slots := by rw [show (headSpec ws rm).room.slots = ms from hrs]; exact hp.2.1
  have hPc : Pc a (A.U.calling g mk a) := hblind _ _ _ _ hp.2.2
  obtain ⟨U, Ls, c0, s0⟩ := A
  dsimp only [Pt.U, Pt.locs, Pt.cells, Pt.slots] at h1 h2 h3 h4 h5 X hn hPc ⊢
  obtain ⟨m9, methY, cY, hn9, hmY, hcY, -, hlY, -⟩ := Cond.codeWith_spec h2
  cases Option.some.inj (hn9.symm.trans hn)
  obtain ⟨kY, hkY, -⟩ := className_of_methodNamed hn
  have hinitY : kY.init = .initialized := Cond.initialized_spec (findClass_of_methodNamed hn) hkY h3
  have h : At U g.method c below := by rw [hg]; exact X.here
  have hlocals9 : W9 + (maxL + 11) + (headSpec ws rm).room.locals ≤ R.locals := hlocals
  have happ : (headSpec ws rm).appliesLoose y e.platform (U.calling g mk a) = true :=
    Spec.appliesLoose_calling (g := g) h hdg hn hkY hinitY
      (X.room_calling (g := g) (R' := (headSpec ws rm).room) hsize hmY hcY hframes (by rw [hlY]; omega) h4 h5) h1
  obtain ⟨mid, hmid⟩ := h.above
  have hfr : (U.setTop g).frames = (.java g :: mid) ++ below := by rw [State.frames_setTop' g h.top, hmid]; rfl
  obtain ⟨o, s₂, hsteps, -, hend, hq⟩ := Steps.callFree hM p X.admits X.cas X.clock (acts := []) hfr happ hPc trivial
  have hq' : vx_Q Qc XC mc ms free a (U.calling g mk a) o s₂ := hq
  rw [State.frames_setTop' g h.top] at hend
  obtain ⟨g₀, hg0⟩ := Option.isSome_iff_exists.mp h.top
  obtain ⟨r, hr⟩ := State.topJava?_eq_some.mp hg0
  have hr' : (({ U with heap := s₂.heap, slotsUsed := s₂.slotsUsed } : State).setVm s₂.vm).frames = .java g₀ :: r := hr
  rcases hq' with ⟨hqc, L, hfe, hL⟩ | ⟨q, rfl, E, ce, L, hx, hce, hcv, hcl, hW₂, hsm, hL⟩
  · obtain ⟨⟨v, rfl⟩, hW₂, e2, q2, q3, q4, q5, q6⟩ := id hfe
    have e3 : s₂ = ({ (U.calling g mk a).setFrames s₂.frames with heap := s₂.heap, slotsUsed := s₂.slotsUsed } : State).setVm s₂.vm := by
      have : s₂ = ({ s₂ with vm := (U.calling g mk a).vm } : State).setVm s₂.vm := rfl
      rw [e2] at this
      exact this
    obtain ⟨c₂, i₂, len₂, hc₂, hd₂, hf₂⟩ := hend
    have hW' : U.WarmedH s₂.vm := hW₂
    have hcc : c₂ = c := by
      have h1 : s₂.code? g.method = U.code? g.method := by
        rw [State.code?_eq, State.code?_eq, hW'.alike.method?]
      exact Option.some.inj (hc₂.symm.trans (h1.trans h.code))
    subst hcc
    have hlen : len₂ = len := by rw [hdg] at hd₂; cases hd₂; rfl
    subst hlen
    have hs₂ : s₂ = (({ U with heap := s₂.heap, slotsUsed := s₂.slotsUsed } : State).setVm s₂.vm).setTop { g with pc := g.pc + len₂, stack := v.toList ++ g.stack } := by
      refine e3.trans ?_
      rw [hf₂, State.calling_eq h.top, State.setFrames_setFrames, State.setTop_of_frames _ hr', hr]
      rfl
    have hsame : U.sameButNew ({ U with heap := s₂.heap, slotsUsed := s₂.slotsUsed } : State) L mc ms := by
      refine ⟨?_, q2, q3, q4, q5, q6⟩
      obtain ⟨t, ht, -⟩ := State.frames_cons hr
      show ({ U with heap := s₂.heap, slotsUsed := s₂.slotsUsed } : State) = { U.setFrames U.frames with heap := s₂.heap, slotsUsed := s₂.slotsUsed }
      rw [State.setFrames_self ht]
    subst hg
    refine Or.inl ⟨v, ⟨(({ U with heap := s₂.heap, slotsUsed := s₂.slotsUsed } : State).setVm s₂.vm), Ls ++ L, c0 + mc, s0 + ms⟩,
      ⟨X.admits, X.cas, X.clock, X.frames, X.room, X.hears, X.method, X.code, (X.here.setHeapUsed s₂.heap s₂.slotsUsed).setVm hW'.alike, X.tail, State.WarmedH.trans X.warmed hW', X.limits, X.bytes, X.same.trans (hsame.setVm s.vm)⟩,
      ⟨g, mk, s₂, L, rfl, rfl, hqc, rfl, hL, rfl, rfl⟩, ?_⟩
    show Steps p.tables e below _ ((({ U with heap := s₂.heap, slotsUsed := s₂.slotsUsed } : State).setVm s₂.vm).setTop { g with pc := g.pc + len₂, stack := v.toList ++ g.stack })
    rw [← hs₂]
    exact hsteps
  · obtain ⟨e2, q2, q3, q4, q5, q6⟩ := id hsm
    have e3 : s₂ = ({ (U.calling g mk a).setFrames s₂.frames with heap := s₂.heap, slotsUsed := s₂.slotsUsed } : State).setVm s₂.vm := by
      have : s₂ = ({ s₂ with vm := (U.calling g mk a).vm } : State).setVm s₂.vm := rfl
      rw [e2] at this
      exact this
    have hf₂ : s₂.frames = .throwing q :: .java g :: U.frames.tail := hend
    have hW' : U.WarmedH s₂.vm := hW₂
    have hs₂ : s₂ = ((({ U with heap := s₂.heap, slotsUsed := s₂.slotsUsed } : State).setVm s₂.vm).setTop g).pushFrame (.throwing q) := by
      refine e3.trans ?_
      rw [hf₂, State.calling_eq h.top, State.setFrames_setFrames, State.pushFrame, State.frames_setTop _ hr', State.setTop_of_frames _ hr', State.setFrames_setFrames, hr]
      rfl
    have hsame : U.sameButNew ({ U with heap := s₂.heap, slotsUsed := s₂.slotsUsed } : State) L mc ms := by
      refine ⟨?_, q2, q3, q4, q5, q6⟩
      obtain ⟨t, ht, -⟩ := State.frames_cons hr
      show ({ U with heap := s₂.heap, slotsUsed := s₂.slotsUsed } : State) = { U.setFrames U.frames with heap := s₂.heap, slotsUsed := s₂.slotsUsed }
      rw [State.setFrames_self ht]
    subst hg
    refine Or.inr ⟨q, ⟨(({ U with heap := s₂.heap, slotsUsed := s₂.slotsUsed } : State).setVm s₂.vm), Ls ++ L, c0 + mc, s0 + ms⟩,
      ⟨X.admits, X.cas, X.clock, X.frames, X.room, X.hears, X.method, X.code, (X.here.setHeapUsed s₂.heap s₂.slotsUsed).setVm hW'.alike, X.tail, State.WarmedH.trans X.warmed hW', X.limits, X.bytes, X.same.trans (hsame.setVm s.vm)⟩,
      ⟨g, mk, s₂, L, E, ce, rfl, rfl, hx, hce, hcv, hcl, rfl, hL, rfl, rfl⟩, ?_⟩
    show Steps p.tables e below _ (((({ U with heap := s₂.heap, slotsUsed := s₂.slotsUsed } : State).setVm s₂.vm).setTop g).pushFrame (.throwing q))
    rw [← hs₂]
    exact hsteps
end
variable {p : Program} {l : Launch} {e : Env} {R : Room} {s : State} {m : MethodId} {args : Array Value} {below : List Frame} {meth : Method} {c : Code} {T : State} {H : Heap} {locs : List Loc} {cells slots : Nat}
theorem vx_callVX (X : Stand p l e R s m args below meth c T locs cells slots) (hexec : p.tables.exec = Jvm.exec) {own C : String} {index : Nat} {y : MethodName} {bytes : ByteArray} {maxL : Nat} {ret : Option FieldType} {hh : List (Nat × Nat × Nat × Nat)}
    (hown : s.vm.findClass own = some m.cls) (hlink : (Cond.methodLink own index y).before args s = true) (hinst : (Cond.instanceMethod y).before args s = true) (hsel : (Cond.selects C y y).before args s = true)
    (hcode : (Cond.codeWith y bytes maxL ret hh).before args s = true) (hy : y.cls ≠ "java/lang/invoke/MethodHandle" ∧ y.cls ≠ "java/lang/invoke/VarHandle")
    {W9 : Nat} {Pre : Pt → Array Value → Prop} {Post : Pt → Array Value → Option Value → Pt → Prop} {PostX : Pt → Array Value → Addr → Pt → Prop} (hK : vx_Back l R p e below s args y 3 W9 Pre Post PostX)
    {b : Addr} {cellB : Cell} (hcell : T.heap[b]? = some cellB) (hobj : cellB.vm.isStatics = false) (hcls : s.vm.findClass C = some cellB.cls)
    {g : JFrame} (hg : g.method = m) (hsize : g.locals.size = c.maxLocals) {argsL rest : List Value} (hlen : ∀ sig, parseMethodDescriptor y.desc = some sig → argsL.length = sig.parameters.length)
    (hstack : g.stack = argsL.reverse ++ .ref b :: rest) (hW : 2 * g.monitorRoom + (rest.map fun v => v.category).sum ≤ W9) (hdg : decode c.code g.pc = .ok (.invokevirtual index, 3))
    (hpre : ∀ vm₁, s.WarmedH vm₁ → Pre ⟨T.setVm vm₁, locs, cells, slots⟩ (Value.ref b :: argsL).toArray) :
    (∃ (v : Option Value) (vm₁ : Vm) (B : Pt), s.WarmedH vm₁ ∧ Stand p l e R s m args below meth c B.U B.locs B.cells B.slots ∧ Post ⟨T.setVm vm₁, locs, cells, slots⟩ (Value.ref b :: argsL).toArray v B ∧
      ∀ target, Steps p.tables e below (B.U.setTop { g with pc := g.pc + 3, stack := v.toList ++ rest }) target → Steps p.tables e below (T.setTop g) target) ∨
    (∃ (q : Addr) (vm₁ : Vm) (B : Pt), s.WarmedH vm₁ ∧ Stand p l e R s m args below meth c B.U B.locs B.cells B.slots ∧ PostX ⟨T.setVm vm₁, locs, cells, slots⟩ (Value.ref b :: argsL).toArray q B ∧
      Steps p.tables e below (T.setTop g) ((B.U.setTop { g with stack := rest }).pushFrame (.throwing q))) := by
  obtain ⟨mk, methM, hnamed, hmethM, hstM, habM⟩ := Cond.instanceMethod_spec hinst
  obtain ⟨m8, methM', cM, hn8, hmethM', -, -, -, -, -, -, hsigM⟩ := Cond.codeWith_spec hcode
  cases Option.some.inj (hn8.symm.trans hnamed)
  cases hmethM.symm.trans hmethM'
  obtain ⟨c2, r2, m2, q1, q2, q3, q4, kP, hkP, hkPi⟩ := Cond.selects_spec hsel
  cases hcls.symm.trans q1
  cases (State.methodFound?_of_named hnamed hy).symm.trans q2
  cases hnamed.symm.trans q3
  have hselP : selectMethod e.platform s.vm cellB.cls mk = .method mk := by rw [Launch.admits_selectMethod X.admits]; exact q4
  obtain ⟨vm₁, X₁, hstep₁⟩ := X.invokevirtual hexec hown hlink hnamed hmethM hstM hkP hkPi hy (a := b) (cell := cellB) hcell
    (fun z h => by rw [h] at hobj; cases hobj) hselP hmethM habM hkP hkPi (g := g) hg (argsL := argsL) (rest := rest) (hlen _ hsigM) hstack hdg
  rcases hK m meth c ⟨T.setVm vm₁, locs, cells, slots⟩ { g with stack := rest } (.invokevirtual index) mk (Value.ref b :: argsL).toArray X₁ hg hsize hdg hW (X₁.named hnamed) (hpre vm₁ X₁.warmed) with ⟨v, B, X', hpost, hsteps⟩ | ⟨q, B, X', hpost, hsteps⟩
  · exact Or.inl ⟨v, vm₁, B, X₁.warmed, X', hpost, fun target h => hstep₁ _ fun acts => by rw [doInvoke_state]; exact hsteps.trans h⟩
  · exact Or.inr ⟨q, vm₁, B, X₁.warmed, X', hpost, hstep₁ _ fun acts => by rw [doInvoke_state]; exact hsteps⟩
theorem vx_callSX (X : Stand p l e R s m args below meth c T locs cells slots) (hexec : p.tables.exec = Jvm.exec) {own : String} {index : Nat} {y : MethodName} {bytes : ByteArray} {maxL : Nat} {ret : Option FieldType} {hh : List (Nat × Nat × Nat × Nat)}
    (hown : s.vm.findClass own = some m.cls) (hlink : (Cond.methodLink own index y).before args s = true) (hstat : (Cond.static y).before args s = true) (hinit : (Cond.initialized y.cls).before args s = true)
    (hcode : (Cond.codeWith y bytes maxL ret hh).before args s = true) (hy : y.cls ≠ "java/lang/invoke/MethodHandle" ∧ y.cls ≠ "java/lang/invoke/VarHandle")
    {W9 : Nat} {Pre : Pt → Array Value → Prop} {Post : Pt → Array Value → Option Value → Pt → Prop} {PostX : Pt → Array Value → Addr → Pt → Prop} (hK : vx_Back l R p e below s args y 3 W9 Pre Post PostX)
    {g : JFrame} (hg : g.method = m) (hsize : g.locals.size = c.maxLocals) {argsL rest : List Value} (hlen : ∀ sig, parseMethodDescriptor y.desc = some sig → argsL.length = sig.parameters.length)
    (hstack : g.stack = argsL.reverse ++ rest) (hW : 2 * g.monitorRoom + (rest.map fun v => v.category).sum ≤ W9) (hdg : decode c.code g.pc = .ok (.invokestatic index, 3))
    (hpre : ∀ vm₁, s.WarmedH vm₁ → Pre ⟨T.setVm vm₁, locs, cells, slots⟩ argsL.toArray) :
    (∃ (v : Option Value) (vm₁ : Vm) (B : Pt), s.WarmedH vm₁ ∧ Stand p l e R s m args below meth c B.U B.locs B.cells B.slots ∧ Post ⟨T.setVm vm₁, locs, cells, slots⟩ argsL.toArray v B ∧
      ∀ target, Steps p.tables e below (B.U.setTop { g with pc := g.pc + 3, stack := v.toList ++ rest }) target → Steps p.tables e below (T.setTop g) target) ∨
    (∃ (q : Addr) (vm₁ : Vm) (B : Pt), s.WarmedH vm₁ ∧ Stand p l e R s m args below meth c B.U B.locs B.cells B.slots ∧ PostX ⟨T.setVm vm₁, locs, cells, slots⟩ argsL.toArray q B ∧
      Steps p.tables e below (T.setTop g) ((B.U.setTop { g with stack := rest }).pushFrame (.throwing q))) := by
  obtain ⟨mk, methM, cM, hnamed, hmethM, -, -, -, -, -, -, hsigM⟩ := Cond.codeWith_spec hcode
  have hstatic : methM.isStatic = true := Cond.static_spec hnamed hmethM hstat
  obtain ⟨kP, hkP, -⟩ := className_of_methodNamed hnamed
  have hinitP : kP.init = .initialized := Cond.initialized_spec (findClass_of_methodNamed hnamed) hkP hinit
  obtain ⟨vm₁, X₁, hstep₁⟩ := X.invokestatic hexec hown hlink hnamed hmethM hstatic hkP hinitP hy (g := g) hg (argsL := argsL) (rest := rest) (hlen _ hsigM) hstack hdg
  rcases hK m meth c ⟨T.setVm vm₁, locs, cells, slots⟩ { g with stack := rest } (.invokestatic index) mk argsL.toArray X₁ hg hsize hdg hW (X₁.named hnamed) (hpre vm₁ X₁.warmed) with ⟨v, B, X', hpost, hsteps⟩ | ⟨q, B, X', hpost, hsteps⟩
  · exact Or.inl ⟨v, vm₁, B, X₁.warmed, X', hpost, fun target h => hstep₁ _ fun acts => by rw [doInvoke_state]; exact hsteps.trans h⟩
  · exact Or.inr ⟨q, vm₁, B, X₁.warmed, X', hpost, hstep₁ _ fun acts => by rw [doInvoke_state]; exact hsteps⟩
theorem vx_callVW (X : Stand p l e R s m args below meth c T locs cells slots) (hexec : p.tables.exec = Jvm.exec) {own C : String} {index : Nat} {y : MethodName} {bytes : ByteArray} {maxL : Nat} {ret : Option FieldType} {hh : List (Nat × Nat × Nat × Nat)}
    (hown : s.vm.findClass own = some m.cls) (hlink : (Cond.methodLink own index y).before args s = true) (hinst : (Cond.instanceMethod y).before args s = true) (hsel : (Cond.selects C y y).before args s = true)
    (hcode : (Cond.codeWith y bytes maxL ret hh).before args s = true) (hy : y.cls ≠ "java/lang/invoke/MethodHandle" ∧ y.cls ≠ "java/lang/invoke/VarHandle")
    {W9 : Nat} {Pre : Pt → Array Value → Prop} {Post : Pt → Array Value → Option Value → Pt → Prop} (hK : Back l R p e below s args y 3 W9 Pre Post)
    {b : Addr} {cellB : Cell} (hcell : T.heap[b]? = some cellB) (hobj : cellB.vm.isStatics = false) (hcls : s.vm.findClass C = some cellB.cls)
    {g : JFrame} (hg : g.method = m) (hsize : g.locals.size = c.maxLocals) {argsL rest : List Value} (hlen : ∀ sig, parseMethodDescriptor y.desc = some sig → argsL.length = sig.parameters.length)
    (hstack : g.stack = argsL.reverse ++ .ref b :: rest) (hW : 2 * g.monitorRoom + (rest.map fun v => v.category).sum ≤ W9) (hdg : decode c.code g.pc = .ok (.invokevirtual index, 3))
    (hpre : ∀ vm₁, s.WarmedH vm₁ → Pre ⟨T.setVm vm₁, locs, cells, slots⟩ (Value.ref b :: argsL).toArray) :
    ∃ (v : Option Value) (vm₁ : Vm) (B : Pt), s.WarmedH vm₁ ∧ Stand p l e R s m args below meth c B.U B.locs B.cells B.slots ∧ Post ⟨T.setVm vm₁, locs, cells, slots⟩ (Value.ref b :: argsL).toArray v B ∧
      ∀ target, Steps p.tables e below (B.U.setTop { g with pc := g.pc + 3, stack := v.toList ++ rest }) target → Steps p.tables e below (T.setTop g) target := by
  obtain ⟨mk, methM, hnamed, hmethM, hstM, habM⟩ := Cond.instanceMethod_spec hinst
  obtain ⟨m8, methM', cM, hn8, hmethM', -, -, -, -, -, -, hsigM⟩ := Cond.codeWith_spec hcode
  cases Option.some.inj (hn8.symm.trans hnamed)
  cases hmethM.symm.trans hmethM'
  obtain ⟨c2, r2, m2, q1, q2, q3, q4, kP, hkP, hkPi⟩ := Cond.selects_spec hsel
  cases hcls.symm.trans q1
  cases (State.methodFound?_of_named hnamed hy).symm.trans q2
  cases hnamed.symm.trans q3
  have hselP : selectMethod e.platform s.vm cellB.cls mk = .method mk := by rw [Launch.admits_selectMethod X.admits]; exact q4
  obtain ⟨vm₁, X₁, hstep₁⟩ := X.invokevirtual hexec hown hlink hnamed hmethM hstM hkP hkPi hy (a := b) (cell := cellB) hcell
    (fun z h => by rw [h] at hobj; cases hobj) hselP hmethM habM hkP hkPi (g := g) hg (argsL := argsL) (rest := rest) (hlen _ hsigM) hstack hdg
  obtain ⟨v, B, X', hpost, hsteps⟩ := hK m meth c ⟨T.setVm vm₁, locs, cells, slots⟩ { g with stack := rest } (.invokevirtual index) mk (Value.ref b :: argsL).toArray X₁ hg hsize hdg hW (X₁.named hnamed) (hpre vm₁ X₁.warmed)
  exact ⟨v, vm₁, B, X₁.warmed, X', hpost, fun target h => hstep₁ _ fun acts => by rw [doInvoke_state]; exact hsteps.trans h⟩
abbrev vx_CVW (R : Room) (s : State) (args : Array Value) (own C : String) (index : Nat) (y : MethodName) (bytes : ByteArray) (maxL : Nat) (ret : Option FieldType) (hh : List (Nat × Nat × Nat × Nat)) (ws : List Cond) (rm : Room) (mc ms n : Nat) : Prop :=
  (rm.cells = mc ∧ rm.slots = ms ∧ rm.frames + 1 ≤ R.frames ∧ 8 + (maxL + 11) + rm.locals ≤ R.locals ∧ (∀ w ∈ ws, ∀ (a' : Array Value) (U : State), s.WarmedH U.vm → w.before a' U = true) ∧ Cond.codeWith y bytes maxL ret hh ∈ ws) ∧
  (Cond.codeWith y bytes maxL ret hh).before args s = true ∧ (Cond.initialized y.cls).before args s = true ∧ (y.cls ≠ "java/lang/invoke/MethodHandle" ∧ y.cls ≠ "java/lang/invoke/VarHandle") ∧
  (∀ sig, parseMethodDescriptor y.desc = some sig → n = sig.parameters.length) ∧ (Cond.methodLink own index y).before args s = true ∧ (Cond.instanceMethod y).before args s = true ∧ (Cond.selects C y y).before args s = true
theorem vx_cwVW {own C : String} {index maxL mc ms : Nat} {y : MethodName} {bytes : ByteArray} {ret : Option FieldType} {hh : List (Nat × Nat × Nat × Nat)} {Ts ws ws' : List Cond} {rm : Room} (n : Nat) (ht : ∀ w ∈ Ts, w.before args s = true) (hT : GoodIn Ts (wsV own index C y ws)) (hw : ws = Cond.codeWith y bytes maxL ret hh :: ws') (hrc : rm.cells = mc) (hrs : rm.slots = ms)
    (hd : y.cls = C ∧ y.cls ≠ "java/lang/invoke/MethodHandle" ∧ y.cls ≠ "java/lang/invoke/VarHandle" ∧ (parseMethodDescriptor y.desc).map (fun d => d.parameters.length) = some n) (hR : rm.frames + 1 ≤ R.frames ∧ 8 + (maxL + 11) + rm.locals ≤ R.locals) :
    vx_CVW R s args own C index y bytes maxL ret hh ws rm mc ms n := by
  obtain ⟨hC, hd⟩ := hd
  subst hC
  have ok : ∀ w ∈ wsV own index y.cls y ws, w.before args s = true := fun w h => ht w (hT w h).1
  have hG : GoodIn Ts ws := fun w h => hT w (by unfold wsV; exact List.mem_append_right _ h)
  have hc : Cond.codeWith y bytes maxL ret hh ∈ ws := by rw [hw]; exact List.mem_cons_self
  refine ⟨⟨hrc, hrs, hR.1, hR.2, pay_in ht hG, hc⟩, ht _ (hG _ hc).1, ok _ (by simp [wsV]), ⟨hd.1, hd.2.1⟩, fun sig h => ?_, ok _ (by simp [wsV]), ok _ (by simp [wsV]), ok _ (by simp [wsV])⟩
  have h2 := hd.2.2
  rw [h] at h2
  exact (Option.some.inj h2).symm
theorem vx_runVW {y : MethodName} {bytes cc : ByteArray} {maxL nL mc ms n index : Nat} {ret : Option FieldType} {hh : List (Nat × Nat × Nat × Nat)} {ws : List Cond} {rm : Room} {Pc : Array Value → State → Prop} {Qc : Array Value → State → Outcome → State → Prop} {free : Addr → Prop} {Ts : List Cond} {own C : String} {b : Addr} {As rest : List Value} {g : JFrame}
    (S : CallFix p m c cc nL s args Ts own) (hM : Met l y ws rm Pc Qc mc ms free) (cw : vx_CVW R s args own C index y bytes maxL ret hh ws rm mc ms n) (hp : PreV s H C b Pc As)
    (hg : g.method = m) (hn : As.length = n) (hsize : g.locals.size = nL) (hstack : g.stack = As.reverse ++ .ref b :: rest) (hW : 2 * g.monitorRoom + (rest.map fun v => v.category).sum ≤ 8) (hdg : decode cc g.pc = .ok (.invokevirtual index, 3)) (hf : cells + mc ≤ R.cells ∧ slots + ms ≤ R.slots) :
    va_Run p l e R s m args below meth c H locs cells slots mc ms g rest (Qc (Value.ref b :: As).toArray) free := by
  obtain ⟨⟨hrc, hrs, hfr, hlo, hws, hcw⟩, hcode, hini, hy, hlen, hl, hin, hse⟩ := cw
  have hK : Back l R p e below s args y 3 8 (PreOf R mc ms Pc) (PostOf Qc mc ms free) := va_backW (hh := hh) (bytes := bytes) (maxL := maxL) (ret := ret) hM hp.1 hrc hrs hfr hlo hws hcw (fun a' U hW => word_at hW (Or.inl (by first | rfl | simp [Cond.onTables, Cond.keeps, Cond.steady])) hini)
  obtain ⟨hx, hb, hml, ho, -⟩ := S
  obtain ⟨-, ⟨cellB, hcB, hoB, hclB⟩, hPc⟩ := hp
  intro T hT X
  obtain ⟨v, vm₁, ⟨U', l2, c2, s2⟩, hW₁, X', ⟨g', mk, t, L, e1, e2, hq, h1, hL, h2, h3⟩, st⟩ := vx_callVW X hx (C := C) (hh := hh) (bytes := bytes) (maxL := maxL) (ret := ret) ho hl hin hse hcode hy hK (by rw [hT]; exact hcB) hoB hclB hg (hsize.trans hml.symm) (argsL := As) (rest := rest) (fun sig h => hn.trans (hlen sig h)) hstack hW (by rw [hb]; exact hdg)
    (fun vm₁ hW₁ => ⟨hf.1, hf.2, hPc (T.setVm vm₁) hT hW₁⟩)
  dsimp only [Pt.U, Pt.locs, Pt.cells, Pt.slots] at X' e1 e2 h1 h2 h3 st
  subst h1; subst h2; subst h3
  exact ⟨v, (T.setVm vm₁).calling g' mk (Value.ref b :: As).toArray, t, U', L, hT, X', hL, e1, e2, hq, st⟩
section
variable {y : MethodName} {bytes cc : ByteArray} {maxL nL mc ms n index : Nat} {ret : Option FieldType} {ws : List Cond} {rm : Room} {Pc : Array Value → State → Prop} {Qc : Array Value → State → Outcome → State → Prop} {XC : String → State → State → Prop} {free : Addr → Prop} {Ts : List Cond} {own C : String} {b : Addr} {As rest : List Value} {g : JFrame}
theorem vx_runVX {hh : List (Nat × Nat × Nat × Nat)} (S : CallFix p m c cc nL s args Ts own) (hM : vx_Met l y ws rm Pc Qc XC mc ms free) (cw : vx_CVW R s args own C index y bytes maxL ret hh ws rm mc ms n) (hp : PreV s H C b Pc As)
    (hg : g.method = m) (hn : As.length = n) (hsize : g.locals.size = nL) (hstack : g.stack = As.reverse ++ .ref b :: rest) (hW : 2 * g.monitorRoom + (rest.map fun v => v.category).sum ≤ 8) (hdg : decode cc g.pc = .ok (.invokevirtual index, 3)) (hf : cells + mc ≤ R.cells ∧ slots + ms ≤ R.slots) :
    vx_Run p l e R s m args below meth c H locs cells slots mc ms g rest (Qc (Value.ref b :: As).toArray) XC free := by
  obtain ⟨⟨hrc, hrs, hfr, hlo, hws, hcw⟩, hcode, hini, hy, hlen, hl, hin, hse⟩ := cw
  have hK : vx_Back l R p e below s args y 3 8 (PreOf R mc ms Pc) (PostOf Qc mc ms free) (vx_Post XC mc ms free) := vx_backW (hh := hh) (bytes := bytes) (maxL := maxL) (ret := ret) hM hp.1 hrc hrs hfr hlo hws hcw (fun a' U hW => word_at hW (Or.inl (by first | rfl | simp [Cond.onTables, Cond.keeps, Cond.steady])) hini)
  obtain ⟨hx, hb, hml, ho, -⟩ := S
  obtain ⟨-, ⟨cellB, hcB, hoB, hclB⟩, hPc⟩ := hp
  intro T hT X
  rcases vx_callVX X hx (C := C) (hh := hh) (bytes := bytes) (maxL := maxL) (ret := ret) ho hl hin hse hcode hy hK (by rw [hT]; exact hcB) hoB hclB hg (hsize.trans hml.symm) (argsL := As) (rest := rest) (fun sig h => hn.trans (hlen sig h)) hstack hW (by rw [hb]; exact hdg)
    (fun vm₁ hW₁ => ⟨hf.1, hf.2, hPc (T.setVm vm₁) hT hW₁⟩) with ⟨v, vm₁, ⟨U', l2, c2, s2⟩, hW₁, X', ⟨g', mk, t, L, e1, e2, hq, h1, hL, h2, h3⟩, st⟩ | ⟨q, vm₁, ⟨U', l2, c2, s2⟩, hW₁, X', ⟨g', mk, t, L, E, ce, e1, e2, hq, hce, hcv, hcl, h1, hL, h2, h3⟩, st⟩
  · dsimp only [Pt.U, Pt.locs, Pt.cells, Pt.slots] at X' e1 e2 h1 h2 h3 st
    subst h1; subst h2; subst h3
    exact Or.inl ⟨v, (T.setVm vm₁).calling g' mk (Value.ref b :: As).toArray, t, U', L, hT, X', hL, e1, e2, hq, st⟩
  · dsimp only [Pt.U, Pt.locs, Pt.cells, Pt.slots] at X' e1 e2 h1 h2 h3 st hcl
    subst h1; subst h2; subst h3
    exact Or.inr ⟨q, (T.setVm vm₁).calling g' mk (Value.ref b :: As).toArray, t, U', L, E, ce, hT, X', hL, e1, e2, hq, hce, hcv, vx_cls hW₁ hcl, st⟩
theorem vx_runSX {hh : List (Nat × Nat × Nat × Nat)} (S : CallFix p m c cc nL s args Ts own) (hM : vx_Met l y ws rm Pc Qc XC mc ms free) (cw : vx_CSW R s args own index y bytes maxL ret hh ws rm mc ms n) (hp : PreS s H Pc As)
    (hg : g.method = m) (hn : As.length = n) (hsize : g.locals.size = nL) (hstack : g.stack = As.reverse ++ rest) (hW : 2 * g.monitorRoom + (rest.map fun v => v.category).sum ≤ 8) (hdg : decode cc g.pc = .ok (.invokestatic index, 3)) (hf : cells + mc ≤ R.cells ∧ slots + ms ≤ R.slots) :
    vx_Run p l e R s m args below meth c H locs cells slots mc ms g rest (Qc As.toArray) XC free := by
  obtain ⟨⟨hrc, hrs, hfr, hlo, hws, hcw⟩, hcode, hini, hy, hlen, hl, hstt⟩ := cw
  have hK : vx_Back l R p e below s args y 3 8 (PreOf R mc ms Pc) (PostOf Qc mc ms free) (vx_Post XC mc ms free) := vx_backW (hh := hh) (bytes := bytes) (maxL := maxL) (ret := ret) hM hp.1 hrc hrs hfr hlo hws hcw (fun a' U hW => word_at hW (Or.inl (by first | rfl | simp [Cond.onTables, Cond.keeps, Cond.steady])) hini)
  obtain ⟨hx, hb, hml, ho, -⟩ := S
  intro T hT X
  rcases vx_callSX X hx (hh := hh) (bytes := bytes) (maxL := maxL) (ret := ret) ho hl hstt hini hcode hy hK hg (hsize.trans hml.symm) (argsL := As) (rest := rest) (fun sig h => hn.trans (hlen sig h)) hstack hW (by rw [hb]; exact hdg)
    (fun vm₁ hW₁ => ⟨hf.1, hf.2, hp.2 (T.setVm vm₁) hT hW₁⟩) with ⟨v, vm₁, ⟨U', l2, c2, s2⟩, hW₁, X', ⟨g', mk, t, L, e1, e2, hq, h1, hL, h2, h3⟩, st⟩ | ⟨q, vm₁, ⟨U', l2, c2, s2⟩, hW₁, X', ⟨g', mk, t, L, E, ce, e1, e2, hq, hce, hcv, hcl, h1, hL, h2, h3⟩, st⟩
  · dsimp only [Pt.U, Pt.locs, Pt.cells, Pt.slots] at X' e1 e2 h1 h2 h3 st
    subst h1; subst h2; subst h3
    exact Or.inl ⟨v, (T.setVm vm₁).calling g' mk As.toArray, t, U', L, hT, X', hL, e1, e2, hq, st⟩
  · dsimp only [Pt.U, Pt.locs, Pt.cells, Pt.slots] at X' e1 e2 h1 h2 h3 st hcl
    subst h1; subst h2; subst h3
    exact Or.inr ⟨q, (T.setVm vm₁).calling g' mk As.toArray, t, U', L, E, ce, hT, X', hL, e1, e2, hq, hce, hcv, vx_cls hW₁ hcl, st⟩
end
end VXH
theorem vx_ofWH {l : Launch} {y : MethodName} {ws ws' : List Cond} {rm : Room} {Pc : Array Value → State → Prop} {Qc : Array Value → State → Outcome → State → Prop} {XC : String → State → State → Prop} {mc ms : Nat} {free : Addr → Prop} {cc : ByteArray} {maxL : Nat} {ret : Option FieldType} {hh : List (Nat × Nat × Nat × Nat)}
    (hy : plainName y.cls = true) (hw : ws = Cond.codeWith y cc maxL ret hh :: ws')
    (body : ∀ p e s m args below meth c s₁, BodyLoose p l y (headSpec ws rm) cc maxL ret e s m args below meth c s₁ → c.maxLocals = maxL → Pc args s →
      W p l e (headSpec ws rm).room s m args below meth c s.heap [] 0 0 (vx_MQ below Qc XC args s mc ms free) (entryFrame m args maxL)) : vx_Met l y ws rm Pc Qc XC mc ms free := by
  refine MetFree.of_bodyS (code := cc) (maxLocals := maxL) (ret := ret) hy ?_ ?_
  · intro args s m h hn
    obtain ⟨m9, meth, c, hn9, h1, h2, h3, h4, -, h5, h6, -⟩ := Cond.codeWith_spec (atoms_spec (ws := ws) h _ (by rw [hw]; exact List.mem_cons_self))
    cases hn.symm.trans hn9
    exact ⟨meth, c, h1, h2, h3, h4, h5, h6⟩
  · intro p e s m args below meth c s₁ B hml hP _
    have hh0 : s₁.heap = s.heap := by rw [B.state]; rfl
    obtain ⟨t, a1, o, b1, b2, b3⟩ := body p e s m args below meth c s₁ B hml hP s₁ hh0 (Stand.of_body B)
    exact ⟨t, o, a1, b1, b2, b3⟩
/-! ===== END ===== -/
end
section
def RX0 : String := "PagerHouse$Body"
def TX0 : u_T := fun k => match k with
  | 0 => ("PagerHouse$Body", "pageNumber", "I", true)
  | 1 => ("PagerHouse$Body", "frame", "I", false)
  | 2 => ("PagerHouse$Body", "sector", "I", false)
  | 3 => ("PagerHouse$Body", "holders", "I", false)
  | _ => ("PagerHouse$Body", "dirty", "Z", false)
def tyX0 : Nat → FieldType := fun k => match k with
  | 0 => .int
  | 1 => .int
  | 2 => .int
  | 3 => .int
  | _ => .boolean
theorem nmX0 : ∀ a, a < 5 → ∀ b, b < 5 → a ≠ b → (TX0 a).2.1 ≠ (TX0 b).2.1 := by decide +kernel
theorem tyX0_ok : ∀ k, k < 5 → parseFieldDescriptor (TX0 k).2.2.1 = some (tyX0 k) := by decide +kernel
abbrev cX0_init : ByteArray := prog_2_method_1_code
def yX0_init : MethodName := ⟨RX0, "<init>", "(I)V"⟩
def RX1 : String := "PagerHouse$Rows"
def TX1 : u_T := fun k => match k with
  | 0 => ("PagerHouse$Rows", "content", "[LPagerHouse$Body;", true)
  | _ => ("PagerHouse$Rows", "words", "[I", true)
def tyX1 : Nat → FieldType := fun k => match k with
  | 0 => .array (.object "PagerHouse$Body")
  | _ => .array .int
theorem nmX1 : ∀ a, a < 2 → ∀ b, b < 2 → a ≠ b → (TX1 a).2.1 ≠ (TX1 b).2.1 := by decide +kernel
theorem tyX1_ok : ∀ k, k < 2 → parseFieldDescriptor (TX1 k).2.2.1 = some (tyX1 k) := by decide +kernel
abbrev cX1_init : ByteArray := prog_3_method_1_code
def yX1_init : MethodName := ⟨RX1, "<init>", "(I)V"⟩
abbrev cX1_has : ByteArray := prog_3_method_2_code
def yX1_has : MethodName := ⟨RX1, "has", "(I)Z"⟩
abbrev cX1_leastFree : ByteArray := prog_3_method_3_code
def yX1_leastFree : MethodName := ⟨RX1, "leastFree", "()I"⟩
abbrev cX1_countFree : ByteArray := prog_3_method_4_code
def yX1_countFree : MethodName := ⟨RX1, "countFree", "()I"⟩
abbrev cX1_zero : ByteArray := prog_3_method_5_code
def yX1_zero : MethodName := ⟨RX1, "zero", "(I)V"⟩
abbrev cX1_copyWords : ByteArray := prog_3_method_6_code
def yX1_copyWords : MethodName := ⟨RX1, "copyWords", "(ILPagerHouse$Rows;I)V"⟩
def RX2 : String := "PagerHouse"
def TX2 : u_T := fun k => match k with
  | 0 => ("PagerHouse", "frames", "LPagerHouse$Rows;", true)
  | 1 => ("PagerHouse", "sectors", "LPagerHouse$Rows;", true)
  | 2 => ("PagerHouse", "used", "[Z", true)
  | 3 => ("PagerHouse", "hand", "I", false)
  | 4 => ("PagerHouse", "pageCounts", "[I", true)
  | 5 => ("PagerHouse", "bodies", "[LPagerHouse$Body;", true)
  | 6 => ("PagerHouse", "accesses", "I", false)
  | 7 => ("PagerHouse", "taken", "I", false)
  | 8 => ("PagerHouse", "brought", "I", false)
  | 9 => ("PagerHouse", "storings", "I", false)
  | _ => ("PagerHouse", "copies", "I", false)
def tyX2 : Nat → FieldType := fun k => match k with
  | 0 => .object "PagerHouse$Rows"
  | 1 => .object "PagerHouse$Rows"
  | 2 => .array .boolean
  | 3 => .int
  | 4 => .array .int
  | 5 => .array (.object "PagerHouse$Body")
  | 6 => .int
  | 7 => .int
  | 8 => .int
  | 9 => .int
  | _ => .int
theorem nmX2 : ∀ a, a < 11 → ∀ b, b < 11 → a ≠ b → (TX2 a).2.1 ≠ (TX2 b).2.1 := by decide +kernel
theorem tyX2_ok : ∀ k, k < 11 → parseFieldDescriptor (TX2 k).2.2.1 = some (tyX2 k) := by decide +kernel
abbrev cX2_init : ByteArray := prog_1_method_1_code
def yX2_init : MethodName := ⟨RX2, "<init>", "(II)V"⟩
abbrev cX2_begin : ByteArray := prog_1_method_2_code
def yX2_begin : MethodName := ⟨RX2, "begin", "(I)I"⟩
abbrev cX2_fork : ByteArray := prog_1_method_3_code
def yX2_fork : MethodName := ⟨RX2, "fork", "(I)I"⟩
abbrev cX2_end : ByteArray := prog_1_method_4_code
def yX2_end : MethodName := ⟨RX2, "end", "(I)Z"⟩
abbrev cX2_read : ByteArray := prog_1_method_5_code
def yX2_read : MethodName := ⟨RX2, "read", "(II)I"⟩
abbrev cX2_write : ByteArray := prog_1_method_6_code
def yX2_write : MethodName := ⟨RX2, "write", "(III)I"⟩
abbrev cX2_drop : ByteArray := prog_1_method_7_code
def yX2_drop : MethodName := ⟨RX2, "drop", "(II)Z"⟩
abbrev cX2_flush : ByteArray := prog_1_method_8_code
def yX2_flush : MethodName := ⟨RX2, "flush", "()I"⟩
abbrev cX2_page : ByteArray := prog_1_method_9_code
def yX2_page : MethodName := ⟨RX2, "page", "(III)I"⟩
abbrev cX2_frame : ByteArray := prog_1_method_10_code
def yX2_frame : MethodName := ⟨RX2, "frame", "(II)I"⟩
abbrev cX2_stored : ByteArray := prog_1_method_11_code
def yX2_stored : MethodName := ⟨RX2, "stored", "(II)I"⟩
abbrev cX2_look : ByteArray := prog_1_method_12_code
def yX2_look : MethodName := ⟨RX2, "look", "(I)I"⟩
abbrev cX2_leastFreeProcess : ByteArray := prog_1_method_13_code
def yX2_leastFreeProcess : MethodName := ⟨RX2, "leastFreeProcess", "()I"⟩
abbrev cX2_hasProcess : ByteArray := prog_1_method_14_code
def yX2_hasProcess : MethodName := ⟨RX2, "hasProcess", "(I)Z"⟩
abbrev cX2_hasPage : ByteArray := prog_1_method_15_code
def yX2_hasPage : MethodName := ⟨RX2, "hasPage", "(II)Z"⟩
abbrev cX2_slot : ByteArray := prog_1_method_16_code
def yX2_slot : MethodName := ⟨RX2, "slot", "(II)I"⟩
abbrev cX2_checkAddress : ByteArray := prog_1_method_17_code
def yX2_checkAddress : MethodName := ⟨RX2, "checkAddress", "(II)V"⟩
abbrev cX2_checkRoom : ByteArray := prog_1_method_18_code
def yX2_checkRoom : MethodName := ⟨RX2, "checkRoom", "(I)V"⟩
abbrev cX2_takesToRead : ByteArray := prog_1_method_19_code
def yX2_takesToRead : MethodName := ⟨RX2, "takesToRead", "(LPagerHouse$Body;)I"⟩
abbrev cX2_takesToWrite : ByteArray := prog_1_method_20_code
def yX2_takesToWrite : MethodName := ⟨RX2, "takesToWrite", "(LPagerHouse$Body;)I"⟩
abbrev cX2_ownBody : ByteArray := prog_1_method_21_code
def yX2_ownBody : MethodName := ⟨RX2, "ownBody", "(LPagerHouse$Body;I)LPagerHouse$Body;"⟩
abbrev cX2_newBody : ByteArray := prog_1_method_22_code
def yX2_newBody : MethodName := ⟨RX2, "newBody", "(II)LPagerHouse$Body;"⟩
abbrev cX2_copyBody : ByteArray := prog_1_method_23_code
def yX2_copyBody : MethodName := ⟨RX2, "copyBody", "(LPagerHouse$Body;I)LPagerHouse$Body;"⟩
abbrev cX2_bring : ByteArray := prog_1_method_24_code
def yX2_bring : MethodName := ⟨RX2, "bring", "(LPagerHouse$Body;I)V"⟩
abbrev cX2_lay : ByteArray := prog_1_method_25_code
def yX2_lay : MethodName := ⟨RX2, "lay", "(LPagerHouse$Body;I)V"⟩
abbrev cX2_take : ByteArray := prog_1_method_26_code
def yX2_take : MethodName := ⟨RX2, "take", "(I)I"⟩
abbrev cX2_secondChance : ByteArray := prog_1_method_27_code
def yX2_secondChance : MethodName := ⟨RX2, "secondChance", "(I)I"⟩
abbrev cX2_behind : ByteArray := prog_1_method_28_code
def yX2_behind : MethodName := ⟨RX2, "behind", "(I)I"⟩
abbrev cX2_vacate : ByteArray := prog_1_method_29_code
def yX2_vacate : MethodName := ⟨RX2, "vacate", "(I)V"⟩
abbrev cX2_store : ByteArray := prog_1_method_30_code
def yX2_store : MethodName := ⟨RX2, "store", "(LPagerHouse$Body;)V"⟩
abbrev cX2_empty : ByteArray := prog_1_method_31_code
def yX2_empty : MethodName := ⟨RX2, "empty", "(I)Z"⟩
abbrev cX2_release : ByteArray := prog_1_method_32_code
def yX2_release : MethodName := ⟨RX2, "release", "(LPagerHouse$Body;)V"⟩
abbrev cX2_leastHolder : ByteArray := prog_1_method_33_code
def yX2_leastHolder : MethodName := ⟨RX2, "leastHolder", "(LPagerHouse$Body;)I"⟩
abbrev cX2_countProcesses : ByteArray := prog_1_method_34_code
def yX2_countProcesses : MethodName := ⟨RX2, "countProcesses", "()I"⟩
abbrev cX2_countBodies : ByteArray := prog_1_method_35_code
def yX2_countBodies : MethodName := ⟨RX2, "countBodies", "()I"⟩
abbrev cX2_countDirty : ByteArray := prog_1_method_36_code
def yX2_countDirty : MethodName := ⟨RX2, "countDirty", "()I"⟩
abbrev cX2_countWithoutSector : ByteArray := prog_1_method_37_code
def yX2_countWithoutSector : MethodName := ⟨RX2, "countWithoutSector", "()I"⟩
def RX3 : String := "PagerHouseModel"
def TX3 : u_T := fun k => match k with
  | 0 => ("PagerHouseModel", "thrown", "I", false)
  | 1 => ("PagerHouseModel", "frames", "I", true)
  | 2 => ("PagerHouseModel", "sectors", "I", true)
  | 3 => ("PagerHouseModel", "pages", "[I", true)
  | 4 => ("PagerHouseModel", "bodyOf", "[I", true)
  | 5 => ("PagerHouseModel", "is", "[Z", true)
  | 6 => ("PagerHouseModel", "frameOf", "[I", true)
  | 7 => ("PagerHouseModel", "sectorOf", "[I", true)
  | 8 => ("PagerHouseModel", "dirty", "[Z", true)
  | 9 => ("PagerHouseModel", "inFrame", "[I", true)
  | 10 => ("PagerHouseModel", "inSector", "[I", true)
  | 11 => ("PagerHouseModel", "used", "[Z", true)
  | 12 => ("PagerHouseModel", "hand", "I", false)
  | 13 => ("PagerHouseModel", "asked", "I", false)
  | 14 => ("PagerHouseModel", "taken", "I", false)
  | 15 => ("PagerHouseModel", "brought", "I", false)
  | 16 => ("PagerHouseModel", "stores", "I", false)
  | _ => ("PagerHouseModel", "copies", "I", false)
def tyX3 : Nat → FieldType := fun k => match k with
  | 0 => .int
  | 1 => .int
  | 2 => .int
  | 3 => .array .int
  | 4 => .array .int
  | 5 => .array .boolean
  | 6 => .array .int
  | 7 => .array .int
  | 8 => .array .boolean
  | 9 => .array .int
  | 10 => .array .int
  | 11 => .array .boolean
  | 12 => .int
  | 13 => .int
  | 14 => .int
  | 15 => .int
  | 16 => .int
  | _ => .int
theorem nmX3 : ∀ a, a < 18 → ∀ b, b < 18 → a ≠ b → (TX3 a).2.1 ≠ (TX3 b).2.1 := by decide +kernel
theorem tyX3_ok : ∀ k, k < 18 → parseFieldDescriptor (TX3 k).2.2.1 = some (tyX3 k) := by decide +kernel
abbrev cX3_init : ByteArray := prog_5_method_1_code
def yX3_init : MethodName := ⟨RX3, "<init>", "(II)V"⟩
abbrev cX3_thrown : ByteArray := prog_5_method_2_code
def yX3_thrown : MethodName := ⟨RX3, "thrown", "()I"⟩
abbrev cX3_isProcess : ByteArray := prog_5_method_3_code
def yX3_isProcess : MethodName := ⟨RX3, "isProcess", "(I)Z"⟩
abbrev cX3_isPage : ByteArray := prog_5_method_4_code
def yX3_isPage : MethodName := ⟨RX3, "isPage", "(II)Z"⟩
abbrev cX3_leastProcess : ByteArray := prog_5_method_5_code
def yX3_leastProcess : MethodName := ⟨RX3, "leastProcess", "()I"⟩
abbrev cX3_bodyIn : ByteArray := prog_5_method_6_code
def yX3_bodyIn : MethodName := ⟨RX3, "bodyIn", "(I)I"⟩
abbrev cX3_isSectorFree : ByteArray := prog_5_method_7_code
def yX3_isSectorFree : MethodName := ⟨RX3, "isSectorFree", "(I)Z"⟩
abbrev cX3_freeFrames : ByteArray := prog_5_method_8_code
def yX3_freeFrames : MethodName := ⟨RX3, "freeFrames", "()I"⟩
abbrev cX3_freeSectors : ByteArray := prog_5_method_9_code
def yX3_freeSectors : MethodName := ⟨RX3, "freeSectors", "()I"⟩
abbrev cX3_holders : ByteArray := prog_5_method_10_code
def yX3_holders : MethodName := ⟨RX3, "holders", "(I)I"⟩
abbrev cX3_newBody : ByteArray := prog_5_method_11_code
def yX3_newBody : MethodName := ⟨RX3, "newBody", "(I)I"⟩
abbrev cX3_leave : ByteArray := prog_5_method_12_code
def yX3_leave : MethodName := ⟨RX3, "leave", "(I)V"⟩
abbrev cX3_store : ByteArray := prog_5_method_13_code
def yX3_store : MethodName := ⟨RX3, "store", "(I)V"⟩
abbrev cX3_take : ByteArray := prog_5_method_14_code
def yX3_take : MethodName := ⟨RX3, "take", "(I)I"⟩
abbrev cX3_bring : ByteArray := prog_5_method_15_code
def yX3_bring : MethodName := ⟨RX3, "bring", "(I)V"⟩
abbrev cX3_begin : ByteArray := prog_5_method_16_code
def yX3_begin : MethodName := ⟨RX3, "begin", "(I)I"⟩
abbrev cX3_fork : ByteArray := prog_5_method_17_code
def yX3_fork : MethodName := ⟨RX3, "fork", "(I)I"⟩
abbrev cX3_end : ByteArray := prog_5_method_18_code
def yX3_end : MethodName := ⟨RX3, "end", "(I)Z"⟩
abbrev cX3_drop : ByteArray := prog_5_method_19_code
def yX3_drop : MethodName := ⟨RX3, "drop", "(II)Z"⟩
abbrev cX3_fails : ByteArray := prog_5_method_20_code
def yX3_fails : MethodName := ⟨RX3, "fails", "(IIZ)Z"⟩
abbrev cX3_read : ByteArray := prog_5_method_21_code
def yX3_read : MethodName := ⟨RX3, "read", "(II)I"⟩
abbrev cX3_write : ByteArray := prog_5_method_22_code
def yX3_write : MethodName := ⟨RX3, "write", "(III)I"⟩
abbrev cX3_flush : ByteArray := prog_5_method_23_code
def yX3_flush : MethodName := ⟨RX3, "flush", "()I"⟩
abbrev cX3_page : ByteArray := prog_5_method_24_code
def yX3_page : MethodName := ⟨RX3, "page", "(III)I"⟩
abbrev cX3_frame : ByteArray := prog_5_method_25_code
def yX3_frame : MethodName := ⟨RX3, "frame", "(II)I"⟩
abbrev cX3_stored : ByteArray := prog_5_method_26_code
def yX3_stored : MethodName := ⟨RX3, "stored", "(II)I"⟩
abbrev cX3_look : ByteArray := prog_5_method_27_code
def yX3_look : MethodName := ⟨RX3, "look", "(I)I"⟩
def RJ7 : String := "java/util/Arrays"
abbrev cJ7_rangeCheck_23922 : ByteArray := prog_21_method_30_code
def yJ7_rangeCheck_23922 : MethodName := ⟨RJ7, "rangeCheck", "(III)V"⟩
abbrev cJ7_fill_fda19 : ByteArray := prog_21_method_104_code
def yJ7_fill_fda19 : MethodName := ⟨RJ7, "fill", "([IIII)V"⟩
def RL : String := "PagerHouseLaw"
abbrev cL_cell : ByteArray := method_2_code
def yL_cell : MethodName := ⟨RL, "cell", "([II)I"⟩
abbrev cL_read : ByteArray := method_3_code
def yL_read : MethodName := ⟨RL, "read", "(LPagerHouse;II[J)I"⟩
abbrev cL_write : ByteArray := method_4_code
def yL_write : MethodName := ⟨RL, "write", "(LPagerHouse;III[J)I"⟩
abbrev cL_stored : ByteArray := method_5_code
def yL_stored : MethodName := ⟨RL, "stored", "(LPagerHouse;II[J)I"⟩
abbrev cL_law : ByteArray := code
def yL_law : MethodName := ⟨RL, "law", "([I)Z"⟩
theorem dX0_init_0 : decode cX0_init 0 = .ok (.aload_n 0, 1) := by decide +kernel
theorem dX0_init_1 : decode cX0_init 1 = .ok (.invokespecial 3, 3) := by decide +kernel
theorem dX0_init_4 : decode cX0_init 4 = .ok (.aload_n 0, 1) := by decide +kernel
theorem dX0_init_5 : decode cX0_init 5 = .ok (.iload_n 1, 1) := by decide +kernel
theorem dX0_init_6 : decode cX0_init 6 = .ok (.putfield 9, 3) := by decide +kernel
theorem dX0_init_9 : decode cX0_init 9 = .ok (.aload_n 0, 1) := by decide +kernel
theorem dX0_init_10 : decode cX0_init 10 = .ok (.iconst (-1), 1) := by decide +kernel
theorem dX0_init_11 : decode cX0_init 11 = .ok (.putfield 15, 3) := by decide +kernel
theorem dX0_init_14 : decode cX0_init 14 = .ok (.aload_n 0, 1) := by decide +kernel
theorem dX0_init_15 : decode cX0_init 15 = .ok (.iconst (-1), 1) := by decide +kernel
theorem dX0_init_16 : decode cX0_init 16 = .ok (.putfield 18, 3) := by decide +kernel
theorem dX0_init_19 : decode cX0_init 19 = .ok (.aload_n 0, 1) := by decide +kernel
theorem dX0_init_20 : decode cX0_init 20 = .ok (.iconst 1, 1) := by decide +kernel
theorem dX0_init_21 : decode cX0_init 21 = .ok (.putfield 21, 3) := by decide +kernel
theorem dX0_init_24 : decode cX0_init 24 = .ok (.return_, 1) := by decide +kernel
theorem dX1_init_0 : decode cX1_init 0 = .ok (.aload_n 0, 1) := by decide +kernel
theorem dX1_init_1 : decode cX1_init 1 = .ok (.invokespecial 3, 3) := by decide +kernel
theorem dX1_init_4 : decode cX1_init 4 = .ok (.aload_n 0, 1) := by decide +kernel
theorem dX1_init_5 : decode cX1_init 5 = .ok (.iload_n 1, 1) := by decide +kernel
theorem dX1_init_6 : decode cX1_init 6 = .ok (.anewarray 9, 3) := by decide +kernel
theorem dX1_init_9 : decode cX1_init 9 = .ok (.putfield 11, 3) := by decide +kernel
theorem dX1_init_12 : decode cX1_init 12 = .ok (.aload_n 0, 1) := by decide +kernel
theorem dX1_init_13 : decode cX1_init 13 = .ok (.iload_n 1, 1) := by decide +kernel
theorem dX1_init_14 : decode cX1_init 14 = .ok (.bipush 16, 2) := by decide +kernel
theorem dX1_init_16 : decode cX1_init 16 = .ok (.imul, 1) := by decide +kernel
theorem dX1_init_17 : decode cX1_init 17 = .ok (.newarray .int, 2) := by decide +kernel
theorem dX1_init_19 : decode cX1_init 19 = .ok (.putfield 17, 3) := by decide +kernel
theorem dX1_init_22 : decode cX1_init 22 = .ok (.return_, 1) := by decide +kernel
theorem dX1_has_0 : decode cX1_has 0 = .ok (.iload_n 1, 1) := by decide +kernel
theorem dX1_has_1 : decode cX1_has 1 = .ok (.ifCond .lt 16, 3) := by decide +kernel
theorem dX1_has_4 : decode cX1_has 4 = .ok (.iload_n 1, 1) := by decide +kernel
theorem dX1_has_5 : decode cX1_has 5 = .ok (.aload_n 0, 1) := by decide +kernel
theorem dX1_has_6 : decode cX1_has 6 = .ok (.getfield 11, 3) := by decide +kernel
theorem dX1_has_9 : decode cX1_has 9 = .ok (.arraylength, 1) := by decide +kernel
theorem dX1_has_10 : decode cX1_has 10 = .ok (.if_icmp .ge 7, 3) := by decide +kernel
theorem dX1_has_13 : decode cX1_has 13 = .ok (.iconst 1, 1) := by decide +kernel
theorem dX1_has_14 : decode cX1_has 14 = .ok (.goto 4, 3) := by decide +kernel
theorem dX1_has_17 : decode cX1_has 17 = .ok (.iconst 0, 1) := by decide +kernel
theorem dX1_has_18 : decode cX1_has 18 = .ok (.ireturn, 1) := by decide +kernel
theorem dX1_leastFree_0 : decode cX1_leastFree 0 = .ok (.iconst 0, 1) := by decide +kernel
theorem dX1_leastFree_1 : decode cX1_leastFree 1 = .ok (.istore_n 1, 1) := by decide +kernel
theorem dX1_leastFree_2 : decode cX1_leastFree 2 = .ok (.iload_n 1, 1) := by decide +kernel
theorem dX1_leastFree_3 : decode cX1_leastFree 3 = .ok (.aload_n 0, 1) := by decide +kernel
theorem dX1_leastFree_4 : decode cX1_leastFree 4 = .ok (.getfield 11, 3) := by decide +kernel
theorem dX1_leastFree_7 : decode cX1_leastFree 7 = .ok (.arraylength, 1) := by decide +kernel
theorem dX1_leastFree_8 : decode cX1_leastFree 8 = .ok (.if_icmp .ge 20, 3) := by decide +kernel
theorem dX1_leastFree_11 : decode cX1_leastFree 11 = .ok (.aload_n 0, 1) := by decide +kernel
theorem dX1_leastFree_12 : decode cX1_leastFree 12 = .ok (.getfield 11, 3) := by decide +kernel
theorem dX1_leastFree_15 : decode cX1_leastFree 15 = .ok (.iload_n 1, 1) := by decide +kernel
theorem dX1_leastFree_16 : decode cX1_leastFree 16 = .ok (.aaload, 1) := by decide +kernel
theorem dX1_leastFree_17 : decode cX1_leastFree 17 = .ok (.ifnonnull 5, 3) := by decide +kernel
theorem dX1_leastFree_20 : decode cX1_leastFree 20 = .ok (.iload_n 1, 1) := by decide +kernel
theorem dX1_leastFree_21 : decode cX1_leastFree 21 = .ok (.ireturn, 1) := by decide +kernel
theorem dX1_leastFree_22 : decode cX1_leastFree 22 = .ok (.iinc 1 1, 3) := by decide +kernel
theorem dX1_leastFree_25 : decode cX1_leastFree 25 = .ok (.goto (-23), 3) := by decide +kernel
theorem dX1_leastFree_28 : decode cX1_leastFree 28 = .ok (.iconst (-1), 1) := by decide +kernel
theorem dX1_leastFree_29 : decode cX1_leastFree 29 = .ok (.ireturn, 1) := by decide +kernel
theorem dX1_countFree_0 : decode cX1_countFree 0 = .ok (.iconst 0, 1) := by decide +kernel
theorem dX1_countFree_1 : decode cX1_countFree 1 = .ok (.istore_n 1, 1) := by decide +kernel
theorem dX1_countFree_2 : decode cX1_countFree 2 = .ok (.iconst 0, 1) := by decide +kernel
theorem dX1_countFree_3 : decode cX1_countFree 3 = .ok (.istore_n 2, 1) := by decide +kernel
theorem dX1_countFree_4 : decode cX1_countFree 4 = .ok (.iload_n 2, 1) := by decide +kernel
theorem dX1_countFree_5 : decode cX1_countFree 5 = .ok (.aload_n 0, 1) := by decide +kernel
theorem dX1_countFree_6 : decode cX1_countFree 6 = .ok (.getfield 11, 3) := by decide +kernel
theorem dX1_countFree_9 : decode cX1_countFree 9 = .ok (.arraylength, 1) := by decide +kernel
theorem dX1_countFree_10 : decode cX1_countFree 10 = .ok (.if_icmp .ge 21, 3) := by decide +kernel
theorem dX1_countFree_13 : decode cX1_countFree 13 = .ok (.aload_n 0, 1) := by decide +kernel
theorem dX1_countFree_14 : decode cX1_countFree 14 = .ok (.getfield 11, 3) := by decide +kernel
theorem dX1_countFree_17 : decode cX1_countFree 17 = .ok (.iload_n 2, 1) := by decide +kernel
theorem dX1_countFree_18 : decode cX1_countFree 18 = .ok (.aaload, 1) := by decide +kernel
theorem dX1_countFree_19 : decode cX1_countFree 19 = .ok (.ifnonnull 6, 3) := by decide +kernel
theorem dX1_countFree_22 : decode cX1_countFree 22 = .ok (.iinc 1 1, 3) := by decide +kernel
theorem dX1_countFree_25 : decode cX1_countFree 25 = .ok (.iinc 2 1, 3) := by decide +kernel
theorem dX1_countFree_28 : decode cX1_countFree 28 = .ok (.goto (-24), 3) := by decide +kernel
theorem dX1_countFree_31 : decode cX1_countFree 31 = .ok (.iload_n 1, 1) := by decide +kernel
theorem dX1_countFree_32 : decode cX1_countFree 32 = .ok (.ireturn, 1) := by decide +kernel
theorem dX1_zero_0 : decode cX1_zero 0 = .ok (.aload_n 0, 1) := by decide +kernel
theorem dX1_zero_1 : decode cX1_zero 1 = .ok (.iload_n 1, 1) := by decide +kernel
theorem dX1_zero_2 : decode cX1_zero 2 = .ok (.invokevirtual 21, 3) := by decide +kernel
theorem dX1_zero_5 : decode cX1_zero 5 = .ok (.ifCond .eq 21, 3) := by decide +kernel
theorem dX1_zero_8 : decode cX1_zero 8 = .ok (.aload_n 0, 1) := by decide +kernel
theorem dX1_zero_9 : decode cX1_zero 9 = .ok (.getfield 17, 3) := by decide +kernel
theorem dX1_zero_12 : decode cX1_zero 12 = .ok (.iload_n 1, 1) := by decide +kernel
theorem dX1_zero_13 : decode cX1_zero 13 = .ok (.bipush 16, 2) := by decide +kernel
theorem dX1_zero_15 : decode cX1_zero 15 = .ok (.imul, 1) := by decide +kernel
theorem dX1_zero_16 : decode cX1_zero 16 = .ok (.iload_n 1, 1) := by decide +kernel
theorem dX1_zero_17 : decode cX1_zero 17 = .ok (.iconst 1, 1) := by decide +kernel
theorem dX1_zero_18 : decode cX1_zero 18 = .ok (.iadd, 1) := by decide +kernel
theorem dX1_zero_19 : decode cX1_zero 19 = .ok (.bipush 16, 2) := by decide +kernel
theorem dX1_zero_21 : decode cX1_zero 21 = .ok (.imul, 1) := by decide +kernel
theorem dX1_zero_22 : decode cX1_zero 22 = .ok (.iconst 0, 1) := by decide +kernel
theorem dX1_zero_23 : decode cX1_zero 23 = .ok (.invokestatic 25, 3) := by decide +kernel
theorem dX1_zero_26 : decode cX1_zero 26 = .ok (.return_, 1) := by decide +kernel
theorem dX1_copyWords_0 : decode cX1_copyWords 0 = .ok (.aload_n 0, 1) := by decide +kernel
theorem dX1_copyWords_1 : decode cX1_copyWords 1 = .ok (.iload_n 1, 1) := by decide +kernel
theorem dX1_copyWords_2 : decode cX1_copyWords 2 = .ok (.invokevirtual 21, 3) := by decide +kernel
theorem dX1_copyWords_5 : decode cX1_copyWords 5 = .ok (.ifCond .eq 32, 3) := by decide +kernel
theorem dX1_copyWords_8 : decode cX1_copyWords 8 = .ok (.aload_n 2, 1) := by decide +kernel
theorem dX1_copyWords_9 : decode cX1_copyWords 9 = .ok (.iload_n 3, 1) := by decide +kernel
theorem dX1_copyWords_10 : decode cX1_copyWords 10 = .ok (.invokevirtual 21, 3) := by decide +kernel
theorem dX1_copyWords_13 : decode cX1_copyWords 13 = .ok (.ifCond .eq 24, 3) := by decide +kernel
theorem dX1_copyWords_16 : decode cX1_copyWords 16 = .ok (.aload_n 2, 1) := by decide +kernel
theorem dX1_copyWords_17 : decode cX1_copyWords 17 = .ok (.getfield 17, 3) := by decide +kernel
theorem dX1_copyWords_20 : decode cX1_copyWords 20 = .ok (.iload_n 3, 1) := by decide +kernel
theorem dX1_copyWords_21 : decode cX1_copyWords 21 = .ok (.bipush 16, 2) := by decide +kernel
theorem dX1_copyWords_23 : decode cX1_copyWords 23 = .ok (.imul, 1) := by decide +kernel
theorem dX1_copyWords_24 : decode cX1_copyWords 24 = .ok (.aload_n 0, 1) := by decide +kernel
theorem dX1_copyWords_25 : decode cX1_copyWords 25 = .ok (.getfield 17, 3) := by decide +kernel
theorem dX1_copyWords_28 : decode cX1_copyWords 28 = .ok (.iload_n 1, 1) := by decide +kernel
theorem dX1_copyWords_29 : decode cX1_copyWords 29 = .ok (.bipush 16, 2) := by decide +kernel
theorem dX1_copyWords_31 : decode cX1_copyWords 31 = .ok (.imul, 1) := by decide +kernel
theorem dX1_copyWords_32 : decode cX1_copyWords 32 = .ok (.bipush 16, 2) := by decide +kernel
theorem dX1_copyWords_34 : decode cX1_copyWords 34 = .ok (.invokestatic 31, 3) := by decide +kernel
theorem dX1_copyWords_37 : decode cX1_copyWords 37 = .ok (.return_, 1) := by decide +kernel
theorem dX2_init_0 : decode cX2_init 0 = .ok (.aload_n 0, 1) := by decide +kernel
theorem dX2_init_1 : decode cX2_init 1 = .ok (.invokespecial 1, 3) := by decide +kernel
theorem dX2_init_4 : decode cX2_init 4 = .ok (.iload_n 1, 1) := by decide +kernel
theorem dX2_init_5 : decode cX2_init 5 = .ok (.iconst 2, 1) := by decide +kernel
theorem dX2_init_6 : decode cX2_init 6 = .ok (.invokestatic 9, 3) := by decide +kernel
theorem dX2_init_9 : decode cX2_init 9 = .ok (.bipush 16, 2) := by decide +kernel
theorem dX2_init_11 : decode cX2_init 11 = .ok (.invokestatic 15, 3) := by decide +kernel
theorem dX2_init_14 : decode cX2_init 14 = .ok (.istore_n 3, 1) := by decide +kernel
theorem dX2_init_15 : decode cX2_init 15 = .ok (.iload_n 2, 1) := by decide +kernel
theorem dX2_init_16 : decode cX2_init 16 = .ok (.iconst 0, 1) := by decide +kernel
theorem dX2_init_17 : decode cX2_init 17 = .ok (.invokestatic 9, 3) := by decide +kernel
theorem dX2_init_20 : decode cX2_init 20 = .ok (.bipush 64, 2) := by decide +kernel
theorem dX2_init_22 : decode cX2_init 22 = .ok (.invokestatic 15, 3) := by decide +kernel
theorem dX2_init_25 : decode cX2_init 25 = .ok (.istore 4, 2) := by decide +kernel
theorem dX2_init_27 : decode cX2_init 27 = .ok (.aload_n 0, 1) := by decide +kernel
theorem dX2_init_28 : decode cX2_init 28 = .ok (.new 18, 3) := by decide +kernel
theorem dX2_init_31 : decode cX2_init 31 = .ok (.dup, 1) := by decide +kernel
theorem dX2_init_32 : decode cX2_init 32 = .ok (.iload_n 3, 1) := by decide +kernel
theorem dX2_init_33 : decode cX2_init 33 = .ok (.invokespecial 20, 3) := by decide +kernel
theorem dX2_init_36 : decode cX2_init 36 = .ok (.putfield 23, 3) := by decide +kernel
theorem dX2_init_39 : decode cX2_init 39 = .ok (.aload_n 0, 1) := by decide +kernel
theorem dX2_init_40 : decode cX2_init 40 = .ok (.new 18, 3) := by decide +kernel
theorem dX2_init_43 : decode cX2_init 43 = .ok (.dup, 1) := by decide +kernel
theorem dX2_init_44 : decode cX2_init 44 = .ok (.iload 4, 2) := by decide +kernel
theorem dX2_init_46 : decode cX2_init 46 = .ok (.invokespecial 20, 3) := by decide +kernel
theorem dX2_init_49 : decode cX2_init 49 = .ok (.putfield 27, 3) := by decide +kernel
theorem dX2_init_52 : decode cX2_init 52 = .ok (.aload_n 0, 1) := by decide +kernel
theorem dX2_init_53 : decode cX2_init 53 = .ok (.iload_n 3, 1) := by decide +kernel
theorem dX2_init_54 : decode cX2_init 54 = .ok (.newarray .boolean, 2) := by decide +kernel
theorem dX2_init_56 : decode cX2_init 56 = .ok (.putfield 30, 3) := by decide +kernel
theorem dX2_init_59 : decode cX2_init 59 = .ok (.aload_n 0, 1) := by decide +kernel
theorem dX2_init_60 : decode cX2_init 60 = .ok (.bipush 8, 2) := by decide +kernel
theorem dX2_init_62 : decode cX2_init 62 = .ok (.newarray .int, 2) := by decide +kernel
theorem dX2_init_64 : decode cX2_init 64 = .ok (.putfield 34, 3) := by decide +kernel
theorem dX2_init_67 : decode cX2_init 67 = .ok (.aload_n 0, 1) := by decide +kernel
theorem dX2_init_68 : decode cX2_init 68 = .ok (.sipush 256, 3) := by decide +kernel
theorem dX2_init_71 : decode cX2_init 71 = .ok (.anewarray 38, 3) := by decide +kernel
theorem dX2_init_74 : decode cX2_init 74 = .ok (.putfield 40, 3) := by decide +kernel
theorem dX2_init_77 : decode cX2_init 77 = .ok (.return_, 1) := by decide +kernel
theorem dX2_begin_0 : decode cX2_begin 0 = .ok (.aload_n 0, 1) := by decide +kernel
theorem dX2_begin_1 : decode cX2_begin 1 = .ok (.invokevirtual 44, 3) := by decide +kernel
theorem dX2_begin_4 : decode cX2_begin 4 = .ok (.istore_n 2, 1) := by decide +kernel
theorem dX2_begin_5 : decode cX2_begin 5 = .ok (.iload_n 2, 1) := by decide +kernel
theorem dX2_begin_6 : decode cX2_begin 6 = .ok (.iconst (-1), 1) := by decide +kernel
theorem dX2_begin_7 : decode cX2_begin 7 = .ok (.if_icmp .eq 14, 3) := by decide +kernel
theorem dX2_begin_10 : decode cX2_begin 10 = .ok (.iload_n 1, 1) := by decide +kernel
theorem dX2_begin_11 : decode cX2_begin 11 = .ok (.iconst 1, 1) := by decide +kernel
theorem dX2_begin_12 : decode cX2_begin 12 = .ok (.if_icmp .lt 9, 3) := by decide +kernel
theorem dX2_begin_15 : decode cX2_begin 15 = .ok (.iload_n 1, 1) := by decide +kernel
theorem dX2_begin_16 : decode cX2_begin 16 = .ok (.bipush 32, 2) := by decide +kernel
theorem dX2_begin_18 : decode cX2_begin 18 = .ok (.if_icmp .le 5, 3) := by decide +kernel
theorem dX2_begin_21 : decode cX2_begin 21 = .ok (.iconst (-1), 1) := by decide +kernel
theorem dX2_begin_22 : decode cX2_begin 22 = .ok (.ireturn, 1) := by decide +kernel
theorem dX2_begin_23 : decode cX2_begin 23 = .ok (.aload_n 0, 1) := by decide +kernel
theorem dX2_begin_24 : decode cX2_begin 24 = .ok (.getfield 34, 3) := by decide +kernel
theorem dX2_begin_27 : decode cX2_begin 27 = .ok (.iload_n 2, 1) := by decide +kernel
theorem dX2_begin_28 : decode cX2_begin 28 = .ok (.iload_n 1, 1) := by decide +kernel
theorem dX2_begin_29 : decode cX2_begin 29 = .ok (.iastore, 1) := by decide +kernel
theorem dX2_begin_30 : decode cX2_begin 30 = .ok (.iload_n 2, 1) := by decide +kernel
theorem dX2_begin_31 : decode cX2_begin 31 = .ok (.ireturn, 1) := by decide +kernel
theorem dX2_fork_0 : decode cX2_fork 0 = .ok (.aload_n 0, 1) := by decide +kernel
theorem dX2_fork_1 : decode cX2_fork 1 = .ok (.invokevirtual 44, 3) := by decide +kernel
theorem dX2_fork_4 : decode cX2_fork 4 = .ok (.istore_n 2, 1) := by decide +kernel
theorem dX2_fork_5 : decode cX2_fork 5 = .ok (.iload_n 2, 1) := by decide +kernel
theorem dX2_fork_6 : decode cX2_fork 6 = .ok (.iconst (-1), 1) := by decide +kernel
theorem dX2_fork_7 : decode cX2_fork 7 = .ok (.if_icmp .eq 11, 3) := by decide +kernel
theorem dX2_fork_10 : decode cX2_fork 10 = .ok (.aload_n 0, 1) := by decide +kernel
theorem dX2_fork_11 : decode cX2_fork 11 = .ok (.iload_n 1, 1) := by decide +kernel
theorem dX2_fork_12 : decode cX2_fork 12 = .ok (.invokevirtual 48, 3) := by decide +kernel
theorem dX2_fork_15 : decode cX2_fork 15 = .ok (.ifCond .ne 5, 3) := by decide +kernel
theorem dX2_fork_18 : decode cX2_fork 18 = .ok (.iconst (-1), 1) := by decide +kernel
theorem dX2_fork_19 : decode cX2_fork 19 = .ok (.ireturn, 1) := by decide +kernel
theorem dX2_fork_20 : decode cX2_fork 20 = .ok (.aload_n 0, 1) := by decide +kernel
theorem dX2_fork_21 : decode cX2_fork 21 = .ok (.getfield 34, 3) := by decide +kernel
theorem dX2_fork_24 : decode cX2_fork 24 = .ok (.iload_n 2, 1) := by decide +kernel
theorem dX2_fork_25 : decode cX2_fork 25 = .ok (.aload_n 0, 1) := by decide +kernel
theorem dX2_fork_26 : decode cX2_fork 26 = .ok (.getfield 34, 3) := by decide +kernel
theorem dX2_fork_29 : decode cX2_fork 29 = .ok (.iload_n 1, 1) := by decide +kernel
theorem dX2_fork_30 : decode cX2_fork 30 = .ok (.iaload, 1) := by decide +kernel
theorem dX2_fork_31 : decode cX2_fork 31 = .ok (.iastore, 1) := by decide +kernel
theorem dX2_fork_32 : decode cX2_fork 32 = .ok (.iconst 0, 1) := by decide +kernel
theorem dX2_fork_33 : decode cX2_fork 33 = .ok (.istore_n 3, 1) := by decide +kernel
theorem dX2_fork_34 : decode cX2_fork 34 = .ok (.iload_n 3, 1) := by decide +kernel
theorem dX2_fork_35 : decode cX2_fork 35 = .ok (.aload_n 0, 1) := by decide +kernel
theorem dX2_fork_36 : decode cX2_fork 36 = .ok (.getfield 34, 3) := by decide +kernel
theorem dX2_fork_39 : decode cX2_fork 39 = .ok (.iload_n 1, 1) := by decide +kernel
theorem dX2_fork_40 : decode cX2_fork 40 = .ok (.iaload, 1) := by decide +kernel
theorem dX2_fork_41 : decode cX2_fork 41 = .ok (.if_icmp .ge 49, 3) := by decide +kernel
theorem dX2_fork_44 : decode cX2_fork 44 = .ok (.aload_n 0, 1) := by decide +kernel
theorem dX2_fork_45 : decode cX2_fork 45 = .ok (.getfield 40, 3) := by decide +kernel
theorem dX2_fork_48 : decode cX2_fork 48 = .ok (.iload_n 1, 1) := by decide +kernel
theorem dX2_fork_49 : decode cX2_fork 49 = .ok (.iload_n 3, 1) := by decide +kernel
theorem dX2_fork_50 : decode cX2_fork 50 = .ok (.invokestatic 52, 3) := by decide +kernel
theorem dX2_fork_53 : decode cX2_fork 53 = .ok (.aaload, 1) := by decide +kernel
theorem dX2_fork_54 : decode cX2_fork 54 = .ok (.astore 4, 2) := by decide +kernel
theorem dX2_fork_56 : decode cX2_fork 56 = .ok (.aload_n 0, 1) := by decide +kernel
theorem dX2_fork_57 : decode cX2_fork 57 = .ok (.getfield 40, 3) := by decide +kernel
theorem dX2_fork_60 : decode cX2_fork 60 = .ok (.iload_n 2, 1) := by decide +kernel
theorem dX2_fork_61 : decode cX2_fork 61 = .ok (.iload_n 3, 1) := by decide +kernel
theorem dX2_fork_62 : decode cX2_fork 62 = .ok (.invokestatic 52, 3) := by decide +kernel
theorem dX2_fork_65 : decode cX2_fork 65 = .ok (.aload 4, 2) := by decide +kernel
theorem dX2_fork_67 : decode cX2_fork 67 = .ok (.aastore, 1) := by decide +kernel
theorem dX2_fork_68 : decode cX2_fork 68 = .ok (.aload 4, 2) := by decide +kernel
theorem dX2_fork_70 : decode cX2_fork 70 = .ok (.ifnull 14, 3) := by decide +kernel
theorem dX2_fork_73 : decode cX2_fork 73 = .ok (.aload 4, 2) := by decide +kernel
theorem dX2_fork_75 : decode cX2_fork 75 = .ok (.dup, 1) := by decide +kernel
theorem dX2_fork_76 : decode cX2_fork 76 = .ok (.getfield 55, 3) := by decide +kernel
theorem dX2_fork_79 : decode cX2_fork 79 = .ok (.iconst 1, 1) := by decide +kernel
theorem dX2_fork_80 : decode cX2_fork 80 = .ok (.iadd, 1) := by decide +kernel
theorem dX2_fork_81 : decode cX2_fork 81 = .ok (.putfield 55, 3) := by decide +kernel
theorem dX2_fork_84 : decode cX2_fork 84 = .ok (.iinc 3 1, 3) := by decide +kernel
theorem dX2_fork_87 : decode cX2_fork 87 = .ok (.goto (-53), 3) := by decide +kernel
theorem dX2_fork_90 : decode cX2_fork 90 = .ok (.iload_n 2, 1) := by decide +kernel
theorem dX2_fork_91 : decode cX2_fork 91 = .ok (.ireturn, 1) := by decide +kernel
theorem dX2_end_0 : decode cX2_end 0 = .ok (.aload_n 0, 1) := by decide +kernel
theorem dX2_end_1 : decode cX2_end 1 = .ok (.iload_n 1, 1) := by decide +kernel
theorem dX2_end_2 : decode cX2_end 2 = .ok (.invokevirtual 48, 3) := by decide +kernel
theorem dX2_end_5 : decode cX2_end 5 = .ok (.ifCond .ne 5, 3) := by decide +kernel
theorem dX2_end_8 : decode cX2_end 8 = .ok (.iconst 0, 1) := by decide +kernel
theorem dX2_end_9 : decode cX2_end 9 = .ok (.ireturn, 1) := by decide +kernel
theorem dX2_end_10 : decode cX2_end 10 = .ok (.iconst 0, 1) := by decide +kernel
theorem dX2_end_11 : decode cX2_end 11 = .ok (.istore_n 2, 1) := by decide +kernel
theorem dX2_end_12 : decode cX2_end 12 = .ok (.iload_n 2, 1) := by decide +kernel
theorem dX2_end_13 : decode cX2_end 13 = .ok (.aload_n 0, 1) := by decide +kernel
theorem dX2_end_14 : decode cX2_end 14 = .ok (.getfield 34, 3) := by decide +kernel
theorem dX2_end_17 : decode cX2_end 17 = .ok (.iload_n 1, 1) := by decide +kernel
theorem dX2_end_18 : decode cX2_end 18 = .ok (.iaload, 1) := by decide +kernel
theorem dX2_end_19 : decode cX2_end 19 = .ok (.if_icmp .ge 19, 3) := by decide +kernel
theorem dX2_end_22 : decode cX2_end 22 = .ok (.aload_n 0, 1) := by decide +kernel
theorem dX2_end_23 : decode cX2_end 23 = .ok (.iload_n 1, 1) := by decide +kernel
theorem dX2_end_24 : decode cX2_end 24 = .ok (.iload_n 2, 1) := by decide +kernel
theorem dX2_end_25 : decode cX2_end 25 = .ok (.invokestatic 52, 3) := by decide +kernel
theorem dX2_end_28 : decode cX2_end 28 = .ok (.invokevirtual 59, 3) := by decide +kernel
theorem dX2_end_31 : decode cX2_end 31 = .ok (.pop, 1) := by decide +kernel
theorem dX2_end_32 : decode cX2_end 32 = .ok (.iinc 2 1, 3) := by decide +kernel
theorem dX2_end_35 : decode cX2_end 35 = .ok (.goto (-23), 3) := by decide +kernel
theorem dX2_end_38 : decode cX2_end 38 = .ok (.aload_n 0, 1) := by decide +kernel
theorem dX2_end_39 : decode cX2_end 39 = .ok (.getfield 34, 3) := by decide +kernel
theorem dX2_end_42 : decode cX2_end 42 = .ok (.iload_n 1, 1) := by decide +kernel
theorem dX2_end_43 : decode cX2_end 43 = .ok (.iconst 0, 1) := by decide +kernel
theorem dX2_end_44 : decode cX2_end 44 = .ok (.iastore, 1) := by decide +kernel
theorem dX2_end_45 : decode cX2_end 45 = .ok (.iconst 1, 1) := by decide +kernel
theorem dX2_end_46 : decode cX2_end 46 = .ok (.ireturn, 1) := by decide +kernel
theorem dX2_read_0 : decode cX2_read 0 = .ok (.aload_n 0, 1) := by decide +kernel
theorem dX2_read_1 : decode cX2_read 1 = .ok (.iload_n 1, 1) := by decide +kernel
theorem dX2_read_2 : decode cX2_read 2 = .ok (.iload_n 2, 1) := by decide +kernel
theorem dX2_read_3 : decode cX2_read 3 = .ok (.invokevirtual 62, 3) := by decide +kernel
theorem dX2_read_6 : decode cX2_read 6 = .ok (.aload_n 0, 1) := by decide +kernel
theorem dX2_read_7 : decode cX2_read 7 = .ok (.getfield 40, 3) := by decide +kernel
theorem dX2_read_10 : decode cX2_read 10 = .ok (.iload_n 1, 1) := by decide +kernel
theorem dX2_read_11 : decode cX2_read 11 = .ok (.iload_n 2, 1) := by decide +kernel
theorem dX2_read_12 : decode cX2_read 12 = .ok (.bipush 16, 2) := by decide +kernel
theorem dX2_read_14 : decode cX2_read 14 = .ok (.idiv, 1) := by decide +kernel
theorem dX2_read_15 : decode cX2_read 15 = .ok (.invokestatic 52, 3) := by decide +kernel
theorem dX2_read_18 : decode cX2_read 18 = .ok (.aaload, 1) := by decide +kernel
theorem dX2_read_19 : decode cX2_read 19 = .ok (.astore_n 3, 1) := by decide +kernel
theorem dX2_read_20 : decode cX2_read 20 = .ok (.aload_n 0, 1) := by decide +kernel
theorem dX2_read_21 : decode cX2_read 21 = .ok (.aload_n 3, 1) := by decide +kernel
theorem dX2_read_22 : decode cX2_read 22 = .ok (.invokestatic 66, 3) := by decide +kernel
theorem dX2_read_25 : decode cX2_read 25 = .ok (.invokevirtual 70, 3) := by decide +kernel
theorem dX2_read_28 : decode cX2_read 28 = .ok (.aload_n 0, 1) := by decide +kernel
theorem dX2_read_29 : decode cX2_read 29 = .ok (.dup, 1) := by decide +kernel
theorem dX2_read_30 : decode cX2_read 30 = .ok (.getfield 73, 3) := by decide +kernel
theorem dX2_read_33 : decode cX2_read 33 = .ok (.iconst 1, 1) := by decide +kernel
theorem dX2_read_34 : decode cX2_read 34 = .ok (.iadd, 1) := by decide +kernel
theorem dX2_read_35 : decode cX2_read 35 = .ok (.putfield 73, 3) := by decide +kernel
theorem dX2_read_38 : decode cX2_read 38 = .ok (.aload_n 3, 1) := by decide +kernel
theorem dX2_read_39 : decode cX2_read 39 = .ok (.ifnonnull 5, 3) := by decide +kernel
theorem dX2_read_42 : decode cX2_read 42 = .ok (.iconst 0, 1) := by decide +kernel
theorem dX2_read_43 : decode cX2_read 43 = .ok (.ireturn, 1) := by decide +kernel
theorem dX2_read_44 : decode cX2_read 44 = .ok (.aload_n 3, 1) := by decide +kernel
theorem dX2_read_45 : decode cX2_read 45 = .ok (.getfield 76, 3) := by decide +kernel
theorem dX2_read_48 : decode cX2_read 48 = .ok (.iconst (-1), 1) := by decide +kernel
theorem dX2_read_49 : decode cX2_read 49 = .ok (.if_icmp .ne 13, 3) := by decide +kernel
theorem dX2_read_52 : decode cX2_read 52 = .ok (.aload_n 0, 1) := by decide +kernel
theorem dX2_read_53 : decode cX2_read 53 = .ok (.aload_n 3, 1) := by decide +kernel
theorem dX2_read_54 : decode cX2_read 54 = .ok (.aload_n 0, 1) := by decide +kernel
theorem dX2_read_55 : decode cX2_read 55 = .ok (.iconst (-1), 1) := by decide +kernel
theorem dX2_read_56 : decode cX2_read 56 = .ok (.invokevirtual 79, 3) := by decide +kernel
theorem dX2_read_59 : decode cX2_read 59 = .ok (.invokevirtual 83, 3) := by decide +kernel
theorem dX2_read_62 : decode cX2_read 62 = .ok (.aload_n 0, 1) := by decide +kernel
theorem dX2_read_63 : decode cX2_read 63 = .ok (.getfield 30, 3) := by decide +kernel
theorem dX2_read_66 : decode cX2_read 66 = .ok (.aload_n 3, 1) := by decide +kernel
theorem dX2_read_67 : decode cX2_read 67 = .ok (.getfield 76, 3) := by decide +kernel
theorem dX2_read_70 : decode cX2_read 70 = .ok (.iconst 1, 1) := by decide +kernel
theorem dX2_read_71 : decode cX2_read 71 = .ok (.bastore, 1) := by decide +kernel
theorem dX2_read_72 : decode cX2_read 72 = .ok (.aload_n 0, 1) := by decide +kernel
theorem dX2_read_73 : decode cX2_read 73 = .ok (.getfield 23, 3) := by decide +kernel
theorem dX2_read_76 : decode cX2_read 76 = .ok (.getfield 87, 3) := by decide +kernel
theorem dX2_read_79 : decode cX2_read 79 = .ok (.aload_n 3, 1) := by decide +kernel
theorem dX2_read_80 : decode cX2_read 80 = .ok (.getfield 76, 3) := by decide +kernel
theorem dX2_read_83 : decode cX2_read 83 = .ok (.bipush 16, 2) := by decide +kernel
theorem dX2_read_85 : decode cX2_read 85 = .ok (.imul, 1) := by decide +kernel
theorem dX2_read_86 : decode cX2_read 86 = .ok (.iload_n 2, 1) := by decide +kernel
theorem dX2_read_87 : decode cX2_read 87 = .ok (.bipush 16, 2) := by decide +kernel
theorem dX2_read_89 : decode cX2_read 89 = .ok (.irem, 1) := by decide +kernel
theorem dX2_read_90 : decode cX2_read 90 = .ok (.iadd, 1) := by decide +kernel
theorem dX2_read_91 : decode cX2_read 91 = .ok (.iaload, 1) := by decide +kernel
theorem dX2_read_92 : decode cX2_read 92 = .ok (.ireturn, 1) := by decide +kernel
theorem dX2_write_0 : decode cX2_write 0 = .ok (.aload_n 0, 1) := by decide +kernel
theorem dX2_write_1 : decode cX2_write 1 = .ok (.iload_n 1, 1) := by decide +kernel
theorem dX2_write_2 : decode cX2_write 2 = .ok (.iload_n 2, 1) := by decide +kernel
theorem dX2_write_3 : decode cX2_write 3 = .ok (.invokevirtual 62, 3) := by decide +kernel
theorem dX2_write_6 : decode cX2_write 6 = .ok (.iload_n 2, 1) := by decide +kernel
theorem dX2_write_7 : decode cX2_write 7 = .ok (.bipush 16, 2) := by decide +kernel
theorem dX2_write_9 : decode cX2_write 9 = .ok (.idiv, 1) := by decide +kernel
theorem dX2_write_10 : decode cX2_write 10 = .ok (.istore 4, 2) := by decide +kernel
theorem dX2_write_12 : decode cX2_write 12 = .ok (.aload_n 0, 1) := by decide +kernel
theorem dX2_write_13 : decode cX2_write 13 = .ok (.getfield 40, 3) := by decide +kernel
theorem dX2_write_16 : decode cX2_write 16 = .ok (.iload_n 1, 1) := by decide +kernel
theorem dX2_write_17 : decode cX2_write 17 = .ok (.iload 4, 2) := by decide +kernel
theorem dX2_write_19 : decode cX2_write 19 = .ok (.invokestatic 52, 3) := by decide +kernel
theorem dX2_write_22 : decode cX2_write 22 = .ok (.aaload, 1) := by decide +kernel
theorem dX2_write_23 : decode cX2_write 23 = .ok (.astore 5, 2) := by decide +kernel
theorem dX2_write_25 : decode cX2_write 25 = .ok (.aload 5, 2) := by decide +kernel
theorem dX2_write_27 : decode cX2_write 27 = .ok (.invokestatic 90, 3) := by decide +kernel
theorem dX2_write_30 : decode cX2_write 30 = .ok (.istore 6, 2) := by decide +kernel
theorem dX2_write_32 : decode cX2_write 32 = .ok (.aload_n 0, 1) := by decide +kernel
theorem dX2_write_33 : decode cX2_write 33 = .ok (.iload 6, 2) := by decide +kernel
theorem dX2_write_35 : decode cX2_write 35 = .ok (.invokevirtual 70, 3) := by decide +kernel
theorem dX2_write_38 : decode cX2_write 38 = .ok (.aload_n 0, 1) := by decide +kernel
theorem dX2_write_39 : decode cX2_write 39 = .ok (.dup, 1) := by decide +kernel
theorem dX2_write_40 : decode cX2_write 40 = .ok (.getfield 73, 3) := by decide +kernel
theorem dX2_write_43 : decode cX2_write 43 = .ok (.iconst 1, 1) := by decide +kernel
theorem dX2_write_44 : decode cX2_write 44 = .ok (.iadd, 1) := by decide +kernel
theorem dX2_write_45 : decode cX2_write 45 = .ok (.putfield 73, 3) := by decide +kernel
theorem dX2_write_48 : decode cX2_write 48 = .ok (.aload_n 0, 1) := by decide +kernel
theorem dX2_write_49 : decode cX2_write 49 = .ok (.aload 5, 2) := by decide +kernel
theorem dX2_write_51 : decode cX2_write 51 = .ok (.iload 4, 2) := by decide +kernel
theorem dX2_write_53 : decode cX2_write 53 = .ok (.invokevirtual 93, 3) := by decide +kernel
theorem dX2_write_56 : decode cX2_write 56 = .ok (.astore 7, 2) := by decide +kernel
theorem dX2_write_58 : decode cX2_write 58 = .ok (.aload_n 0, 1) := by decide +kernel
theorem dX2_write_59 : decode cX2_write 59 = .ok (.getfield 40, 3) := by decide +kernel
theorem dX2_write_62 : decode cX2_write 62 = .ok (.iload_n 1, 1) := by decide +kernel
theorem dX2_write_63 : decode cX2_write 63 = .ok (.iload 4, 2) := by decide +kernel
theorem dX2_write_65 : decode cX2_write 65 = .ok (.invokestatic 52, 3) := by decide +kernel
theorem dX2_write_68 : decode cX2_write 68 = .ok (.aload 7, 2) := by decide +kernel
theorem dX2_write_70 : decode cX2_write 70 = .ok (.aastore, 1) := by decide +kernel
theorem dX2_write_71 : decode cX2_write 71 = .ok (.aload_n 0, 1) := by decide +kernel
theorem dX2_write_72 : decode cX2_write 72 = .ok (.getfield 30, 3) := by decide +kernel
theorem dX2_write_75 : decode cX2_write 75 = .ok (.aload 7, 2) := by decide +kernel
theorem dX2_write_77 : decode cX2_write 77 = .ok (.getfield 76, 3) := by decide +kernel
theorem dX2_write_80 : decode cX2_write 80 = .ok (.iconst 1, 1) := by decide +kernel
theorem dX2_write_81 : decode cX2_write 81 = .ok (.bastore, 1) := by decide +kernel
theorem dX2_write_82 : decode cX2_write 82 = .ok (.aload_n 0, 1) := by decide +kernel
theorem dX2_write_83 : decode cX2_write 83 = .ok (.getfield 23, 3) := by decide +kernel
theorem dX2_write_86 : decode cX2_write 86 = .ok (.getfield 87, 3) := by decide +kernel
theorem dX2_write_89 : decode cX2_write 89 = .ok (.aload 7, 2) := by decide +kernel
theorem dX2_write_91 : decode cX2_write 91 = .ok (.getfield 76, 3) := by decide +kernel
theorem dX2_write_94 : decode cX2_write 94 = .ok (.bipush 16, 2) := by decide +kernel
theorem dX2_write_96 : decode cX2_write 96 = .ok (.imul, 1) := by decide +kernel
theorem dX2_write_97 : decode cX2_write 97 = .ok (.iload_n 2, 1) := by decide +kernel
theorem dX2_write_98 : decode cX2_write 98 = .ok (.bipush 16, 2) := by decide +kernel
theorem dX2_write_100 : decode cX2_write 100 = .ok (.irem, 1) := by decide +kernel
theorem dX2_write_101 : decode cX2_write 101 = .ok (.iadd, 1) := by decide +kernel
theorem dX2_write_102 : decode cX2_write 102 = .ok (.iload_n 3, 1) := by decide +kernel
theorem dX2_write_103 : decode cX2_write 103 = .ok (.iastore, 1) := by decide +kernel
theorem dX2_write_104 : decode cX2_write 104 = .ok (.aload 7, 2) := by decide +kernel
theorem dX2_write_106 : decode cX2_write 106 = .ok (.iconst 1, 1) := by decide +kernel
theorem dX2_write_107 : decode cX2_write 107 = .ok (.putfield 97, 3) := by decide +kernel
theorem dX2_write_110 : decode cX2_write 110 = .ok (.iload 6, 2) := by decide +kernel
theorem dX2_write_112 : decode cX2_write 112 = .ok (.ireturn, 1) := by decide +kernel
theorem dX2_drop_0 : decode cX2_drop 0 = .ok (.aload_n 0, 1) := by decide +kernel
theorem dX2_drop_1 : decode cX2_drop 1 = .ok (.iload_n 1, 1) := by decide +kernel
theorem dX2_drop_2 : decode cX2_drop 2 = .ok (.iload_n 2, 1) := by decide +kernel
theorem dX2_drop_3 : decode cX2_drop 3 = .ok (.invokevirtual 101, 3) := by decide +kernel
theorem dX2_drop_6 : decode cX2_drop 6 = .ok (.ifCond .ne 5, 3) := by decide +kernel
theorem dX2_drop_9 : decode cX2_drop 9 = .ok (.iconst 0, 1) := by decide +kernel
theorem dX2_drop_10 : decode cX2_drop 10 = .ok (.ireturn, 1) := by decide +kernel
theorem dX2_drop_11 : decode cX2_drop 11 = .ok (.aload_n 0, 1) := by decide +kernel
theorem dX2_drop_12 : decode cX2_drop 12 = .ok (.iload_n 1, 1) := by decide +kernel
theorem dX2_drop_13 : decode cX2_drop 13 = .ok (.iload_n 2, 1) := by decide +kernel
theorem dX2_drop_14 : decode cX2_drop 14 = .ok (.invokestatic 52, 3) := by decide +kernel
theorem dX2_drop_17 : decode cX2_drop 17 = .ok (.invokevirtual 59, 3) := by decide +kernel
theorem dX2_drop_20 : decode cX2_drop 20 = .ok (.ireturn, 1) := by decide +kernel
theorem dX2_flush_0 : decode cX2_flush 0 = .ok (.aload_n 0, 1) := by decide +kernel
theorem dX2_flush_1 : decode cX2_flush 1 = .ok (.invokevirtual 105, 3) := by decide +kernel
theorem dX2_flush_4 : decode cX2_flush 4 = .ok (.aload_n 0, 1) := by decide +kernel
theorem dX2_flush_5 : decode cX2_flush 5 = .ok (.getfield 27, 3) := by decide +kernel
theorem dX2_flush_8 : decode cX2_flush 8 = .ok (.invokevirtual 108, 3) := by decide +kernel
theorem dX2_flush_11 : decode cX2_flush 11 = .ok (.if_icmp .le 5, 3) := by decide +kernel
theorem dX2_flush_14 : decode cX2_flush 14 = .ok (.iconst (-1), 1) := by decide +kernel
theorem dX2_flush_15 : decode cX2_flush 15 = .ok (.ireturn, 1) := by decide +kernel
theorem dX2_flush_16 : decode cX2_flush 16 = .ok (.iconst 0, 1) := by decide +kernel
theorem dX2_flush_17 : decode cX2_flush 17 = .ok (.istore_n 1, 1) := by decide +kernel
theorem dX2_flush_18 : decode cX2_flush 18 = .ok (.iconst 0, 1) := by decide +kernel
theorem dX2_flush_19 : decode cX2_flush 19 = .ok (.istore_n 2, 1) := by decide +kernel
theorem dX2_flush_20 : decode cX2_flush 20 = .ok (.iload_n 2, 1) := by decide +kernel
theorem dX2_flush_21 : decode cX2_flush 21 = .ok (.aload_n 0, 1) := by decide +kernel
theorem dX2_flush_22 : decode cX2_flush 22 = .ok (.getfield 23, 3) := by decide +kernel
theorem dX2_flush_25 : decode cX2_flush 25 = .ok (.getfield 111, 3) := by decide +kernel
theorem dX2_flush_28 : decode cX2_flush 28 = .ok (.arraylength, 1) := by decide +kernel
theorem dX2_flush_29 : decode cX2_flush 29 = .ok (.if_icmp .ge 38, 3) := by decide +kernel
theorem dX2_flush_32 : decode cX2_flush 32 = .ok (.aload_n 0, 1) := by decide +kernel
theorem dX2_flush_33 : decode cX2_flush 33 = .ok (.getfield 23, 3) := by decide +kernel
theorem dX2_flush_36 : decode cX2_flush 36 = .ok (.getfield 111, 3) := by decide +kernel
theorem dX2_flush_39 : decode cX2_flush 39 = .ok (.iload_n 2, 1) := by decide +kernel
theorem dX2_flush_40 : decode cX2_flush 40 = .ok (.aaload, 1) := by decide +kernel
theorem dX2_flush_41 : decode cX2_flush 41 = .ok (.astore_n 3, 1) := by decide +kernel
theorem dX2_flush_42 : decode cX2_flush 42 = .ok (.aload_n 3, 1) := by decide +kernel
theorem dX2_flush_43 : decode cX2_flush 43 = .ok (.ifnull 18, 3) := by decide +kernel
theorem dX2_flush_46 : decode cX2_flush 46 = .ok (.aload_n 3, 1) := by decide +kernel
theorem dX2_flush_47 : decode cX2_flush 47 = .ok (.getfield 97, 3) := by decide +kernel
theorem dX2_flush_50 : decode cX2_flush 50 = .ok (.ifCond .eq 11, 3) := by decide +kernel
theorem dX2_flush_53 : decode cX2_flush 53 = .ok (.aload_n 0, 1) := by decide +kernel
theorem dX2_flush_54 : decode cX2_flush 54 = .ok (.aload_n 3, 1) := by decide +kernel
theorem dX2_flush_55 : decode cX2_flush 55 = .ok (.invokevirtual 114, 3) := by decide +kernel
theorem dX2_flush_58 : decode cX2_flush 58 = .ok (.iinc 1 1, 3) := by decide +kernel
theorem dX2_flush_61 : decode cX2_flush 61 = .ok (.iinc 2 1, 3) := by decide +kernel
theorem dX2_flush_64 : decode cX2_flush 64 = .ok (.goto (-44), 3) := by decide +kernel
theorem dX2_flush_67 : decode cX2_flush 67 = .ok (.iload_n 1, 1) := by decide +kernel
theorem dX2_flush_68 : decode cX2_flush 68 = .ok (.ireturn, 1) := by decide +kernel
theorem dX2_page_0 : decode cX2_page 0 = .ok (.aload_n 0, 1) := by decide +kernel
theorem dX2_page_1 : decode cX2_page 1 = .ok (.iload_n 1, 1) := by decide +kernel
theorem dX2_page_2 : decode cX2_page 2 = .ok (.iload_n 2, 1) := by decide +kernel
theorem dX2_page_3 : decode cX2_page 3 = .ok (.invokevirtual 101, 3) := by decide +kernel
theorem dX2_page_6 : decode cX2_page 6 = .ok (.ifCond .ne 5, 3) := by decide +kernel
theorem dX2_page_9 : decode cX2_page 9 = .ok (.iconst (-1), 1) := by decide +kernel
theorem dX2_page_10 : decode cX2_page 10 = .ok (.ireturn, 1) := by decide +kernel
theorem dX2_page_11 : decode cX2_page 11 = .ok (.aload_n 0, 1) := by decide +kernel
theorem dX2_page_12 : decode cX2_page 12 = .ok (.getfield 40, 3) := by decide +kernel
theorem dX2_page_15 : decode cX2_page 15 = .ok (.iload_n 1, 1) := by decide +kernel
theorem dX2_page_16 : decode cX2_page 16 = .ok (.iload_n 2, 1) := by decide +kernel
theorem dX2_page_17 : decode cX2_page 17 = .ok (.invokestatic 52, 3) := by decide +kernel
theorem dX2_page_20 : decode cX2_page 20 = .ok (.aaload, 1) := by decide +kernel
theorem dX2_page_21 : decode cX2_page 21 = .ok (.astore 4, 2) := by decide +kernel
theorem dX2_page_23 : decode cX2_page 23 = .ok (.iload_n 3, 1) := by decide +kernel
theorem dX2_page_24 : decode cX2_page 24 = .ok (.tableswitch 96 0 3 #[32, 47, 62, 77], 32) := by decide +kernel
theorem dX2_page_56 : decode cX2_page 56 = .ok (.aload 4, 2) := by decide +kernel
theorem dX2_page_58 : decode cX2_page 58 = .ok (.ifnonnull 7, 3) := by decide +kernel
theorem dX2_page_61 : decode cX2_page 61 = .ok (.iconst (-1), 1) := by decide +kernel
theorem dX2_page_62 : decode cX2_page 62 = .ok (.goto 8, 3) := by decide +kernel
theorem dX2_page_65 : decode cX2_page 65 = .ok (.aload 4, 2) := by decide +kernel
theorem dX2_page_67 : decode cX2_page 67 = .ok (.getfield 76, 3) := by decide +kernel
theorem dX2_page_70 : decode cX2_page 70 = .ok (.ireturn, 1) := by decide +kernel
theorem dX2_page_71 : decode cX2_page 71 = .ok (.aload 4, 2) := by decide +kernel
theorem dX2_page_73 : decode cX2_page 73 = .ok (.ifnonnull 7, 3) := by decide +kernel
theorem dX2_page_76 : decode cX2_page 76 = .ok (.iconst (-1), 1) := by decide +kernel
theorem dX2_page_77 : decode cX2_page 77 = .ok (.goto 8, 3) := by decide +kernel
theorem dX2_page_80 : decode cX2_page 80 = .ok (.aload 4, 2) := by decide +kernel
theorem dX2_page_82 : decode cX2_page 82 = .ok (.getfield 118, 3) := by decide +kernel
theorem dX2_page_85 : decode cX2_page 85 = .ok (.ireturn, 1) := by decide +kernel
theorem dX2_page_86 : decode cX2_page 86 = .ok (.aload 4, 2) := by decide +kernel
theorem dX2_page_88 : decode cX2_page 88 = .ok (.ifnonnull 7, 3) := by decide +kernel
theorem dX2_page_91 : decode cX2_page 91 = .ok (.iconst 0, 1) := by decide +kernel
theorem dX2_page_92 : decode cX2_page 92 = .ok (.goto 8, 3) := by decide +kernel
theorem dX2_page_95 : decode cX2_page 95 = .ok (.aload 4, 2) := by decide +kernel
theorem dX2_page_97 : decode cX2_page 97 = .ok (.getfield 55, 3) := by decide +kernel
theorem dX2_page_100 : decode cX2_page 100 = .ok (.ireturn, 1) := by decide +kernel
theorem dX2_page_101 : decode cX2_page 101 = .ok (.aload 4, 2) := by decide +kernel
theorem dX2_page_103 : decode cX2_page 103 = .ok (.ifnull 15, 3) := by decide +kernel
theorem dX2_page_106 : decode cX2_page 106 = .ok (.aload 4, 2) := by decide +kernel
theorem dX2_page_108 : decode cX2_page 108 = .ok (.getfield 97, 3) := by decide +kernel
theorem dX2_page_111 : decode cX2_page 111 = .ok (.ifCond .eq 7, 3) := by decide +kernel
theorem dX2_page_114 : decode cX2_page 114 = .ok (.iconst 1, 1) := by decide +kernel
theorem dX2_page_115 : decode cX2_page 115 = .ok (.goto 4, 3) := by decide +kernel
theorem dX2_page_118 : decode cX2_page 118 = .ok (.iconst 0, 1) := by decide +kernel
theorem dX2_page_119 : decode cX2_page 119 = .ok (.ireturn, 1) := by decide +kernel
theorem dX2_page_120 : decode cX2_page 120 = .ok (.iconst (-1), 1) := by decide +kernel
theorem dX2_page_121 : decode cX2_page 121 = .ok (.ireturn, 1) := by decide +kernel
theorem dX2_frame_0 : decode cX2_frame 0 = .ok (.aload_n 0, 1) := by decide +kernel
theorem dX2_frame_1 : decode cX2_frame 1 = .ok (.getfield 23, 3) := by decide +kernel
theorem dX2_frame_4 : decode cX2_frame 4 = .ok (.iload_n 1, 1) := by decide +kernel
theorem dX2_frame_5 : decode cX2_frame 5 = .ok (.invokevirtual 121, 3) := by decide +kernel
theorem dX2_frame_8 : decode cX2_frame 8 = .ok (.ifCond .ne 5, 3) := by decide +kernel
theorem dX2_frame_11 : decode cX2_frame 11 = .ok (.iconst (-1), 1) := by decide +kernel
theorem dX2_frame_12 : decode cX2_frame 12 = .ok (.ireturn, 1) := by decide +kernel
theorem dX2_frame_13 : decode cX2_frame 13 = .ok (.iload_n 2, 1) := by decide +kernel
theorem dX2_frame_14 : decode cX2_frame 14 = .ok (.bipush 16, 2) := by decide +kernel
theorem dX2_frame_16 : decode cX2_frame 16 = .ok (.if_icmp .lt 27, 3) := by decide +kernel
theorem dX2_frame_19 : decode cX2_frame 19 = .ok (.iload_n 2, 1) := by decide +kernel
theorem dX2_frame_20 : decode cX2_frame 20 = .ok (.bipush 32, 2) := by decide +kernel
theorem dX2_frame_22 : decode cX2_frame 22 = .ok (.if_icmp .ge 21, 3) := by decide +kernel
theorem dX2_frame_25 : decode cX2_frame 25 = .ok (.aload_n 0, 1) := by decide +kernel
theorem dX2_frame_26 : decode cX2_frame 26 = .ok (.getfield 23, 3) := by decide +kernel
theorem dX2_frame_29 : decode cX2_frame 29 = .ok (.getfield 87, 3) := by decide +kernel
theorem dX2_frame_32 : decode cX2_frame 32 = .ok (.iload_n 1, 1) := by decide +kernel
theorem dX2_frame_33 : decode cX2_frame 33 = .ok (.bipush 16, 2) := by decide +kernel
theorem dX2_frame_35 : decode cX2_frame 35 = .ok (.imul, 1) := by decide +kernel
theorem dX2_frame_36 : decode cX2_frame 36 = .ok (.iload_n 2, 1) := by decide +kernel
theorem dX2_frame_37 : decode cX2_frame 37 = .ok (.iadd, 1) := by decide +kernel
theorem dX2_frame_38 : decode cX2_frame 38 = .ok (.bipush 16, 2) := by decide +kernel
theorem dX2_frame_40 : decode cX2_frame 40 = .ok (.isub, 1) := by decide +kernel
theorem dX2_frame_41 : decode cX2_frame 41 = .ok (.iaload, 1) := by decide +kernel
theorem dX2_frame_42 : decode cX2_frame 42 = .ok (.ireturn, 1) := by decide +kernel
theorem dX2_frame_43 : decode cX2_frame 43 = .ok (.aload_n 0, 1) := by decide +kernel
theorem dX2_frame_44 : decode cX2_frame 44 = .ok (.getfield 23, 3) := by decide +kernel
theorem dX2_frame_47 : decode cX2_frame 47 = .ok (.getfield 111, 3) := by decide +kernel
theorem dX2_frame_50 : decode cX2_frame 50 = .ok (.iload_n 1, 1) := by decide +kernel
theorem dX2_frame_51 : decode cX2_frame 51 = .ok (.aaload, 1) := by decide +kernel
theorem dX2_frame_52 : decode cX2_frame 52 = .ok (.astore_n 3, 1) := by decide +kernel
theorem dX2_frame_53 : decode cX2_frame 53 = .ok (.iload_n 2, 1) := by decide +kernel
theorem dX2_frame_54 : decode cX2_frame 54 = .ok (.tableswitch 68 0 2 #[26, 41, 55], 26) := by decide +kernel
theorem dX2_frame_80 : decode cX2_frame 80 = .ok (.aload_n 0, 1) := by decide +kernel
theorem dX2_frame_81 : decode cX2_frame 81 = .ok (.getfield 30, 3) := by decide +kernel
theorem dX2_frame_84 : decode cX2_frame 84 = .ok (.iload_n 1, 1) := by decide +kernel
theorem dX2_frame_85 : decode cX2_frame 85 = .ok (.baload, 1) := by decide +kernel
theorem dX2_frame_86 : decode cX2_frame 86 = .ok (.ifCond .eq 7, 3) := by decide +kernel
theorem dX2_frame_89 : decode cX2_frame 89 = .ok (.iconst 1, 1) := by decide +kernel
theorem dX2_frame_90 : decode cX2_frame 90 = .ok (.goto 4, 3) := by decide +kernel
theorem dX2_frame_93 : decode cX2_frame 93 = .ok (.iconst 0, 1) := by decide +kernel
theorem dX2_frame_94 : decode cX2_frame 94 = .ok (.ireturn, 1) := by decide +kernel
theorem dX2_frame_95 : decode cX2_frame 95 = .ok (.aload_n 3, 1) := by decide +kernel
theorem dX2_frame_96 : decode cX2_frame 96 = .ok (.ifnonnull 7, 3) := by decide +kernel
theorem dX2_frame_99 : decode cX2_frame 99 = .ok (.iconst (-1), 1) := by decide +kernel
theorem dX2_frame_100 : decode cX2_frame 100 = .ok (.goto 8, 3) := by decide +kernel
theorem dX2_frame_103 : decode cX2_frame 103 = .ok (.aload_n 0, 1) := by decide +kernel
theorem dX2_frame_104 : decode cX2_frame 104 = .ok (.aload_n 3, 1) := by decide +kernel
theorem dX2_frame_105 : decode cX2_frame 105 = .ok (.invokevirtual 124, 3) := by decide +kernel
theorem dX2_frame_108 : decode cX2_frame 108 = .ok (.ireturn, 1) := by decide +kernel
theorem dX2_frame_109 : decode cX2_frame 109 = .ok (.aload_n 3, 1) := by decide +kernel
theorem dX2_frame_110 : decode cX2_frame 110 = .ok (.ifnonnull 7, 3) := by decide +kernel
theorem dX2_frame_113 : decode cX2_frame 113 = .ok (.iconst (-1), 1) := by decide +kernel
theorem dX2_frame_114 : decode cX2_frame 114 = .ok (.goto 7, 3) := by decide +kernel
theorem dX2_frame_117 : decode cX2_frame 117 = .ok (.aload_n 3, 1) := by decide +kernel
theorem dX2_frame_118 : decode cX2_frame 118 = .ok (.getfield 127, 3) := by decide +kernel
theorem dX2_frame_121 : decode cX2_frame 121 = .ok (.ireturn, 1) := by decide +kernel
theorem dX2_frame_122 : decode cX2_frame 122 = .ok (.iconst (-1), 1) := by decide +kernel
theorem dX2_frame_123 : decode cX2_frame 123 = .ok (.ireturn, 1) := by decide +kernel
theorem dX2_stored_0 : decode cX2_stored 0 = .ok (.aload_n 0, 1) := by decide +kernel
theorem dX2_stored_1 : decode cX2_stored 1 = .ok (.getfield 27, 3) := by decide +kernel
theorem dX2_stored_4 : decode cX2_stored 4 = .ok (.iload_n 1, 1) := by decide +kernel
theorem dX2_stored_5 : decode cX2_stored 5 = .ok (.invokevirtual 121, 3) := by decide +kernel
theorem dX2_stored_8 : decode cX2_stored 8 = .ok (.ifCond .eq 13, 3) := by decide +kernel
theorem dX2_stored_11 : decode cX2_stored 11 = .ok (.iload_n 2, 1) := by decide +kernel
theorem dX2_stored_12 : decode cX2_stored 12 = .ok (.ifCond .lt 9, 3) := by decide +kernel
theorem dX2_stored_15 : decode cX2_stored 15 = .ok (.iload_n 2, 1) := by decide +kernel
theorem dX2_stored_16 : decode cX2_stored 16 = .ok (.bipush 16, 2) := by decide +kernel
theorem dX2_stored_18 : decode cX2_stored 18 = .ok (.if_icmp .lt 13, 3) := by decide +kernel
theorem dX2_stored_21 : decode cX2_stored 21 = .ok (.new 130, 3) := by decide +kernel
theorem dX2_stored_24 : decode cX2_stored 24 = .ok (.dup, 1) := by decide +kernel
theorem dX2_stored_25 : decode cX2_stored 25 = .ok (.ldc 132, 2) := by decide +kernel
theorem dX2_stored_27 : decode cX2_stored 27 = .ok (.invokespecial 134, 3) := by decide +kernel
theorem dX2_stored_30 : decode cX2_stored 30 = .ok (.athrow, 1) := by decide +kernel
theorem dX2_stored_31 : decode cX2_stored 31 = .ok (.aload_n 0, 1) := by decide +kernel
theorem dX2_stored_32 : decode cX2_stored 32 = .ok (.getfield 27, 3) := by decide +kernel
theorem dX2_stored_35 : decode cX2_stored 35 = .ok (.getfield 87, 3) := by decide +kernel
theorem dX2_stored_38 : decode cX2_stored 38 = .ok (.iload_n 1, 1) := by decide +kernel
theorem dX2_stored_39 : decode cX2_stored 39 = .ok (.bipush 16, 2) := by decide +kernel
theorem dX2_stored_41 : decode cX2_stored 41 = .ok (.imul, 1) := by decide +kernel
theorem dX2_stored_42 : decode cX2_stored 42 = .ok (.iload_n 2, 1) := by decide +kernel
theorem dX2_stored_43 : decode cX2_stored 43 = .ok (.iadd, 1) := by decide +kernel
theorem dX2_stored_44 : decode cX2_stored 44 = .ok (.iaload, 1) := by decide +kernel
theorem dX2_stored_45 : decode cX2_stored 45 = .ok (.ireturn, 1) := by decide +kernel
theorem dX2_look_0 : decode cX2_look 0 = .ok (.iload_n 1, 1) := by decide +kernel
theorem dX2_look_1 : decode cX2_look 1 = .ok (.tableswitch 120 0 10 #[59, 64, 72, 80, 85, 90, 95, 100, 105, 110, 115], 59) := by decide +kernel
theorem dX2_look_60 : decode cX2_look 60 = .ok (.aload_n 0, 1) := by decide +kernel
theorem dX2_look_61 : decode cX2_look 61 = .ok (.invokevirtual 137, 3) := by decide +kernel
theorem dX2_look_64 : decode cX2_look 64 = .ok (.ireturn, 1) := by decide +kernel
theorem dX2_look_65 : decode cX2_look 65 = .ok (.aload_n 0, 1) := by decide +kernel
theorem dX2_look_66 : decode cX2_look 66 = .ok (.getfield 23, 3) := by decide +kernel
theorem dX2_look_69 : decode cX2_look 69 = .ok (.invokevirtual 108, 3) := by decide +kernel
theorem dX2_look_72 : decode cX2_look 72 = .ok (.ireturn, 1) := by decide +kernel
theorem dX2_look_73 : decode cX2_look 73 = .ok (.aload_n 0, 1) := by decide +kernel
theorem dX2_look_74 : decode cX2_look 74 = .ok (.getfield 27, 3) := by decide +kernel
theorem dX2_look_77 : decode cX2_look 77 = .ok (.invokevirtual 108, 3) := by decide +kernel
theorem dX2_look_80 : decode cX2_look 80 = .ok (.ireturn, 1) := by decide +kernel
theorem dX2_look_81 : decode cX2_look 81 = .ok (.aload_n 0, 1) := by decide +kernel
theorem dX2_look_82 : decode cX2_look 82 = .ok (.getfield 140, 3) := by decide +kernel
theorem dX2_look_85 : decode cX2_look 85 = .ok (.ireturn, 1) := by decide +kernel
theorem dX2_look_86 : decode cX2_look 86 = .ok (.aload_n 0, 1) := by decide +kernel
theorem dX2_look_87 : decode cX2_look 87 = .ok (.invokevirtual 143, 3) := by decide +kernel
theorem dX2_look_90 : decode cX2_look 90 = .ok (.ireturn, 1) := by decide +kernel
theorem dX2_look_91 : decode cX2_look 91 = .ok (.aload_n 0, 1) := by decide +kernel
theorem dX2_look_92 : decode cX2_look 92 = .ok (.invokevirtual 146, 3) := by decide +kernel
theorem dX2_look_95 : decode cX2_look 95 = .ok (.ireturn, 1) := by decide +kernel
theorem dX2_look_96 : decode cX2_look 96 = .ok (.aload_n 0, 1) := by decide +kernel
theorem dX2_look_97 : decode cX2_look 97 = .ok (.getfield 73, 3) := by decide +kernel
theorem dX2_look_100 : decode cX2_look 100 = .ok (.ireturn, 1) := by decide +kernel
theorem dX2_look_101 : decode cX2_look 101 = .ok (.aload_n 0, 1) := by decide +kernel
theorem dX2_look_102 : decode cX2_look 102 = .ok (.getfield 149, 3) := by decide +kernel
theorem dX2_look_105 : decode cX2_look 105 = .ok (.ireturn, 1) := by decide +kernel
theorem dX2_look_106 : decode cX2_look 106 = .ok (.aload_n 0, 1) := by decide +kernel
theorem dX2_look_107 : decode cX2_look 107 = .ok (.getfield 152, 3) := by decide +kernel
theorem dX2_look_110 : decode cX2_look 110 = .ok (.ireturn, 1) := by decide +kernel
theorem dX2_look_111 : decode cX2_look 111 = .ok (.aload_n 0, 1) := by decide +kernel
theorem dX2_look_112 : decode cX2_look 112 = .ok (.getfield 155, 3) := by decide +kernel
theorem dX2_look_115 : decode cX2_look 115 = .ok (.ireturn, 1) := by decide +kernel
theorem dX2_look_116 : decode cX2_look 116 = .ok (.aload_n 0, 1) := by decide +kernel
theorem dX2_look_117 : decode cX2_look 117 = .ok (.getfield 158, 3) := by decide +kernel
theorem dX2_look_120 : decode cX2_look 120 = .ok (.ireturn, 1) := by decide +kernel
theorem dX2_look_121 : decode cX2_look 121 = .ok (.iconst (-1), 1) := by decide +kernel
theorem dX2_look_122 : decode cX2_look 122 = .ok (.ireturn, 1) := by decide +kernel
theorem dX2_leastFreeProcess_0 : decode cX2_leastFreeProcess 0 = .ok (.iconst 0, 1) := by decide +kernel
theorem dX2_leastFreeProcess_1 : decode cX2_leastFreeProcess 1 = .ok (.istore_n 1, 1) := by decide +kernel
theorem dX2_leastFreeProcess_2 : decode cX2_leastFreeProcess 2 = .ok (.iload_n 1, 1) := by decide +kernel
theorem dX2_leastFreeProcess_3 : decode cX2_leastFreeProcess 3 = .ok (.bipush 8, 2) := by decide +kernel
theorem dX2_leastFreeProcess_5 : decode cX2_leastFreeProcess 5 = .ok (.if_icmp .ge 20, 3) := by decide +kernel
theorem dX2_leastFreeProcess_8 : decode cX2_leastFreeProcess 8 = .ok (.aload_n 0, 1) := by decide +kernel
theorem dX2_leastFreeProcess_9 : decode cX2_leastFreeProcess 9 = .ok (.getfield 34, 3) := by decide +kernel
theorem dX2_leastFreeProcess_12 : decode cX2_leastFreeProcess 12 = .ok (.iload_n 1, 1) := by decide +kernel
theorem dX2_leastFreeProcess_13 : decode cX2_leastFreeProcess 13 = .ok (.iaload, 1) := by decide +kernel
theorem dX2_leastFreeProcess_14 : decode cX2_leastFreeProcess 14 = .ok (.ifCond .ne 5, 3) := by decide +kernel
theorem dX2_leastFreeProcess_17 : decode cX2_leastFreeProcess 17 = .ok (.iload_n 1, 1) := by decide +kernel
theorem dX2_leastFreeProcess_18 : decode cX2_leastFreeProcess 18 = .ok (.ireturn, 1) := by decide +kernel
theorem dX2_leastFreeProcess_19 : decode cX2_leastFreeProcess 19 = .ok (.iinc 1 1, 3) := by decide +kernel
theorem dX2_leastFreeProcess_22 : decode cX2_leastFreeProcess 22 = .ok (.goto (-20), 3) := by decide +kernel
theorem dX2_leastFreeProcess_25 : decode cX2_leastFreeProcess 25 = .ok (.iconst (-1), 1) := by decide +kernel
theorem dX2_leastFreeProcess_26 : decode cX2_leastFreeProcess 26 = .ok (.ireturn, 1) := by decide +kernel
theorem dX2_hasProcess_0 : decode cX2_hasProcess 0 = .ok (.iload_n 1, 1) := by decide +kernel
theorem dX2_hasProcess_1 : decode cX2_hasProcess 1 = .ok (.ifCond .lt 22, 3) := by decide +kernel
theorem dX2_hasProcess_4 : decode cX2_hasProcess 4 = .ok (.iload_n 1, 1) := by decide +kernel
theorem dX2_hasProcess_5 : decode cX2_hasProcess 5 = .ok (.bipush 8, 2) := by decide +kernel
theorem dX2_hasProcess_7 : decode cX2_hasProcess 7 = .ok (.if_icmp .ge 16, 3) := by decide +kernel
theorem dX2_hasProcess_10 : decode cX2_hasProcess 10 = .ok (.aload_n 0, 1) := by decide +kernel
theorem dX2_hasProcess_11 : decode cX2_hasProcess 11 = .ok (.getfield 34, 3) := by decide +kernel
theorem dX2_hasProcess_14 : decode cX2_hasProcess 14 = .ok (.iload_n 1, 1) := by decide +kernel
theorem dX2_hasProcess_15 : decode cX2_hasProcess 15 = .ok (.iaload, 1) := by decide +kernel
theorem dX2_hasProcess_16 : decode cX2_hasProcess 16 = .ok (.ifCond .le 7, 3) := by decide +kernel
theorem dX2_hasProcess_19 : decode cX2_hasProcess 19 = .ok (.iconst 1, 1) := by decide +kernel
theorem dX2_hasProcess_20 : decode cX2_hasProcess 20 = .ok (.goto 4, 3) := by decide +kernel
theorem dX2_hasProcess_23 : decode cX2_hasProcess 23 = .ok (.iconst 0, 1) := by decide +kernel
theorem dX2_hasProcess_24 : decode cX2_hasProcess 24 = .ok (.ireturn, 1) := by decide +kernel
theorem dX2_hasPage_0 : decode cX2_hasPage 0 = .ok (.aload_n 0, 1) := by decide +kernel
theorem dX2_hasPage_1 : decode cX2_hasPage 1 = .ok (.iload_n 1, 1) := by decide +kernel
theorem dX2_hasPage_2 : decode cX2_hasPage 2 = .ok (.invokevirtual 48, 3) := by decide +kernel
theorem dX2_hasPage_5 : decode cX2_hasPage 5 = .ok (.ifCond .eq 21, 3) := by decide +kernel
theorem dX2_hasPage_8 : decode cX2_hasPage 8 = .ok (.iload_n 2, 1) := by decide +kernel
theorem dX2_hasPage_9 : decode cX2_hasPage 9 = .ok (.ifCond .lt 17, 3) := by decide +kernel
theorem dX2_hasPage_12 : decode cX2_hasPage 12 = .ok (.iload_n 2, 1) := by decide +kernel
theorem dX2_hasPage_13 : decode cX2_hasPage 13 = .ok (.aload_n 0, 1) := by decide +kernel
theorem dX2_hasPage_14 : decode cX2_hasPage 14 = .ok (.getfield 34, 3) := by decide +kernel
theorem dX2_hasPage_17 : decode cX2_hasPage 17 = .ok (.iload_n 1, 1) := by decide +kernel
theorem dX2_hasPage_18 : decode cX2_hasPage 18 = .ok (.iaload, 1) := by decide +kernel
theorem dX2_hasPage_19 : decode cX2_hasPage 19 = .ok (.if_icmp .ge 7, 3) := by decide +kernel
theorem dX2_hasPage_22 : decode cX2_hasPage 22 = .ok (.iconst 1, 1) := by decide +kernel
theorem dX2_hasPage_23 : decode cX2_hasPage 23 = .ok (.goto 4, 3) := by decide +kernel
theorem dX2_hasPage_26 : decode cX2_hasPage 26 = .ok (.iconst 0, 1) := by decide +kernel
theorem dX2_hasPage_27 : decode cX2_hasPage 27 = .ok (.ireturn, 1) := by decide +kernel
theorem dX2_slot_0 : decode cX2_slot 0 = .ok (.iload_n 0, 1) := by decide +kernel
theorem dX2_slot_1 : decode cX2_slot 1 = .ok (.bipush 32, 2) := by decide +kernel
theorem dX2_slot_3 : decode cX2_slot 3 = .ok (.imul, 1) := by decide +kernel
theorem dX2_slot_4 : decode cX2_slot 4 = .ok (.iload_n 1, 1) := by decide +kernel
theorem dX2_slot_5 : decode cX2_slot 5 = .ok (.iadd, 1) := by decide +kernel
theorem dX2_slot_6 : decode cX2_slot 6 = .ok (.ireturn, 1) := by decide +kernel
theorem dX2_checkAddress_0 : decode cX2_checkAddress 0 = .ok (.iload_n 2, 1) := by decide +kernel
theorem dX2_checkAddress_1 : decode cX2_checkAddress 1 = .ok (.ifCond .lt 15, 3) := by decide +kernel
theorem dX2_checkAddress_4 : decode cX2_checkAddress 4 = .ok (.aload_n 0, 1) := by decide +kernel
theorem dX2_checkAddress_5 : decode cX2_checkAddress 5 = .ok (.iload_n 1, 1) := by decide +kernel
theorem dX2_checkAddress_6 : decode cX2_checkAddress 6 = .ok (.iload_n 2, 1) := by decide +kernel
theorem dX2_checkAddress_7 : decode cX2_checkAddress 7 = .ok (.bipush 16, 2) := by decide +kernel
theorem dX2_checkAddress_9 : decode cX2_checkAddress 9 = .ok (.idiv, 1) := by decide +kernel
theorem dX2_checkAddress_10 : decode cX2_checkAddress 10 = .ok (.invokevirtual 101, 3) := by decide +kernel
theorem dX2_checkAddress_13 : decode cX2_checkAddress 13 = .ok (.ifCond .ne 13, 3) := by decide +kernel
theorem dX2_checkAddress_16 : decode cX2_checkAddress 16 = .ok (.new 130, 3) := by decide +kernel
theorem dX2_checkAddress_19 : decode cX2_checkAddress 19 = .ok (.dup, 1) := by decide +kernel
theorem dX2_checkAddress_20 : decode cX2_checkAddress 20 = .ok (.ldc 161, 2) := by decide +kernel
theorem dX2_checkAddress_22 : decode cX2_checkAddress 22 = .ok (.invokespecial 134, 3) := by decide +kernel
theorem dX2_checkAddress_25 : decode cX2_checkAddress 25 = .ok (.athrow, 1) := by decide +kernel
theorem dX2_checkAddress_26 : decode cX2_checkAddress 26 = .ok (.return_, 1) := by decide +kernel
theorem dX2_checkRoom_0 : decode cX2_checkRoom 0 = .ok (.iload_n 1, 1) := by decide +kernel
theorem dX2_checkRoom_1 : decode cX2_checkRoom 1 = .ok (.aload_n 0, 1) := by decide +kernel
theorem dX2_checkRoom_2 : decode cX2_checkRoom 2 = .ok (.getfield 23, 3) := by decide +kernel
theorem dX2_checkRoom_5 : decode cX2_checkRoom 5 = .ok (.invokevirtual 108, 3) := by decide +kernel
theorem dX2_checkRoom_8 : decode cX2_checkRoom 8 = .ok (.isub, 1) := by decide +kernel
theorem dX2_checkRoom_9 : decode cX2_checkRoom 9 = .ok (.aload_n 0, 1) := by decide +kernel
theorem dX2_checkRoom_10 : decode cX2_checkRoom 10 = .ok (.getfield 27, 3) := by decide +kernel
theorem dX2_checkRoom_13 : decode cX2_checkRoom 13 = .ok (.invokevirtual 108, 3) := by decide +kernel
theorem dX2_checkRoom_16 : decode cX2_checkRoom 16 = .ok (.if_icmp .le 13, 3) := by decide +kernel
theorem dX2_checkRoom_19 : decode cX2_checkRoom 19 = .ok (.new 163, 3) := by decide +kernel
theorem dX2_checkRoom_22 : decode cX2_checkRoom 22 = .ok (.dup, 1) := by decide +kernel
theorem dX2_checkRoom_23 : decode cX2_checkRoom 23 = .ok (.ldc 165, 2) := by decide +kernel
theorem dX2_checkRoom_25 : decode cX2_checkRoom 25 = .ok (.invokespecial 167, 3) := by decide +kernel
theorem dX2_checkRoom_28 : decode cX2_checkRoom 28 = .ok (.athrow, 1) := by decide +kernel
theorem dX2_checkRoom_29 : decode cX2_checkRoom 29 = .ok (.return_, 1) := by decide +kernel
theorem dX2_takesToRead_0 : decode cX2_takesToRead 0 = .ok (.aload_n 0, 1) := by decide +kernel
theorem dX2_takesToRead_1 : decode cX2_takesToRead 1 = .ok (.ifnull 15, 3) := by decide +kernel
theorem dX2_takesToRead_4 : decode cX2_takesToRead 4 = .ok (.aload_n 0, 1) := by decide +kernel
theorem dX2_takesToRead_5 : decode cX2_takesToRead 5 = .ok (.getfield 76, 3) := by decide +kernel
theorem dX2_takesToRead_8 : decode cX2_takesToRead 8 = .ok (.iconst (-1), 1) := by decide +kernel
theorem dX2_takesToRead_9 : decode cX2_takesToRead 9 = .ok (.if_icmp .ne 7, 3) := by decide +kernel
theorem dX2_takesToRead_12 : decode cX2_takesToRead 12 = .ok (.iconst 1, 1) := by decide +kernel
theorem dX2_takesToRead_13 : decode cX2_takesToRead 13 = .ok (.goto 4, 3) := by decide +kernel
theorem dX2_takesToRead_16 : decode cX2_takesToRead 16 = .ok (.iconst 0, 1) := by decide +kernel
theorem dX2_takesToRead_17 : decode cX2_takesToRead 17 = .ok (.ireturn, 1) := by decide +kernel
theorem dX2_takesToWrite_0 : decode cX2_takesToWrite 0 = .ok (.aload_n 0, 1) := by decide +kernel
theorem dX2_takesToWrite_1 : decode cX2_takesToWrite 1 = .ok (.ifnonnull 5, 3) := by decide +kernel
theorem dX2_takesToWrite_4 : decode cX2_takesToWrite 4 = .ok (.iconst 1, 1) := by decide +kernel
theorem dX2_takesToWrite_5 : decode cX2_takesToWrite 5 = .ok (.ireturn, 1) := by decide +kernel
theorem dX2_takesToWrite_6 : decode cX2_takesToWrite 6 = .ok (.aload_n 0, 1) := by decide +kernel
theorem dX2_takesToWrite_7 : decode cX2_takesToWrite 7 = .ok (.invokestatic 66, 3) := by decide +kernel
theorem dX2_takesToWrite_10 : decode cX2_takesToWrite 10 = .ok (.aload_n 0, 1) := by decide +kernel
theorem dX2_takesToWrite_11 : decode cX2_takesToWrite 11 = .ok (.getfield 55, 3) := by decide +kernel
theorem dX2_takesToWrite_14 : decode cX2_takesToWrite 14 = .ok (.iconst 1, 1) := by decide +kernel
theorem dX2_takesToWrite_15 : decode cX2_takesToWrite 15 = .ok (.if_icmp .le 7, 3) := by decide +kernel
theorem dX2_takesToWrite_18 : decode cX2_takesToWrite 18 = .ok (.iconst 1, 1) := by decide +kernel
theorem dX2_takesToWrite_19 : decode cX2_takesToWrite 19 = .ok (.goto 4, 3) := by decide +kernel
theorem dX2_takesToWrite_22 : decode cX2_takesToWrite 22 = .ok (.iconst 0, 1) := by decide +kernel
theorem dX2_takesToWrite_23 : decode cX2_takesToWrite 23 = .ok (.iadd, 1) := by decide +kernel
theorem dX2_takesToWrite_24 : decode cX2_takesToWrite 24 = .ok (.ireturn, 1) := by decide +kernel
theorem dX2_ownBody_0 : decode cX2_ownBody 0 = .ok (.aload_n 1, 1) := by decide +kernel
theorem dX2_ownBody_1 : decode cX2_ownBody 1 = .ok (.ifnonnull 14, 3) := by decide +kernel
theorem dX2_ownBody_4 : decode cX2_ownBody 4 = .ok (.aload_n 0, 1) := by decide +kernel
theorem dX2_ownBody_5 : decode cX2_ownBody 5 = .ok (.iload_n 2, 1) := by decide +kernel
theorem dX2_ownBody_6 : decode cX2_ownBody 6 = .ok (.aload_n 0, 1) := by decide +kernel
theorem dX2_ownBody_7 : decode cX2_ownBody 7 = .ok (.iconst (-1), 1) := by decide +kernel
theorem dX2_ownBody_8 : decode cX2_ownBody 8 = .ok (.invokevirtual 79, 3) := by decide +kernel
theorem dX2_ownBody_11 : decode cX2_ownBody 11 = .ok (.invokevirtual 168, 3) := by decide +kernel
theorem dX2_ownBody_14 : decode cX2_ownBody 14 = .ok (.areturn, 1) := by decide +kernel
theorem dX2_ownBody_15 : decode cX2_ownBody 15 = .ok (.aload_n 1, 1) := by decide +kernel
theorem dX2_ownBody_16 : decode cX2_ownBody 16 = .ok (.getfield 76, 3) := by decide +kernel
theorem dX2_ownBody_19 : decode cX2_ownBody 19 = .ok (.iconst (-1), 1) := by decide +kernel
theorem dX2_ownBody_20 : decode cX2_ownBody 20 = .ok (.if_icmp .ne 13, 3) := by decide +kernel
theorem dX2_ownBody_23 : decode cX2_ownBody 23 = .ok (.aload_n 0, 1) := by decide +kernel
theorem dX2_ownBody_24 : decode cX2_ownBody 24 = .ok (.aload_n 1, 1) := by decide +kernel
theorem dX2_ownBody_25 : decode cX2_ownBody 25 = .ok (.aload_n 0, 1) := by decide +kernel
theorem dX2_ownBody_26 : decode cX2_ownBody 26 = .ok (.iconst (-1), 1) := by decide +kernel
theorem dX2_ownBody_27 : decode cX2_ownBody 27 = .ok (.invokevirtual 79, 3) := by decide +kernel
theorem dX2_ownBody_30 : decode cX2_ownBody 30 = .ok (.invokevirtual 83, 3) := by decide +kernel
theorem dX2_ownBody_33 : decode cX2_ownBody 33 = .ok (.aload_n 1, 1) := by decide +kernel
theorem dX2_ownBody_34 : decode cX2_ownBody 34 = .ok (.getfield 55, 3) := by decide +kernel
theorem dX2_ownBody_37 : decode cX2_ownBody 37 = .ok (.iconst 1, 1) := by decide +kernel
theorem dX2_ownBody_38 : decode cX2_ownBody 38 = .ok (.if_icmp .le 19, 3) := by decide +kernel
theorem dX2_ownBody_41 : decode cX2_ownBody 41 = .ok (.aload_n 0, 1) := by decide +kernel
theorem dX2_ownBody_42 : decode cX2_ownBody 42 = .ok (.aload_n 1, 1) := by decide +kernel
theorem dX2_ownBody_43 : decode cX2_ownBody 43 = .ok (.aload_n 0, 1) := by decide +kernel
theorem dX2_ownBody_44 : decode cX2_ownBody 44 = .ok (.aload_n 1, 1) := by decide +kernel
theorem dX2_ownBody_45 : decode cX2_ownBody 45 = .ok (.getfield 76, 3) := by decide +kernel
theorem dX2_ownBody_48 : decode cX2_ownBody 48 = .ok (.invokevirtual 79, 3) := by decide +kernel
theorem dX2_ownBody_51 : decode cX2_ownBody 51 = .ok (.invokevirtual 172, 3) := by decide +kernel
theorem dX2_ownBody_54 : decode cX2_ownBody 54 = .ok (.goto 4, 3) := by decide +kernel
theorem dX2_ownBody_57 : decode cX2_ownBody 57 = .ok (.aload_n 1, 1) := by decide +kernel
theorem dX2_ownBody_58 : decode cX2_ownBody 58 = .ok (.areturn, 1) := by decide +kernel
theorem dX2_newBody_0 : decode cX2_newBody 0 = .ok (.new 38, 3) := by decide +kernel
theorem dX2_newBody_3 : decode cX2_newBody 3 = .ok (.dup, 1) := by decide +kernel
theorem dX2_newBody_4 : decode cX2_newBody 4 = .ok (.iload_n 1, 1) := by decide +kernel
theorem dX2_newBody_5 : decode cX2_newBody 5 = .ok (.invokespecial 175, 3) := by decide +kernel
theorem dX2_newBody_8 : decode cX2_newBody 8 = .ok (.astore_n 3, 1) := by decide +kernel
theorem dX2_newBody_9 : decode cX2_newBody 9 = .ok (.aload_n 0, 1) := by decide +kernel
theorem dX2_newBody_10 : decode cX2_newBody 10 = .ok (.aload_n 3, 1) := by decide +kernel
theorem dX2_newBody_11 : decode cX2_newBody 11 = .ok (.iload_n 2, 1) := by decide +kernel
theorem dX2_newBody_12 : decode cX2_newBody 12 = .ok (.invokevirtual 176, 3) := by decide +kernel
theorem dX2_newBody_15 : decode cX2_newBody 15 = .ok (.aload_n 0, 1) := by decide +kernel
theorem dX2_newBody_16 : decode cX2_newBody 16 = .ok (.getfield 23, 3) := by decide +kernel
theorem dX2_newBody_19 : decode cX2_newBody 19 = .ok (.iload_n 2, 1) := by decide +kernel
theorem dX2_newBody_20 : decode cX2_newBody 20 = .ok (.invokevirtual 179, 3) := by decide +kernel
theorem dX2_newBody_23 : decode cX2_newBody 23 = .ok (.aload_n 3, 1) := by decide +kernel
theorem dX2_newBody_24 : decode cX2_newBody 24 = .ok (.areturn, 1) := by decide +kernel
theorem dX2_copyBody_0 : decode cX2_copyBody 0 = .ok (.aload_n 0, 1) := by decide +kernel
theorem dX2_copyBody_1 : decode cX2_copyBody 1 = .ok (.aload_n 1, 1) := by decide +kernel
theorem dX2_copyBody_2 : decode cX2_copyBody 2 = .ok (.getfield 127, 3) := by decide +kernel
theorem dX2_copyBody_5 : decode cX2_copyBody 5 = .ok (.iload_n 2, 1) := by decide +kernel
theorem dX2_copyBody_6 : decode cX2_copyBody 6 = .ok (.invokevirtual 168, 3) := by decide +kernel
theorem dX2_copyBody_9 : decode cX2_copyBody 9 = .ok (.astore_n 3, 1) := by decide +kernel
theorem dX2_copyBody_10 : decode cX2_copyBody 10 = .ok (.aload_n 0, 1) := by decide +kernel
theorem dX2_copyBody_11 : decode cX2_copyBody 11 = .ok (.getfield 23, 3) := by decide +kernel
theorem dX2_copyBody_14 : decode cX2_copyBody 14 = .ok (.iload_n 2, 1) := by decide +kernel
theorem dX2_copyBody_15 : decode cX2_copyBody 15 = .ok (.aload_n 0, 1) := by decide +kernel
theorem dX2_copyBody_16 : decode cX2_copyBody 16 = .ok (.getfield 23, 3) := by decide +kernel
theorem dX2_copyBody_19 : decode cX2_copyBody 19 = .ok (.aload_n 1, 1) := by decide +kernel
theorem dX2_copyBody_20 : decode cX2_copyBody 20 = .ok (.getfield 76, 3) := by decide +kernel
theorem dX2_copyBody_23 : decode cX2_copyBody 23 = .ok (.invokevirtual 182, 3) := by decide +kernel
theorem dX2_copyBody_26 : decode cX2_copyBody 26 = .ok (.aload_n 1, 1) := by decide +kernel
theorem dX2_copyBody_27 : decode cX2_copyBody 27 = .ok (.dup, 1) := by decide +kernel
theorem dX2_copyBody_28 : decode cX2_copyBody 28 = .ok (.getfield 55, 3) := by decide +kernel
theorem dX2_copyBody_31 : decode cX2_copyBody 31 = .ok (.iconst 1, 1) := by decide +kernel
theorem dX2_copyBody_32 : decode cX2_copyBody 32 = .ok (.isub, 1) := by decide +kernel
theorem dX2_copyBody_33 : decode cX2_copyBody 33 = .ok (.putfield 55, 3) := by decide +kernel
theorem dX2_copyBody_36 : decode cX2_copyBody 36 = .ok (.aload_n 0, 1) := by decide +kernel
theorem dX2_copyBody_37 : decode cX2_copyBody 37 = .ok (.dup, 1) := by decide +kernel
theorem dX2_copyBody_38 : decode cX2_copyBody 38 = .ok (.getfield 158, 3) := by decide +kernel
theorem dX2_copyBody_41 : decode cX2_copyBody 41 = .ok (.iconst 1, 1) := by decide +kernel
theorem dX2_copyBody_42 : decode cX2_copyBody 42 = .ok (.iadd, 1) := by decide +kernel
theorem dX2_copyBody_43 : decode cX2_copyBody 43 = .ok (.putfield 158, 3) := by decide +kernel
theorem dX2_copyBody_46 : decode cX2_copyBody 46 = .ok (.aload_n 3, 1) := by decide +kernel
theorem dX2_copyBody_47 : decode cX2_copyBody 47 = .ok (.areturn, 1) := by decide +kernel
theorem dX2_bring_0 : decode cX2_bring 0 = .ok (.aload_n 0, 1) := by decide +kernel
theorem dX2_bring_1 : decode cX2_bring 1 = .ok (.aload_n 1, 1) := by decide +kernel
theorem dX2_bring_2 : decode cX2_bring 2 = .ok (.iload_n 2, 1) := by decide +kernel
theorem dX2_bring_3 : decode cX2_bring 3 = .ok (.invokevirtual 176, 3) := by decide +kernel
theorem dX2_bring_6 : decode cX2_bring 6 = .ok (.aload_n 0, 1) := by decide +kernel
theorem dX2_bring_7 : decode cX2_bring 7 = .ok (.getfield 23, 3) := by decide +kernel
theorem dX2_bring_10 : decode cX2_bring 10 = .ok (.iload_n 2, 1) := by decide +kernel
theorem dX2_bring_11 : decode cX2_bring 11 = .ok (.aload_n 0, 1) := by decide +kernel
theorem dX2_bring_12 : decode cX2_bring 12 = .ok (.getfield 27, 3) := by decide +kernel
theorem dX2_bring_15 : decode cX2_bring 15 = .ok (.aload_n 1, 1) := by decide +kernel
theorem dX2_bring_16 : decode cX2_bring 16 = .ok (.getfield 118, 3) := by decide +kernel
theorem dX2_bring_19 : decode cX2_bring 19 = .ok (.invokevirtual 182, 3) := by decide +kernel
theorem dX2_bring_22 : decode cX2_bring 22 = .ok (.aload_n 0, 1) := by decide +kernel
theorem dX2_bring_23 : decode cX2_bring 23 = .ok (.dup, 1) := by decide +kernel
theorem dX2_bring_24 : decode cX2_bring 24 = .ok (.getfield 152, 3) := by decide +kernel
theorem dX2_bring_27 : decode cX2_bring 27 = .ok (.iconst 1, 1) := by decide +kernel
theorem dX2_bring_28 : decode cX2_bring 28 = .ok (.iadd, 1) := by decide +kernel
theorem dX2_bring_29 : decode cX2_bring 29 = .ok (.putfield 152, 3) := by decide +kernel
theorem dX2_bring_32 : decode cX2_bring 32 = .ok (.return_, 1) := by decide +kernel
theorem dX2_lay_0 : decode cX2_lay 0 = .ok (.aload_n 1, 1) := by decide +kernel
theorem dX2_lay_1 : decode cX2_lay 1 = .ok (.iload_n 2, 1) := by decide +kernel
theorem dX2_lay_2 : decode cX2_lay 2 = .ok (.putfield 76, 3) := by decide +kernel
theorem dX2_lay_5 : decode cX2_lay 5 = .ok (.aload_n 0, 1) := by decide +kernel
theorem dX2_lay_6 : decode cX2_lay 6 = .ok (.getfield 23, 3) := by decide +kernel
theorem dX2_lay_9 : decode cX2_lay 9 = .ok (.getfield 111, 3) := by decide +kernel
theorem dX2_lay_12 : decode cX2_lay 12 = .ok (.iload_n 2, 1) := by decide +kernel
theorem dX2_lay_13 : decode cX2_lay 13 = .ok (.aload_n 1, 1) := by decide +kernel
theorem dX2_lay_14 : decode cX2_lay 14 = .ok (.aastore, 1) := by decide +kernel
theorem dX2_lay_15 : decode cX2_lay 15 = .ok (.return_, 1) := by decide +kernel
theorem dX2_take_0 : decode cX2_take 0 = .ok (.aload_n 0, 1) := by decide +kernel
theorem dX2_take_1 : decode cX2_take 1 = .ok (.getfield 23, 3) := by decide +kernel
theorem dX2_take_4 : decode cX2_take 4 = .ok (.invokevirtual 186, 3) := by decide +kernel
theorem dX2_take_7 : decode cX2_take 7 = .ok (.istore_n 2, 1) := by decide +kernel
theorem dX2_take_8 : decode cX2_take 8 = .ok (.iload_n 2, 1) := by decide +kernel
theorem dX2_take_9 : decode cX2_take 9 = .ok (.iconst (-1), 1) := by decide +kernel
theorem dX2_take_10 : decode cX2_take 10 = .ok (.if_icmp .ne 14, 3) := by decide +kernel
theorem dX2_take_13 : decode cX2_take 13 = .ok (.aload_n 0, 1) := by decide +kernel
theorem dX2_take_14 : decode cX2_take 14 = .ok (.iload_n 1, 1) := by decide +kernel
theorem dX2_take_15 : decode cX2_take 15 = .ok (.invokevirtual 189, 3) := by decide +kernel
theorem dX2_take_18 : decode cX2_take 18 = .ok (.istore_n 2, 1) := by decide +kernel
theorem dX2_take_19 : decode cX2_take 19 = .ok (.aload_n 0, 1) := by decide +kernel
theorem dX2_take_20 : decode cX2_take 20 = .ok (.iload_n 2, 1) := by decide +kernel
theorem dX2_take_21 : decode cX2_take 21 = .ok (.invokevirtual 192, 3) := by decide +kernel
theorem dX2_take_24 : decode cX2_take 24 = .ok (.aload_n 0, 1) := by decide +kernel
theorem dX2_take_25 : decode cX2_take 25 = .ok (.dup, 1) := by decide +kernel
theorem dX2_take_26 : decode cX2_take 26 = .ok (.getfield 149, 3) := by decide +kernel
theorem dX2_take_29 : decode cX2_take 29 = .ok (.iconst 1, 1) := by decide +kernel
theorem dX2_take_30 : decode cX2_take 30 = .ok (.iadd, 1) := by decide +kernel
theorem dX2_take_31 : decode cX2_take 31 = .ok (.putfield 149, 3) := by decide +kernel
theorem dX2_take_34 : decode cX2_take 34 = .ok (.iload_n 2, 1) := by decide +kernel
theorem dX2_take_35 : decode cX2_take 35 = .ok (.ireturn, 1) := by decide +kernel
theorem dX2_secondChance_0 : decode cX2_secondChance 0 = .ok (.iconst 2, 1) := by decide +kernel
theorem dX2_secondChance_1 : decode cX2_secondChance 1 = .ok (.aload_n 0, 1) := by decide +kernel
theorem dX2_secondChance_2 : decode cX2_secondChance 2 = .ok (.getfield 30, 3) := by decide +kernel
theorem dX2_secondChance_5 : decode cX2_secondChance 5 = .ok (.arraylength, 1) := by decide +kernel
theorem dX2_secondChance_6 : decode cX2_secondChance 6 = .ok (.imul, 1) := by decide +kernel
theorem dX2_secondChance_7 : decode cX2_secondChance 7 = .ok (.istore_n 2, 1) := by decide +kernel
theorem dX2_secondChance_8 : decode cX2_secondChance 8 = .ok (.iload_n 2, 1) := by decide +kernel
theorem dX2_secondChance_9 : decode cX2_secondChance 9 = .ok (.ifCond .le 59, 3) := by decide +kernel
theorem dX2_secondChance_12 : decode cX2_secondChance 12 = .ok (.aload_n 0, 1) := by decide +kernel
theorem dX2_secondChance_13 : decode cX2_secondChance 13 = .ok (.getfield 140, 3) := by decide +kernel
theorem dX2_secondChance_16 : decode cX2_secondChance 16 = .ok (.iload_n 1, 1) := by decide +kernel
theorem dX2_secondChance_17 : decode cX2_secondChance 17 = .ok (.if_icmp .eq 15, 3) := by decide +kernel
theorem dX2_secondChance_20 : decode cX2_secondChance 20 = .ok (.aload_n 0, 1) := by decide +kernel
theorem dX2_secondChance_21 : decode cX2_secondChance 21 = .ok (.getfield 30, 3) := by decide +kernel
theorem dX2_secondChance_24 : decode cX2_secondChance 24 = .ok (.aload_n 0, 1) := by decide +kernel
theorem dX2_secondChance_25 : decode cX2_secondChance 25 = .ok (.getfield 140, 3) := by decide +kernel
theorem dX2_secondChance_28 : decode cX2_secondChance 28 = .ok (.baload, 1) := by decide +kernel
theorem dX2_secondChance_29 : decode cX2_secondChance 29 = .ok (.ifCond .eq 39, 3) := by decide +kernel
theorem dX2_secondChance_32 : decode cX2_secondChance 32 = .ok (.aload_n 0, 1) := by decide +kernel
theorem dX2_secondChance_33 : decode cX2_secondChance 33 = .ok (.getfield 140, 3) := by decide +kernel
theorem dX2_secondChance_36 : decode cX2_secondChance 36 = .ok (.iload_n 1, 1) := by decide +kernel
theorem dX2_secondChance_37 : decode cX2_secondChance 37 = .ok (.if_icmp .eq 13, 3) := by decide +kernel
theorem dX2_secondChance_40 : decode cX2_secondChance 40 = .ok (.aload_n 0, 1) := by decide +kernel
theorem dX2_secondChance_41 : decode cX2_secondChance 41 = .ok (.getfield 30, 3) := by decide +kernel
theorem dX2_secondChance_44 : decode cX2_secondChance 44 = .ok (.aload_n 0, 1) := by decide +kernel
theorem dX2_secondChance_45 : decode cX2_secondChance 45 = .ok (.getfield 140, 3) := by decide +kernel
theorem dX2_secondChance_48 : decode cX2_secondChance 48 = .ok (.iconst 0, 1) := by decide +kernel
theorem dX2_secondChance_49 : decode cX2_secondChance 49 = .ok (.bastore, 1) := by decide +kernel
theorem dX2_secondChance_50 : decode cX2_secondChance 50 = .ok (.aload_n 0, 1) := by decide +kernel
theorem dX2_secondChance_51 : decode cX2_secondChance 51 = .ok (.aload_n 0, 1) := by decide +kernel
theorem dX2_secondChance_52 : decode cX2_secondChance 52 = .ok (.aload_n 0, 1) := by decide +kernel
theorem dX2_secondChance_53 : decode cX2_secondChance 53 = .ok (.getfield 140, 3) := by decide +kernel
theorem dX2_secondChance_56 : decode cX2_secondChance 56 = .ok (.invokevirtual 195, 3) := by decide +kernel
theorem dX2_secondChance_59 : decode cX2_secondChance 59 = .ok (.putfield 140, 3) := by decide +kernel
theorem dX2_secondChance_62 : decode cX2_secondChance 62 = .ok (.iinc 2 (-1), 3) := by decide +kernel
theorem dX2_secondChance_65 : decode cX2_secondChance 65 = .ok (.goto (-57), 3) := by decide +kernel
theorem dX2_secondChance_68 : decode cX2_secondChance 68 = .ok (.aload_n 0, 1) := by decide +kernel
theorem dX2_secondChance_69 : decode cX2_secondChance 69 = .ok (.getfield 140, 3) := by decide +kernel
theorem dX2_secondChance_72 : decode cX2_secondChance 72 = .ok (.istore_n 3, 1) := by decide +kernel
theorem dX2_secondChance_73 : decode cX2_secondChance 73 = .ok (.aload_n 0, 1) := by decide +kernel
theorem dX2_secondChance_74 : decode cX2_secondChance 74 = .ok (.aload_n 0, 1) := by decide +kernel
theorem dX2_secondChance_75 : decode cX2_secondChance 75 = .ok (.iload_n 3, 1) := by decide +kernel
theorem dX2_secondChance_76 : decode cX2_secondChance 76 = .ok (.invokevirtual 195, 3) := by decide +kernel
theorem dX2_secondChance_79 : decode cX2_secondChance 79 = .ok (.putfield 140, 3) := by decide +kernel
theorem dX2_secondChance_82 : decode cX2_secondChance 82 = .ok (.iload_n 3, 1) := by decide +kernel
theorem dX2_secondChance_83 : decode cX2_secondChance 83 = .ok (.ireturn, 1) := by decide +kernel
theorem dX2_behind_0 : decode cX2_behind 0 = .ok (.iload_n 1, 1) := by decide +kernel
theorem dX2_behind_1 : decode cX2_behind 1 = .ok (.iconst 1, 1) := by decide +kernel
theorem dX2_behind_2 : decode cX2_behind 2 = .ok (.iadd, 1) := by decide +kernel
theorem dX2_behind_3 : decode cX2_behind 3 = .ok (.aload_n 0, 1) := by decide +kernel
theorem dX2_behind_4 : decode cX2_behind 4 = .ok (.getfield 30, 3) := by decide +kernel
theorem dX2_behind_7 : decode cX2_behind 7 = .ok (.arraylength, 1) := by decide +kernel
theorem dX2_behind_8 : decode cX2_behind 8 = .ok (.if_icmp .ge 9, 3) := by decide +kernel
theorem dX2_behind_11 : decode cX2_behind 11 = .ok (.iload_n 1, 1) := by decide +kernel
theorem dX2_behind_12 : decode cX2_behind 12 = .ok (.iconst 1, 1) := by decide +kernel
theorem dX2_behind_13 : decode cX2_behind 13 = .ok (.iadd, 1) := by decide +kernel
theorem dX2_behind_14 : decode cX2_behind 14 = .ok (.goto 4, 3) := by decide +kernel
theorem dX2_behind_17 : decode cX2_behind 17 = .ok (.iconst 0, 1) := by decide +kernel
theorem dX2_behind_18 : decode cX2_behind 18 = .ok (.ireturn, 1) := by decide +kernel
theorem dX2_vacate_0 : decode cX2_vacate 0 = .ok (.aload_n 0, 1) := by decide +kernel
theorem dX2_vacate_1 : decode cX2_vacate 1 = .ok (.getfield 23, 3) := by decide +kernel
theorem dX2_vacate_4 : decode cX2_vacate 4 = .ok (.getfield 111, 3) := by decide +kernel
theorem dX2_vacate_7 : decode cX2_vacate 7 = .ok (.iload_n 1, 1) := by decide +kernel
theorem dX2_vacate_8 : decode cX2_vacate 8 = .ok (.aaload, 1) := by decide +kernel
theorem dX2_vacate_9 : decode cX2_vacate 9 = .ok (.astore_n 2, 1) := by decide +kernel
theorem dX2_vacate_10 : decode cX2_vacate 10 = .ok (.aload_n 2, 1) := by decide +kernel
theorem dX2_vacate_11 : decode cX2_vacate 11 = .ok (.ifnonnull 4, 3) := by decide +kernel
theorem dX2_vacate_14 : decode cX2_vacate 14 = .ok (.return_, 1) := by decide +kernel
theorem dX2_vacate_15 : decode cX2_vacate 15 = .ok (.aload_n 2, 1) := by decide +kernel
theorem dX2_vacate_16 : decode cX2_vacate 16 = .ok (.getfield 97, 3) := by decide +kernel
theorem dX2_vacate_19 : decode cX2_vacate 19 = .ok (.ifCond .eq 8, 3) := by decide +kernel
theorem dX2_vacate_22 : decode cX2_vacate 22 = .ok (.aload_n 0, 1) := by decide +kernel
theorem dX2_vacate_23 : decode cX2_vacate 23 = .ok (.aload_n 2, 1) := by decide +kernel
theorem dX2_vacate_24 : decode cX2_vacate 24 = .ok (.invokevirtual 114, 3) := by decide +kernel
theorem dX2_vacate_27 : decode cX2_vacate 27 = .ok (.aload_n 2, 1) := by decide +kernel
theorem dX2_vacate_28 : decode cX2_vacate 28 = .ok (.iconst (-1), 1) := by decide +kernel
theorem dX2_vacate_29 : decode cX2_vacate 29 = .ok (.putfield 76, 3) := by decide +kernel
theorem dX2_vacate_32 : decode cX2_vacate 32 = .ok (.aload_n 0, 1) := by decide +kernel
theorem dX2_vacate_33 : decode cX2_vacate 33 = .ok (.getfield 23, 3) := by decide +kernel
theorem dX2_vacate_36 : decode cX2_vacate 36 = .ok (.getfield 111, 3) := by decide +kernel
theorem dX2_vacate_39 : decode cX2_vacate 39 = .ok (.iload_n 1, 1) := by decide +kernel
theorem dX2_vacate_40 : decode cX2_vacate 40 = .ok (.aconst_null, 1) := by decide +kernel
theorem dX2_vacate_41 : decode cX2_vacate 41 = .ok (.aastore, 1) := by decide +kernel
theorem dX2_vacate_42 : decode cX2_vacate 42 = .ok (.return_, 1) := by decide +kernel
theorem dX2_store_0 : decode cX2_store 0 = .ok (.aload_n 1, 1) := by decide +kernel
theorem dX2_store_1 : decode cX2_store 1 = .ok (.getfield 118, 3) := by decide +kernel
theorem dX2_store_4 : decode cX2_store 4 = .ok (.iconst (-1), 1) := by decide +kernel
theorem dX2_store_5 : decode cX2_store 5 = .ok (.if_icmp .eq 10, 3) := by decide +kernel
theorem dX2_store_8 : decode cX2_store 8 = .ok (.aload_n 1, 1) := by decide +kernel
theorem dX2_store_9 : decode cX2_store 9 = .ok (.getfield 118, 3) := by decide +kernel
theorem dX2_store_12 : decode cX2_store 12 = .ok (.goto 10, 3) := by decide +kernel
theorem dX2_store_15 : decode cX2_store 15 = .ok (.aload_n 0, 1) := by decide +kernel
theorem dX2_store_16 : decode cX2_store 16 = .ok (.getfield 27, 3) := by decide +kernel
theorem dX2_store_19 : decode cX2_store 19 = .ok (.invokevirtual 186, 3) := by decide +kernel
theorem dX2_store_22 : decode cX2_store 22 = .ok (.istore_n 2, 1) := by decide +kernel
theorem dX2_store_23 : decode cX2_store 23 = .ok (.aload_n 0, 1) := by decide +kernel
theorem dX2_store_24 : decode cX2_store 24 = .ok (.getfield 27, 3) := by decide +kernel
theorem dX2_store_27 : decode cX2_store 27 = .ok (.iload_n 2, 1) := by decide +kernel
theorem dX2_store_28 : decode cX2_store 28 = .ok (.invokevirtual 121, 3) := by decide +kernel
theorem dX2_store_31 : decode cX2_store 31 = .ok (.ifCond .ne 4, 3) := by decide +kernel
theorem dX2_store_34 : decode cX2_store 34 = .ok (.return_, 1) := by decide +kernel
theorem dX2_store_35 : decode cX2_store 35 = .ok (.aload_n 1, 1) := by decide +kernel
theorem dX2_store_36 : decode cX2_store 36 = .ok (.iload_n 2, 1) := by decide +kernel
theorem dX2_store_37 : decode cX2_store 37 = .ok (.putfield 118, 3) := by decide +kernel
theorem dX2_store_40 : decode cX2_store 40 = .ok (.aload_n 0, 1) := by decide +kernel
theorem dX2_store_41 : decode cX2_store 41 = .ok (.getfield 27, 3) := by decide +kernel
theorem dX2_store_44 : decode cX2_store 44 = .ok (.getfield 111, 3) := by decide +kernel
theorem dX2_store_47 : decode cX2_store 47 = .ok (.iload_n 2, 1) := by decide +kernel
theorem dX2_store_48 : decode cX2_store 48 = .ok (.aload_n 1, 1) := by decide +kernel
theorem dX2_store_49 : decode cX2_store 49 = .ok (.aastore, 1) := by decide +kernel
theorem dX2_store_50 : decode cX2_store 50 = .ok (.aload_n 0, 1) := by decide +kernel
theorem dX2_store_51 : decode cX2_store 51 = .ok (.getfield 27, 3) := by decide +kernel
theorem dX2_store_54 : decode cX2_store 54 = .ok (.iload_n 2, 1) := by decide +kernel
theorem dX2_store_55 : decode cX2_store 55 = .ok (.aload_n 0, 1) := by decide +kernel
theorem dX2_store_56 : decode cX2_store 56 = .ok (.getfield 23, 3) := by decide +kernel
theorem dX2_store_59 : decode cX2_store 59 = .ok (.aload_n 1, 1) := by decide +kernel
theorem dX2_store_60 : decode cX2_store 60 = .ok (.getfield 76, 3) := by decide +kernel
theorem dX2_store_63 : decode cX2_store 63 = .ok (.invokevirtual 182, 3) := by decide +kernel
theorem dX2_store_66 : decode cX2_store 66 = .ok (.aload_n 1, 1) := by decide +kernel
theorem dX2_store_67 : decode cX2_store 67 = .ok (.iconst 0, 1) := by decide +kernel
theorem dX2_store_68 : decode cX2_store 68 = .ok (.putfield 97, 3) := by decide +kernel
theorem dX2_store_71 : decode cX2_store 71 = .ok (.aload_n 0, 1) := by decide +kernel
theorem dX2_store_72 : decode cX2_store 72 = .ok (.dup, 1) := by decide +kernel
theorem dX2_store_73 : decode cX2_store 73 = .ok (.getfield 155, 3) := by decide +kernel
theorem dX2_store_76 : decode cX2_store 76 = .ok (.iconst 1, 1) := by decide +kernel
theorem dX2_store_77 : decode cX2_store 77 = .ok (.iadd, 1) := by decide +kernel
theorem dX2_store_78 : decode cX2_store 78 = .ok (.putfield 155, 3) := by decide +kernel
theorem dX2_store_81 : decode cX2_store 81 = .ok (.return_, 1) := by decide +kernel
theorem dX2_empty_0 : decode cX2_empty 0 = .ok (.aload_n 0, 1) := by decide +kernel
theorem dX2_empty_1 : decode cX2_empty 1 = .ok (.getfield 40, 3) := by decide +kernel
theorem dX2_empty_4 : decode cX2_empty 4 = .ok (.iload_n 1, 1) := by decide +kernel
theorem dX2_empty_5 : decode cX2_empty 5 = .ok (.aaload, 1) := by decide +kernel
theorem dX2_empty_6 : decode cX2_empty 6 = .ok (.astore_n 2, 1) := by decide +kernel
theorem dX2_empty_7 : decode cX2_empty 7 = .ok (.aload_n 2, 1) := by decide +kernel
theorem dX2_empty_8 : decode cX2_empty 8 = .ok (.ifnonnull 5, 3) := by decide +kernel
theorem dX2_empty_11 : decode cX2_empty 11 = .ok (.iconst 0, 1) := by decide +kernel
theorem dX2_empty_12 : decode cX2_empty 12 = .ok (.ireturn, 1) := by decide +kernel
theorem dX2_empty_13 : decode cX2_empty 13 = .ok (.aload_n 0, 1) := by decide +kernel
theorem dX2_empty_14 : decode cX2_empty 14 = .ok (.getfield 40, 3) := by decide +kernel
theorem dX2_empty_17 : decode cX2_empty 17 = .ok (.iload_n 1, 1) := by decide +kernel
theorem dX2_empty_18 : decode cX2_empty 18 = .ok (.aconst_null, 1) := by decide +kernel
theorem dX2_empty_19 : decode cX2_empty 19 = .ok (.aastore, 1) := by decide +kernel
theorem dX2_empty_20 : decode cX2_empty 20 = .ok (.aload_n 2, 1) := by decide +kernel
theorem dX2_empty_21 : decode cX2_empty 21 = .ok (.dup, 1) := by decide +kernel
theorem dX2_empty_22 : decode cX2_empty 22 = .ok (.getfield 55, 3) := by decide +kernel
theorem dX2_empty_25 : decode cX2_empty 25 = .ok (.iconst 1, 1) := by decide +kernel
theorem dX2_empty_26 : decode cX2_empty 26 = .ok (.isub, 1) := by decide +kernel
theorem dX2_empty_27 : decode cX2_empty 27 = .ok (.putfield 55, 3) := by decide +kernel
theorem dX2_empty_30 : decode cX2_empty 30 = .ok (.aload_n 2, 1) := by decide +kernel
theorem dX2_empty_31 : decode cX2_empty 31 = .ok (.getfield 55, 3) := by decide +kernel
theorem dX2_empty_34 : decode cX2_empty 34 = .ok (.ifCond .ne 8, 3) := by decide +kernel
theorem dX2_empty_37 : decode cX2_empty 37 = .ok (.aload_n 0, 1) := by decide +kernel
theorem dX2_empty_38 : decode cX2_empty 38 = .ok (.aload_n 2, 1) := by decide +kernel
theorem dX2_empty_39 : decode cX2_empty 39 = .ok (.invokevirtual 198, 3) := by decide +kernel
theorem dX2_empty_42 : decode cX2_empty 42 = .ok (.iconst 1, 1) := by decide +kernel
theorem dX2_empty_43 : decode cX2_empty 43 = .ok (.ireturn, 1) := by decide +kernel
theorem dX2_release_0 : decode cX2_release 0 = .ok (.aload_n 0, 1) := by decide +kernel
theorem dX2_release_1 : decode cX2_release 1 = .ok (.getfield 23, 3) := by decide +kernel
theorem dX2_release_4 : decode cX2_release 4 = .ok (.aload_n 1, 1) := by decide +kernel
theorem dX2_release_5 : decode cX2_release 5 = .ok (.getfield 76, 3) := by decide +kernel
theorem dX2_release_8 : decode cX2_release 8 = .ok (.invokevirtual 121, 3) := by decide +kernel
theorem dX2_release_11 : decode cX2_release 11 = .ok (.ifCond .eq 26, 3) := by decide +kernel
theorem dX2_release_14 : decode cX2_release 14 = .ok (.aload_n 0, 1) := by decide +kernel
theorem dX2_release_15 : decode cX2_release 15 = .ok (.getfield 23, 3) := by decide +kernel
theorem dX2_release_18 : decode cX2_release 18 = .ok (.getfield 111, 3) := by decide +kernel
theorem dX2_release_21 : decode cX2_release 21 = .ok (.aload_n 1, 1) := by decide +kernel
theorem dX2_release_22 : decode cX2_release 22 = .ok (.getfield 76, 3) := by decide +kernel
theorem dX2_release_25 : decode cX2_release 25 = .ok (.aconst_null, 1) := by decide +kernel
theorem dX2_release_26 : decode cX2_release 26 = .ok (.aastore, 1) := by decide +kernel
theorem dX2_release_27 : decode cX2_release 27 = .ok (.aload_n 0, 1) := by decide +kernel
theorem dX2_release_28 : decode cX2_release 28 = .ok (.getfield 30, 3) := by decide +kernel
theorem dX2_release_31 : decode cX2_release 31 = .ok (.aload_n 1, 1) := by decide +kernel
theorem dX2_release_32 : decode cX2_release 32 = .ok (.getfield 76, 3) := by decide +kernel
theorem dX2_release_35 : decode cX2_release 35 = .ok (.iconst 0, 1) := by decide +kernel
theorem dX2_release_36 : decode cX2_release 36 = .ok (.bastore, 1) := by decide +kernel
theorem dX2_release_37 : decode cX2_release 37 = .ok (.aload_n 0, 1) := by decide +kernel
theorem dX2_release_38 : decode cX2_release 38 = .ok (.getfield 27, 3) := by decide +kernel
theorem dX2_release_41 : decode cX2_release 41 = .ok (.aload_n 1, 1) := by decide +kernel
theorem dX2_release_42 : decode cX2_release 42 = .ok (.getfield 118, 3) := by decide +kernel
theorem dX2_release_45 : decode cX2_release 45 = .ok (.invokevirtual 121, 3) := by decide +kernel
theorem dX2_release_48 : decode cX2_release 48 = .ok (.ifCond .eq 16, 3) := by decide +kernel
theorem dX2_release_51 : decode cX2_release 51 = .ok (.aload_n 0, 1) := by decide +kernel
theorem dX2_release_52 : decode cX2_release 52 = .ok (.getfield 27, 3) := by decide +kernel
theorem dX2_release_55 : decode cX2_release 55 = .ok (.getfield 111, 3) := by decide +kernel
theorem dX2_release_58 : decode cX2_release 58 = .ok (.aload_n 1, 1) := by decide +kernel
theorem dX2_release_59 : decode cX2_release 59 = .ok (.getfield 118, 3) := by decide +kernel
theorem dX2_release_62 : decode cX2_release 62 = .ok (.aconst_null, 1) := by decide +kernel
theorem dX2_release_63 : decode cX2_release 63 = .ok (.aastore, 1) := by decide +kernel
theorem dX2_release_64 : decode cX2_release 64 = .ok (.return_, 1) := by decide +kernel
theorem dX2_leastHolder_0 : decode cX2_leastHolder 0 = .ok (.iconst 0, 1) := by decide +kernel
theorem dX2_leastHolder_1 : decode cX2_leastHolder 1 = .ok (.istore_n 2, 1) := by decide +kernel
theorem dX2_leastHolder_2 : decode cX2_leastHolder 2 = .ok (.iload_n 2, 1) := by decide +kernel
theorem dX2_leastHolder_3 : decode cX2_leastHolder 3 = .ok (.bipush 8, 2) := by decide +kernel
theorem dX2_leastHolder_5 : decode cX2_leastHolder 5 = .ok (.if_icmp .ge 28, 3) := by decide +kernel
theorem dX2_leastHolder_8 : decode cX2_leastHolder 8 = .ok (.aload_n 0, 1) := by decide +kernel
theorem dX2_leastHolder_9 : decode cX2_leastHolder 9 = .ok (.getfield 40, 3) := by decide +kernel
theorem dX2_leastHolder_12 : decode cX2_leastHolder 12 = .ok (.iload_n 2, 1) := by decide +kernel
theorem dX2_leastHolder_13 : decode cX2_leastHolder 13 = .ok (.aload_n 1, 1) := by decide +kernel
theorem dX2_leastHolder_14 : decode cX2_leastHolder 14 = .ok (.getfield 127, 3) := by decide +kernel
theorem dX2_leastHolder_17 : decode cX2_leastHolder 17 = .ok (.invokestatic 52, 3) := by decide +kernel
theorem dX2_leastHolder_20 : decode cX2_leastHolder 20 = .ok (.aaload, 1) := by decide +kernel
theorem dX2_leastHolder_21 : decode cX2_leastHolder 21 = .ok (.aload_n 1, 1) := by decide +kernel
theorem dX2_leastHolder_22 : decode cX2_leastHolder 22 = .ok (.if_acmp .ne 5, 3) := by decide +kernel
theorem dX2_leastHolder_25 : decode cX2_leastHolder 25 = .ok (.iload_n 2, 1) := by decide +kernel
theorem dX2_leastHolder_26 : decode cX2_leastHolder 26 = .ok (.ireturn, 1) := by decide +kernel
theorem dX2_leastHolder_27 : decode cX2_leastHolder 27 = .ok (.iinc 2 1, 3) := by decide +kernel
theorem dX2_leastHolder_30 : decode cX2_leastHolder 30 = .ok (.goto (-28), 3) := by decide +kernel
theorem dX2_leastHolder_33 : decode cX2_leastHolder 33 = .ok (.iconst (-1), 1) := by decide +kernel
theorem dX2_leastHolder_34 : decode cX2_leastHolder 34 = .ok (.ireturn, 1) := by decide +kernel
theorem dX2_countProcesses_0 : decode cX2_countProcesses 0 = .ok (.iconst 0, 1) := by decide +kernel
theorem dX2_countProcesses_1 : decode cX2_countProcesses 1 = .ok (.istore_n 1, 1) := by decide +kernel
theorem dX2_countProcesses_2 : decode cX2_countProcesses 2 = .ok (.iconst 0, 1) := by decide +kernel
theorem dX2_countProcesses_3 : decode cX2_countProcesses 3 = .ok (.istore_n 2, 1) := by decide +kernel
theorem dX2_countProcesses_4 : decode cX2_countProcesses 4 = .ok (.iload_n 2, 1) := by decide +kernel
theorem dX2_countProcesses_5 : decode cX2_countProcesses 5 = .ok (.bipush 8, 2) := by decide +kernel
theorem dX2_countProcesses_7 : decode cX2_countProcesses 7 = .ok (.if_icmp .ge 20, 3) := by decide +kernel
theorem dX2_countProcesses_10 : decode cX2_countProcesses 10 = .ok (.aload_n 0, 1) := by decide +kernel
theorem dX2_countProcesses_11 : decode cX2_countProcesses 11 = .ok (.iload_n 2, 1) := by decide +kernel
theorem dX2_countProcesses_12 : decode cX2_countProcesses 12 = .ok (.invokevirtual 48, 3) := by decide +kernel
theorem dX2_countProcesses_15 : decode cX2_countProcesses 15 = .ok (.ifCond .eq 6, 3) := by decide +kernel
theorem dX2_countProcesses_18 : decode cX2_countProcesses 18 = .ok (.iinc 1 1, 3) := by decide +kernel
theorem dX2_countProcesses_21 : decode cX2_countProcesses 21 = .ok (.iinc 2 1, 3) := by decide +kernel
theorem dX2_countProcesses_24 : decode cX2_countProcesses 24 = .ok (.goto (-20), 3) := by decide +kernel
theorem dX2_countProcesses_27 : decode cX2_countProcesses 27 = .ok (.iload_n 1, 1) := by decide +kernel
theorem dX2_countProcesses_28 : decode cX2_countProcesses 28 = .ok (.ireturn, 1) := by decide +kernel
theorem dX2_countBodies_0 : decode cX2_countBodies 0 = .ok (.aload_n 0, 1) := by decide +kernel
theorem dX2_countBodies_1 : decode cX2_countBodies 1 = .ok (.getfield 23, 3) := by decide +kernel
theorem dX2_countBodies_4 : decode cX2_countBodies 4 = .ok (.getfield 111, 3) := by decide +kernel
theorem dX2_countBodies_7 : decode cX2_countBodies 7 = .ok (.arraylength, 1) := by decide +kernel
theorem dX2_countBodies_8 : decode cX2_countBodies 8 = .ok (.aload_n 0, 1) := by decide +kernel
theorem dX2_countBodies_9 : decode cX2_countBodies 9 = .ok (.getfield 23, 3) := by decide +kernel
theorem dX2_countBodies_12 : decode cX2_countBodies 12 = .ok (.invokevirtual 108, 3) := by decide +kernel
theorem dX2_countBodies_15 : decode cX2_countBodies 15 = .ok (.isub, 1) := by decide +kernel
theorem dX2_countBodies_16 : decode cX2_countBodies 16 = .ok (.istore_n 1, 1) := by decide +kernel
theorem dX2_countBodies_17 : decode cX2_countBodies 17 = .ok (.iconst 0, 1) := by decide +kernel
theorem dX2_countBodies_18 : decode cX2_countBodies 18 = .ok (.istore_n 2, 1) := by decide +kernel
theorem dX2_countBodies_19 : decode cX2_countBodies 19 = .ok (.iload_n 2, 1) := by decide +kernel
theorem dX2_countBodies_20 : decode cX2_countBodies 20 = .ok (.aload_n 0, 1) := by decide +kernel
theorem dX2_countBodies_21 : decode cX2_countBodies 21 = .ok (.getfield 27, 3) := by decide +kernel
theorem dX2_countBodies_24 : decode cX2_countBodies 24 = .ok (.getfield 111, 3) := by decide +kernel
theorem dX2_countBodies_27 : decode cX2_countBodies 27 = .ok (.arraylength, 1) := by decide +kernel
theorem dX2_countBodies_28 : decode cX2_countBodies 28 = .ok (.if_icmp .ge 34, 3) := by decide +kernel
theorem dX2_countBodies_31 : decode cX2_countBodies 31 = .ok (.aload_n 0, 1) := by decide +kernel
theorem dX2_countBodies_32 : decode cX2_countBodies 32 = .ok (.getfield 27, 3) := by decide +kernel
theorem dX2_countBodies_35 : decode cX2_countBodies 35 = .ok (.getfield 111, 3) := by decide +kernel
theorem dX2_countBodies_38 : decode cX2_countBodies 38 = .ok (.iload_n 2, 1) := by decide +kernel
theorem dX2_countBodies_39 : decode cX2_countBodies 39 = .ok (.aaload, 1) := by decide +kernel
theorem dX2_countBodies_40 : decode cX2_countBodies 40 = .ok (.astore_n 3, 1) := by decide +kernel
theorem dX2_countBodies_41 : decode cX2_countBodies 41 = .ok (.aload_n 3, 1) := by decide +kernel
theorem dX2_countBodies_42 : decode cX2_countBodies 42 = .ok (.ifnull 14, 3) := by decide +kernel
theorem dX2_countBodies_45 : decode cX2_countBodies 45 = .ok (.aload_n 3, 1) := by decide +kernel
theorem dX2_countBodies_46 : decode cX2_countBodies 46 = .ok (.getfield 76, 3) := by decide +kernel
theorem dX2_countBodies_49 : decode cX2_countBodies 49 = .ok (.iconst (-1), 1) := by decide +kernel
theorem dX2_countBodies_50 : decode cX2_countBodies 50 = .ok (.if_icmp .ne 6, 3) := by decide +kernel
theorem dX2_countBodies_53 : decode cX2_countBodies 53 = .ok (.iinc 1 1, 3) := by decide +kernel
theorem dX2_countBodies_56 : decode cX2_countBodies 56 = .ok (.iinc 2 1, 3) := by decide +kernel
theorem dX2_countBodies_59 : decode cX2_countBodies 59 = .ok (.goto (-40), 3) := by decide +kernel
theorem dX2_countBodies_62 : decode cX2_countBodies 62 = .ok (.iload_n 1, 1) := by decide +kernel
theorem dX2_countBodies_63 : decode cX2_countBodies 63 = .ok (.ireturn, 1) := by decide +kernel
theorem dX2_countDirty_0 : decode cX2_countDirty 0 = .ok (.iconst 0, 1) := by decide +kernel
theorem dX2_countDirty_1 : decode cX2_countDirty 1 = .ok (.istore_n 1, 1) := by decide +kernel
theorem dX2_countDirty_2 : decode cX2_countDirty 2 = .ok (.iconst 0, 1) := by decide +kernel
theorem dX2_countDirty_3 : decode cX2_countDirty 3 = .ok (.istore_n 2, 1) := by decide +kernel
theorem dX2_countDirty_4 : decode cX2_countDirty 4 = .ok (.iload_n 2, 1) := by decide +kernel
theorem dX2_countDirty_5 : decode cX2_countDirty 5 = .ok (.aload_n 0, 1) := by decide +kernel
theorem dX2_countDirty_6 : decode cX2_countDirty 6 = .ok (.getfield 23, 3) := by decide +kernel
theorem dX2_countDirty_9 : decode cX2_countDirty 9 = .ok (.getfield 111, 3) := by decide +kernel
theorem dX2_countDirty_12 : decode cX2_countDirty 12 = .ok (.arraylength, 1) := by decide +kernel
theorem dX2_countDirty_13 : decode cX2_countDirty 13 = .ok (.if_icmp .ge 33, 3) := by decide +kernel
theorem dX2_countDirty_16 : decode cX2_countDirty 16 = .ok (.aload_n 0, 1) := by decide +kernel
theorem dX2_countDirty_17 : decode cX2_countDirty 17 = .ok (.getfield 23, 3) := by decide +kernel
theorem dX2_countDirty_20 : decode cX2_countDirty 20 = .ok (.getfield 111, 3) := by decide +kernel
theorem dX2_countDirty_23 : decode cX2_countDirty 23 = .ok (.iload_n 2, 1) := by decide +kernel
theorem dX2_countDirty_24 : decode cX2_countDirty 24 = .ok (.aaload, 1) := by decide +kernel
theorem dX2_countDirty_25 : decode cX2_countDirty 25 = .ok (.astore_n 3, 1) := by decide +kernel
theorem dX2_countDirty_26 : decode cX2_countDirty 26 = .ok (.aload_n 3, 1) := by decide +kernel
theorem dX2_countDirty_27 : decode cX2_countDirty 27 = .ok (.ifnull 13, 3) := by decide +kernel
theorem dX2_countDirty_30 : decode cX2_countDirty 30 = .ok (.aload_n 3, 1) := by decide +kernel
theorem dX2_countDirty_31 : decode cX2_countDirty 31 = .ok (.getfield 97, 3) := by decide +kernel
theorem dX2_countDirty_34 : decode cX2_countDirty 34 = .ok (.ifCond .eq 6, 3) := by decide +kernel
theorem dX2_countDirty_37 : decode cX2_countDirty 37 = .ok (.iinc 1 1, 3) := by decide +kernel
theorem dX2_countDirty_40 : decode cX2_countDirty 40 = .ok (.iinc 2 1, 3) := by decide +kernel
theorem dX2_countDirty_43 : decode cX2_countDirty 43 = .ok (.goto (-39), 3) := by decide +kernel
theorem dX2_countDirty_46 : decode cX2_countDirty 46 = .ok (.iload_n 1, 1) := by decide +kernel
theorem dX2_countDirty_47 : decode cX2_countDirty 47 = .ok (.ireturn, 1) := by decide +kernel
theorem dX2_countWithoutSector_0 : decode cX2_countWithoutSector 0 = .ok (.iconst 0, 1) := by decide +kernel
theorem dX2_countWithoutSector_1 : decode cX2_countWithoutSector 1 = .ok (.istore_n 1, 1) := by decide +kernel
theorem dX2_countWithoutSector_2 : decode cX2_countWithoutSector 2 = .ok (.iconst 0, 1) := by decide +kernel
theorem dX2_countWithoutSector_3 : decode cX2_countWithoutSector 3 = .ok (.istore_n 2, 1) := by decide +kernel
theorem dX2_countWithoutSector_4 : decode cX2_countWithoutSector 4 = .ok (.iload_n 2, 1) := by decide +kernel
theorem dX2_countWithoutSector_5 : decode cX2_countWithoutSector 5 = .ok (.aload_n 0, 1) := by decide +kernel
theorem dX2_countWithoutSector_6 : decode cX2_countWithoutSector 6 = .ok (.getfield 23, 3) := by decide +kernel
theorem dX2_countWithoutSector_9 : decode cX2_countWithoutSector 9 = .ok (.getfield 111, 3) := by decide +kernel
theorem dX2_countWithoutSector_12 : decode cX2_countWithoutSector 12 = .ok (.arraylength, 1) := by decide +kernel
theorem dX2_countWithoutSector_13 : decode cX2_countWithoutSector 13 = .ok (.if_icmp .ge 34, 3) := by decide +kernel
theorem dX2_countWithoutSector_16 : decode cX2_countWithoutSector 16 = .ok (.aload_n 0, 1) := by decide +kernel
theorem dX2_countWithoutSector_17 : decode cX2_countWithoutSector 17 = .ok (.getfield 23, 3) := by decide +kernel
theorem dX2_countWithoutSector_20 : decode cX2_countWithoutSector 20 = .ok (.getfield 111, 3) := by decide +kernel
theorem dX2_countWithoutSector_23 : decode cX2_countWithoutSector 23 = .ok (.iload_n 2, 1) := by decide +kernel
theorem dX2_countWithoutSector_24 : decode cX2_countWithoutSector 24 = .ok (.aaload, 1) := by decide +kernel
theorem dX2_countWithoutSector_25 : decode cX2_countWithoutSector 25 = .ok (.astore_n 3, 1) := by decide +kernel
theorem dX2_countWithoutSector_26 : decode cX2_countWithoutSector 26 = .ok (.aload_n 3, 1) := by decide +kernel
theorem dX2_countWithoutSector_27 : decode cX2_countWithoutSector 27 = .ok (.ifnull 14, 3) := by decide +kernel
theorem dX2_countWithoutSector_30 : decode cX2_countWithoutSector 30 = .ok (.aload_n 3, 1) := by decide +kernel
theorem dX2_countWithoutSector_31 : decode cX2_countWithoutSector 31 = .ok (.getfield 118, 3) := by decide +kernel
theorem dX2_countWithoutSector_34 : decode cX2_countWithoutSector 34 = .ok (.iconst (-1), 1) := by decide +kernel
theorem dX2_countWithoutSector_35 : decode cX2_countWithoutSector 35 = .ok (.if_icmp .ne 6, 3) := by decide +kernel
theorem dX2_countWithoutSector_38 : decode cX2_countWithoutSector 38 = .ok (.iinc 1 1, 3) := by decide +kernel
theorem dX2_countWithoutSector_41 : decode cX2_countWithoutSector 41 = .ok (.iinc 2 1, 3) := by decide +kernel
theorem dX2_countWithoutSector_44 : decode cX2_countWithoutSector 44 = .ok (.goto (-40), 3) := by decide +kernel
theorem dX2_countWithoutSector_47 : decode cX2_countWithoutSector 47 = .ok (.iload_n 1, 1) := by decide +kernel
theorem dX2_countWithoutSector_48 : decode cX2_countWithoutSector 48 = .ok (.ireturn, 1) := by decide +kernel
theorem dX3_init_0 : decode cX3_init 0 = .ok (.aload_n 0, 1) := by decide +kernel
theorem dX3_init_1 : decode cX3_init 1 = .ok (.invokespecial 1, 3) := by decide +kernel
theorem dX3_init_4 : decode cX3_init 4 = .ok (.aload_n 0, 1) := by decide +kernel
theorem dX3_init_5 : decode cX3_init 5 = .ok (.bipush 8, 2) := by decide +kernel
theorem dX3_init_7 : decode cX3_init 7 = .ok (.newarray .int, 2) := by decide +kernel
theorem dX3_init_9 : decode cX3_init 9 = .ok (.putfield 7, 3) := by decide +kernel
theorem dX3_init_12 : decode cX3_init 12 = .ok (.aload_n 0, 1) := by decide +kernel
theorem dX3_init_13 : decode cX3_init 13 = .ok (.sipush 256, 3) := by decide +kernel
theorem dX3_init_16 : decode cX3_init 16 = .ok (.newarray .int, 2) := by decide +kernel
theorem dX3_init_18 : decode cX3_init 18 = .ok (.putfield 13, 3) := by decide +kernel
theorem dX3_init_21 : decode cX3_init 21 = .ok (.aload_n 0, 1) := by decide +kernel
theorem dX3_init_22 : decode cX3_init 22 = .ok (.sipush 300, 3) := by decide +kernel
theorem dX3_init_25 : decode cX3_init 25 = .ok (.newarray .boolean, 2) := by decide +kernel
theorem dX3_init_27 : decode cX3_init 27 = .ok (.putfield 16, 3) := by decide +kernel
theorem dX3_init_30 : decode cX3_init 30 = .ok (.aload_n 0, 1) := by decide +kernel
theorem dX3_init_31 : decode cX3_init 31 = .ok (.sipush 300, 3) := by decide +kernel
theorem dX3_init_34 : decode cX3_init 34 = .ok (.newarray .int, 2) := by decide +kernel
theorem dX3_init_36 : decode cX3_init 36 = .ok (.putfield 20, 3) := by decide +kernel
theorem dX3_init_39 : decode cX3_init 39 = .ok (.aload_n 0, 1) := by decide +kernel
theorem dX3_init_40 : decode cX3_init 40 = .ok (.sipush 300, 3) := by decide +kernel
theorem dX3_init_43 : decode cX3_init 43 = .ok (.newarray .int, 2) := by decide +kernel
theorem dX3_init_45 : decode cX3_init 45 = .ok (.putfield 23, 3) := by decide +kernel
theorem dX3_init_48 : decode cX3_init 48 = .ok (.aload_n 0, 1) := by decide +kernel
theorem dX3_init_49 : decode cX3_init 49 = .ok (.sipush 300, 3) := by decide +kernel
theorem dX3_init_52 : decode cX3_init 52 = .ok (.newarray .boolean, 2) := by decide +kernel
theorem dX3_init_54 : decode cX3_init 54 = .ok (.putfield 26, 3) := by decide +kernel
theorem dX3_init_57 : decode cX3_init 57 = .ok (.aload_n 0, 1) := by decide +kernel
theorem dX3_init_58 : decode cX3_init 58 = .ok (.sipush 256, 3) := by decide +kernel
theorem dX3_init_61 : decode cX3_init 61 = .ok (.newarray .int, 2) := by decide +kernel
theorem dX3_init_63 : decode cX3_init 63 = .ok (.putfield 29, 3) := by decide +kernel
theorem dX3_init_66 : decode cX3_init 66 = .ok (.aload_n 0, 1) := by decide +kernel
theorem dX3_init_67 : decode cX3_init 67 = .ok (.sipush 1024, 3) := by decide +kernel
theorem dX3_init_70 : decode cX3_init 70 = .ok (.newarray .int, 2) := by decide +kernel
theorem dX3_init_72 : decode cX3_init 72 = .ok (.putfield 32, 3) := by decide +kernel
theorem dX3_init_75 : decode cX3_init 75 = .ok (.aload_n 0, 1) := by decide +kernel
theorem dX3_init_76 : decode cX3_init 76 = .ok (.bipush 16, 2) := by decide +kernel
theorem dX3_init_78 : decode cX3_init 78 = .ok (.newarray .boolean, 2) := by decide +kernel
theorem dX3_init_80 : decode cX3_init 80 = .ok (.putfield 35, 3) := by decide +kernel
theorem dX3_init_83 : decode cX3_init 83 = .ok (.aload_n 0, 1) := by decide +kernel
theorem dX3_init_84 : decode cX3_init 84 = .ok (.iload_n 1, 1) := by decide +kernel
theorem dX3_init_85 : decode cX3_init 85 = .ok (.iconst 2, 1) := by decide +kernel
theorem dX3_init_86 : decode cX3_init 86 = .ok (.if_icmp .ge 7, 3) := by decide +kernel
theorem dX3_init_89 : decode cX3_init 89 = .ok (.iconst 2, 1) := by decide +kernel
theorem dX3_init_90 : decode cX3_init 90 = .ok (.goto 15, 3) := by decide +kernel
theorem dX3_init_93 : decode cX3_init 93 = .ok (.iload_n 1, 1) := by decide +kernel
theorem dX3_init_94 : decode cX3_init 94 = .ok (.bipush 16, 2) := by decide +kernel
theorem dX3_init_96 : decode cX3_init 96 = .ok (.if_icmp .le 8, 3) := by decide +kernel
theorem dX3_init_99 : decode cX3_init 99 = .ok (.bipush 16, 2) := by decide +kernel
theorem dX3_init_101 : decode cX3_init 101 = .ok (.goto 4, 3) := by decide +kernel
theorem dX3_init_104 : decode cX3_init 104 = .ok (.iload_n 1, 1) := by decide +kernel
theorem dX3_init_105 : decode cX3_init 105 = .ok (.putfield 38, 3) := by decide +kernel
theorem dX3_init_108 : decode cX3_init 108 = .ok (.aload_n 0, 1) := by decide +kernel
theorem dX3_init_109 : decode cX3_init 109 = .ok (.iload_n 2, 1) := by decide +kernel
theorem dX3_init_110 : decode cX3_init 110 = .ok (.ifCond .ge 7, 3) := by decide +kernel
theorem dX3_init_113 : decode cX3_init 113 = .ok (.iconst 0, 1) := by decide +kernel
theorem dX3_init_114 : decode cX3_init 114 = .ok (.goto 15, 3) := by decide +kernel
theorem dX3_init_117 : decode cX3_init 117 = .ok (.iload_n 2, 1) := by decide +kernel
theorem dX3_init_118 : decode cX3_init 118 = .ok (.bipush 64, 2) := by decide +kernel
theorem dX3_init_120 : decode cX3_init 120 = .ok (.if_icmp .le 8, 3) := by decide +kernel
theorem dX3_init_123 : decode cX3_init 123 = .ok (.bipush 64, 2) := by decide +kernel
theorem dX3_init_125 : decode cX3_init 125 = .ok (.goto 4, 3) := by decide +kernel
theorem dX3_init_128 : decode cX3_init 128 = .ok (.iload_n 2, 1) := by decide +kernel
theorem dX3_init_129 : decode cX3_init 129 = .ok (.putfield 42, 3) := by decide +kernel
theorem dX3_init_132 : decode cX3_init 132 = .ok (.iconst 0, 1) := by decide +kernel
theorem dX3_init_133 : decode cX3_init 133 = .ok (.istore_n 3, 1) := by decide +kernel
theorem dX3_init_134 : decode cX3_init 134 = .ok (.iload_n 3, 1) := by decide +kernel
theorem dX3_init_135 : decode cX3_init 135 = .ok (.sipush 256, 3) := by decide +kernel
theorem dX3_init_138 : decode cX3_init 138 = .ok (.if_icmp .ge 16, 3) := by decide +kernel
theorem dX3_init_141 : decode cX3_init 141 = .ok (.aload_n 0, 1) := by decide +kernel
theorem dX3_init_142 : decode cX3_init 142 = .ok (.getfield 13, 3) := by decide +kernel
theorem dX3_init_145 : decode cX3_init 145 = .ok (.iload_n 3, 1) := by decide +kernel
theorem dX3_init_146 : decode cX3_init 146 = .ok (.iconst (-1), 1) := by decide +kernel
theorem dX3_init_147 : decode cX3_init 147 = .ok (.iastore, 1) := by decide +kernel
theorem dX3_init_148 : decode cX3_init 148 = .ok (.iinc 3 1, 3) := by decide +kernel
theorem dX3_init_151 : decode cX3_init 151 = .ok (.goto (-17), 3) := by decide +kernel
theorem dX3_init_154 : decode cX3_init 154 = .ok (.return_, 1) := by decide +kernel
theorem dX3_thrown_0 : decode cX3_thrown 0 = .ok (.aload_n 0, 1) := by decide +kernel
theorem dX3_thrown_1 : decode cX3_thrown 1 = .ok (.getfield 45, 3) := by decide +kernel
theorem dX3_thrown_4 : decode cX3_thrown 4 = .ok (.ireturn, 1) := by decide +kernel
theorem dX3_isProcess_0 : decode cX3_isProcess 0 = .ok (.iload_n 1, 1) := by decide +kernel
theorem dX3_isProcess_1 : decode cX3_isProcess 1 = .ok (.ifCond .lt 22, 3) := by decide +kernel
theorem dX3_isProcess_4 : decode cX3_isProcess 4 = .ok (.iload_n 1, 1) := by decide +kernel
theorem dX3_isProcess_5 : decode cX3_isProcess 5 = .ok (.bipush 8, 2) := by decide +kernel
theorem dX3_isProcess_7 : decode cX3_isProcess 7 = .ok (.if_icmp .ge 16, 3) := by decide +kernel
theorem dX3_isProcess_10 : decode cX3_isProcess 10 = .ok (.aload_n 0, 1) := by decide +kernel
theorem dX3_isProcess_11 : decode cX3_isProcess 11 = .ok (.getfield 7, 3) := by decide +kernel
theorem dX3_isProcess_14 : decode cX3_isProcess 14 = .ok (.iload_n 1, 1) := by decide +kernel
theorem dX3_isProcess_15 : decode cX3_isProcess 15 = .ok (.iaload, 1) := by decide +kernel
theorem dX3_isProcess_16 : decode cX3_isProcess 16 = .ok (.ifCond .le 7, 3) := by decide +kernel
theorem dX3_isProcess_19 : decode cX3_isProcess 19 = .ok (.iconst 1, 1) := by decide +kernel
theorem dX3_isProcess_20 : decode cX3_isProcess 20 = .ok (.goto 4, 3) := by decide +kernel
theorem dX3_isProcess_23 : decode cX3_isProcess 23 = .ok (.iconst 0, 1) := by decide +kernel
theorem dX3_isProcess_24 : decode cX3_isProcess 24 = .ok (.ireturn, 1) := by decide +kernel
theorem dX3_isPage_0 : decode cX3_isPage 0 = .ok (.aload_n 0, 1) := by decide +kernel
theorem dX3_isPage_1 : decode cX3_isPage 1 = .ok (.iload_n 1, 1) := by decide +kernel
theorem dX3_isPage_2 : decode cX3_isPage 2 = .ok (.invokevirtual 48, 3) := by decide +kernel
theorem dX3_isPage_5 : decode cX3_isPage 5 = .ok (.ifCond .eq 21, 3) := by decide +kernel
theorem dX3_isPage_8 : decode cX3_isPage 8 = .ok (.iload_n 2, 1) := by decide +kernel
theorem dX3_isPage_9 : decode cX3_isPage 9 = .ok (.ifCond .lt 17, 3) := by decide +kernel
theorem dX3_isPage_12 : decode cX3_isPage 12 = .ok (.iload_n 2, 1) := by decide +kernel
theorem dX3_isPage_13 : decode cX3_isPage 13 = .ok (.aload_n 0, 1) := by decide +kernel
theorem dX3_isPage_14 : decode cX3_isPage 14 = .ok (.getfield 7, 3) := by decide +kernel
theorem dX3_isPage_17 : decode cX3_isPage 17 = .ok (.iload_n 1, 1) := by decide +kernel
theorem dX3_isPage_18 : decode cX3_isPage 18 = .ok (.iaload, 1) := by decide +kernel
theorem dX3_isPage_19 : decode cX3_isPage 19 = .ok (.if_icmp .ge 7, 3) := by decide +kernel
theorem dX3_isPage_22 : decode cX3_isPage 22 = .ok (.iconst 1, 1) := by decide +kernel
theorem dX3_isPage_23 : decode cX3_isPage 23 = .ok (.goto 4, 3) := by decide +kernel
theorem dX3_isPage_26 : decode cX3_isPage 26 = .ok (.iconst 0, 1) := by decide +kernel
theorem dX3_isPage_27 : decode cX3_isPage 27 = .ok (.ireturn, 1) := by decide +kernel
theorem dX3_leastProcess_0 : decode cX3_leastProcess 0 = .ok (.iconst 0, 1) := by decide +kernel
theorem dX3_leastProcess_1 : decode cX3_leastProcess 1 = .ok (.istore_n 1, 1) := by decide +kernel
theorem dX3_leastProcess_2 : decode cX3_leastProcess 2 = .ok (.iload_n 1, 1) := by decide +kernel
theorem dX3_leastProcess_3 : decode cX3_leastProcess 3 = .ok (.bipush 8, 2) := by decide +kernel
theorem dX3_leastProcess_5 : decode cX3_leastProcess 5 = .ok (.if_icmp .ge 20, 3) := by decide +kernel
theorem dX3_leastProcess_8 : decode cX3_leastProcess 8 = .ok (.aload_n 0, 1) := by decide +kernel
theorem dX3_leastProcess_9 : decode cX3_leastProcess 9 = .ok (.getfield 7, 3) := by decide +kernel
theorem dX3_leastProcess_12 : decode cX3_leastProcess 12 = .ok (.iload_n 1, 1) := by decide +kernel
theorem dX3_leastProcess_13 : decode cX3_leastProcess 13 = .ok (.iaload, 1) := by decide +kernel
theorem dX3_leastProcess_14 : decode cX3_leastProcess 14 = .ok (.ifCond .ne 5, 3) := by decide +kernel
theorem dX3_leastProcess_17 : decode cX3_leastProcess 17 = .ok (.iload_n 1, 1) := by decide +kernel
theorem dX3_leastProcess_18 : decode cX3_leastProcess 18 = .ok (.ireturn, 1) := by decide +kernel
theorem dX3_leastProcess_19 : decode cX3_leastProcess 19 = .ok (.iinc 1 1, 3) := by decide +kernel
theorem dX3_leastProcess_22 : decode cX3_leastProcess 22 = .ok (.goto (-20), 3) := by decide +kernel
theorem dX3_leastProcess_25 : decode cX3_leastProcess 25 = .ok (.iconst (-1), 1) := by decide +kernel
theorem dX3_leastProcess_26 : decode cX3_leastProcess 26 = .ok (.ireturn, 1) := by decide +kernel
theorem dX3_bodyIn_0 : decode cX3_bodyIn 0 = .ok (.iconst 0, 1) := by decide +kernel
theorem dX3_bodyIn_1 : decode cX3_bodyIn 1 = .ok (.istore_n 2, 1) := by decide +kernel
theorem dX3_bodyIn_2 : decode cX3_bodyIn 2 = .ok (.iload_n 2, 1) := by decide +kernel
theorem dX3_bodyIn_3 : decode cX3_bodyIn 3 = .ok (.sipush 300, 3) := by decide +kernel
theorem dX3_bodyIn_6 : decode cX3_bodyIn 6 = .ok (.if_icmp .ge 30, 3) := by decide +kernel
theorem dX3_bodyIn_9 : decode cX3_bodyIn 9 = .ok (.aload_n 0, 1) := by decide +kernel
theorem dX3_bodyIn_10 : decode cX3_bodyIn 10 = .ok (.getfield 16, 3) := by decide +kernel
theorem dX3_bodyIn_13 : decode cX3_bodyIn 13 = .ok (.iload_n 2, 1) := by decide +kernel
theorem dX3_bodyIn_14 : decode cX3_bodyIn 14 = .ok (.baload, 1) := by decide +kernel
theorem dX3_bodyIn_15 : decode cX3_bodyIn 15 = .ok (.ifCond .eq 15, 3) := by decide +kernel
theorem dX3_bodyIn_18 : decode cX3_bodyIn 18 = .ok (.aload_n 0, 1) := by decide +kernel
theorem dX3_bodyIn_19 : decode cX3_bodyIn 19 = .ok (.getfield 20, 3) := by decide +kernel
theorem dX3_bodyIn_22 : decode cX3_bodyIn 22 = .ok (.iload_n 2, 1) := by decide +kernel
theorem dX3_bodyIn_23 : decode cX3_bodyIn 23 = .ok (.iaload, 1) := by decide +kernel
theorem dX3_bodyIn_24 : decode cX3_bodyIn 24 = .ok (.iload_n 1, 1) := by decide +kernel
theorem dX3_bodyIn_25 : decode cX3_bodyIn 25 = .ok (.if_icmp .ne 5, 3) := by decide +kernel
theorem dX3_bodyIn_28 : decode cX3_bodyIn 28 = .ok (.iload_n 2, 1) := by decide +kernel
theorem dX3_bodyIn_29 : decode cX3_bodyIn 29 = .ok (.ireturn, 1) := by decide +kernel
theorem dX3_bodyIn_30 : decode cX3_bodyIn 30 = .ok (.iinc 2 1, 3) := by decide +kernel
theorem dX3_bodyIn_33 : decode cX3_bodyIn 33 = .ok (.goto (-31), 3) := by decide +kernel
theorem dX3_bodyIn_36 : decode cX3_bodyIn 36 = .ok (.iconst (-1), 1) := by decide +kernel
theorem dX3_bodyIn_37 : decode cX3_bodyIn 37 = .ok (.ireturn, 1) := by decide +kernel
theorem dX3_isSectorFree_0 : decode cX3_isSectorFree 0 = .ok (.iconst 0, 1) := by decide +kernel
theorem dX3_isSectorFree_1 : decode cX3_isSectorFree 1 = .ok (.istore_n 2, 1) := by decide +kernel
theorem dX3_isSectorFree_2 : decode cX3_isSectorFree 2 = .ok (.iload_n 2, 1) := by decide +kernel
theorem dX3_isSectorFree_3 : decode cX3_isSectorFree 3 = .ok (.sipush 300, 3) := by decide +kernel
theorem dX3_isSectorFree_6 : decode cX3_isSectorFree 6 = .ok (.if_icmp .ge 30, 3) := by decide +kernel
theorem dX3_isSectorFree_9 : decode cX3_isSectorFree 9 = .ok (.aload_n 0, 1) := by decide +kernel
theorem dX3_isSectorFree_10 : decode cX3_isSectorFree 10 = .ok (.getfield 16, 3) := by decide +kernel
theorem dX3_isSectorFree_13 : decode cX3_isSectorFree 13 = .ok (.iload_n 2, 1) := by decide +kernel
theorem dX3_isSectorFree_14 : decode cX3_isSectorFree 14 = .ok (.baload, 1) := by decide +kernel
theorem dX3_isSectorFree_15 : decode cX3_isSectorFree 15 = .ok (.ifCond .eq 15, 3) := by decide +kernel
theorem dX3_isSectorFree_18 : decode cX3_isSectorFree 18 = .ok (.aload_n 0, 1) := by decide +kernel
theorem dX3_isSectorFree_19 : decode cX3_isSectorFree 19 = .ok (.getfield 23, 3) := by decide +kernel
theorem dX3_isSectorFree_22 : decode cX3_isSectorFree 22 = .ok (.iload_n 2, 1) := by decide +kernel
theorem dX3_isSectorFree_23 : decode cX3_isSectorFree 23 = .ok (.iaload, 1) := by decide +kernel
theorem dX3_isSectorFree_24 : decode cX3_isSectorFree 24 = .ok (.iload_n 1, 1) := by decide +kernel
theorem dX3_isSectorFree_25 : decode cX3_isSectorFree 25 = .ok (.if_icmp .ne 5, 3) := by decide +kernel
theorem dX3_isSectorFree_28 : decode cX3_isSectorFree 28 = .ok (.iconst 0, 1) := by decide +kernel
theorem dX3_isSectorFree_29 : decode cX3_isSectorFree 29 = .ok (.ireturn, 1) := by decide +kernel
theorem dX3_isSectorFree_30 : decode cX3_isSectorFree 30 = .ok (.iinc 2 1, 3) := by decide +kernel
theorem dX3_isSectorFree_33 : decode cX3_isSectorFree 33 = .ok (.goto (-31), 3) := by decide +kernel
theorem dX3_isSectorFree_36 : decode cX3_isSectorFree 36 = .ok (.iconst 1, 1) := by decide +kernel
theorem dX3_isSectorFree_37 : decode cX3_isSectorFree 37 = .ok (.ireturn, 1) := by decide +kernel
theorem dX3_freeFrames_0 : decode cX3_freeFrames 0 = .ok (.iconst 0, 1) := by decide +kernel
theorem dX3_freeFrames_1 : decode cX3_freeFrames 1 = .ok (.istore_n 1, 1) := by decide +kernel
theorem dX3_freeFrames_2 : decode cX3_freeFrames 2 = .ok (.iconst 0, 1) := by decide +kernel
theorem dX3_freeFrames_3 : decode cX3_freeFrames 3 = .ok (.istore_n 2, 1) := by decide +kernel
theorem dX3_freeFrames_4 : decode cX3_freeFrames 4 = .ok (.iload_n 2, 1) := by decide +kernel
theorem dX3_freeFrames_5 : decode cX3_freeFrames 5 = .ok (.aload_n 0, 1) := by decide +kernel
theorem dX3_freeFrames_6 : decode cX3_freeFrames 6 = .ok (.getfield 38, 3) := by decide +kernel
theorem dX3_freeFrames_9 : decode cX3_freeFrames 9 = .ok (.if_icmp .ge 26, 3) := by decide +kernel
theorem dX3_freeFrames_12 : decode cX3_freeFrames 12 = .ok (.iload_n 1, 1) := by decide +kernel
theorem dX3_freeFrames_13 : decode cX3_freeFrames 13 = .ok (.aload_n 0, 1) := by decide +kernel
theorem dX3_freeFrames_14 : decode cX3_freeFrames 14 = .ok (.iload_n 2, 1) := by decide +kernel
theorem dX3_freeFrames_15 : decode cX3_freeFrames 15 = .ok (.invokevirtual 52, 3) := by decide +kernel
theorem dX3_freeFrames_18 : decode cX3_freeFrames 18 = .ok (.iconst (-1), 1) := by decide +kernel
theorem dX3_freeFrames_19 : decode cX3_freeFrames 19 = .ok (.if_icmp .ne 7, 3) := by decide +kernel
theorem dX3_freeFrames_22 : decode cX3_freeFrames 22 = .ok (.iconst 1, 1) := by decide +kernel
theorem dX3_freeFrames_23 : decode cX3_freeFrames 23 = .ok (.goto 4, 3) := by decide +kernel
theorem dX3_freeFrames_26 : decode cX3_freeFrames 26 = .ok (.iconst 0, 1) := by decide +kernel
theorem dX3_freeFrames_27 : decode cX3_freeFrames 27 = .ok (.iadd, 1) := by decide +kernel
theorem dX3_freeFrames_28 : decode cX3_freeFrames 28 = .ok (.istore_n 1, 1) := by decide +kernel
theorem dX3_freeFrames_29 : decode cX3_freeFrames 29 = .ok (.iinc 2 1, 3) := by decide +kernel
theorem dX3_freeFrames_32 : decode cX3_freeFrames 32 = .ok (.goto (-28), 3) := by decide +kernel
theorem dX3_freeFrames_35 : decode cX3_freeFrames 35 = .ok (.iload_n 1, 1) := by decide +kernel
theorem dX3_freeFrames_36 : decode cX3_freeFrames 36 = .ok (.ireturn, 1) := by decide +kernel
theorem dX3_freeSectors_0 : decode cX3_freeSectors 0 = .ok (.iconst 0, 1) := by decide +kernel
theorem dX3_freeSectors_1 : decode cX3_freeSectors 1 = .ok (.istore_n 1, 1) := by decide +kernel
theorem dX3_freeSectors_2 : decode cX3_freeSectors 2 = .ok (.iconst 0, 1) := by decide +kernel
theorem dX3_freeSectors_3 : decode cX3_freeSectors 3 = .ok (.istore_n 2, 1) := by decide +kernel
theorem dX3_freeSectors_4 : decode cX3_freeSectors 4 = .ok (.iload_n 2, 1) := by decide +kernel
theorem dX3_freeSectors_5 : decode cX3_freeSectors 5 = .ok (.aload_n 0, 1) := by decide +kernel
theorem dX3_freeSectors_6 : decode cX3_freeSectors 6 = .ok (.getfield 42, 3) := by decide +kernel
theorem dX3_freeSectors_9 : decode cX3_freeSectors 9 = .ok (.if_icmp .ge 25, 3) := by decide +kernel
theorem dX3_freeSectors_12 : decode cX3_freeSectors 12 = .ok (.iload_n 1, 1) := by decide +kernel
theorem dX3_freeSectors_13 : decode cX3_freeSectors 13 = .ok (.aload_n 0, 1) := by decide +kernel
theorem dX3_freeSectors_14 : decode cX3_freeSectors 14 = .ok (.iload_n 2, 1) := by decide +kernel
theorem dX3_freeSectors_15 : decode cX3_freeSectors 15 = .ok (.invokevirtual 56, 3) := by decide +kernel
theorem dX3_freeSectors_18 : decode cX3_freeSectors 18 = .ok (.ifCond .eq 7, 3) := by decide +kernel
theorem dX3_freeSectors_21 : decode cX3_freeSectors 21 = .ok (.iconst 1, 1) := by decide +kernel
theorem dX3_freeSectors_22 : decode cX3_freeSectors 22 = .ok (.goto 4, 3) := by decide +kernel
theorem dX3_freeSectors_25 : decode cX3_freeSectors 25 = .ok (.iconst 0, 1) := by decide +kernel
theorem dX3_freeSectors_26 : decode cX3_freeSectors 26 = .ok (.iadd, 1) := by decide +kernel
theorem dX3_freeSectors_27 : decode cX3_freeSectors 27 = .ok (.istore_n 1, 1) := by decide +kernel
theorem dX3_freeSectors_28 : decode cX3_freeSectors 28 = .ok (.iinc 2 1, 3) := by decide +kernel
theorem dX3_freeSectors_31 : decode cX3_freeSectors 31 = .ok (.goto (-27), 3) := by decide +kernel
theorem dX3_freeSectors_34 : decode cX3_freeSectors 34 = .ok (.iload_n 1, 1) := by decide +kernel
theorem dX3_freeSectors_35 : decode cX3_freeSectors 35 = .ok (.ireturn, 1) := by decide +kernel
theorem dX3_holders_0 : decode cX3_holders 0 = .ok (.iconst 0, 1) := by decide +kernel
theorem dX3_holders_1 : decode cX3_holders 1 = .ok (.istore_n 2, 1) := by decide +kernel
theorem dX3_holders_2 : decode cX3_holders 2 = .ok (.iconst 0, 1) := by decide +kernel
theorem dX3_holders_3 : decode cX3_holders 3 = .ok (.istore_n 3, 1) := by decide +kernel
theorem dX3_holders_4 : decode cX3_holders 4 = .ok (.iload_n 3, 1) := by decide +kernel
theorem dX3_holders_5 : decode cX3_holders 5 = .ok (.sipush 256, 3) := by decide +kernel
theorem dX3_holders_8 : decode cX3_holders 8 = .ok (.if_icmp .ge 27, 3) := by decide +kernel
theorem dX3_holders_11 : decode cX3_holders 11 = .ok (.iload_n 2, 1) := by decide +kernel
theorem dX3_holders_12 : decode cX3_holders 12 = .ok (.aload_n 0, 1) := by decide +kernel
theorem dX3_holders_13 : decode cX3_holders 13 = .ok (.getfield 13, 3) := by decide +kernel
theorem dX3_holders_16 : decode cX3_holders 16 = .ok (.iload_n 3, 1) := by decide +kernel
theorem dX3_holders_17 : decode cX3_holders 17 = .ok (.iaload, 1) := by decide +kernel
theorem dX3_holders_18 : decode cX3_holders 18 = .ok (.iload_n 1, 1) := by decide +kernel
theorem dX3_holders_19 : decode cX3_holders 19 = .ok (.if_icmp .ne 7, 3) := by decide +kernel
theorem dX3_holders_22 : decode cX3_holders 22 = .ok (.iconst 1, 1) := by decide +kernel
theorem dX3_holders_23 : decode cX3_holders 23 = .ok (.goto 4, 3) := by decide +kernel
theorem dX3_holders_26 : decode cX3_holders 26 = .ok (.iconst 0, 1) := by decide +kernel
theorem dX3_holders_27 : decode cX3_holders 27 = .ok (.iadd, 1) := by decide +kernel
theorem dX3_holders_28 : decode cX3_holders 28 = .ok (.istore_n 2, 1) := by decide +kernel
theorem dX3_holders_29 : decode cX3_holders 29 = .ok (.iinc 3 1, 3) := by decide +kernel
theorem dX3_holders_32 : decode cX3_holders 32 = .ok (.goto (-28), 3) := by decide +kernel
theorem dX3_holders_35 : decode cX3_holders 35 = .ok (.iload_n 2, 1) := by decide +kernel
theorem dX3_holders_36 : decode cX3_holders 36 = .ok (.ireturn, 1) := by decide +kernel
theorem dX3_newBody_0 : decode cX3_newBody 0 = .ok (.iconst 0, 1) := by decide +kernel
theorem dX3_newBody_1 : decode cX3_newBody 1 = .ok (.istore_n 2, 1) := by decide +kernel
theorem dX3_newBody_2 : decode cX3_newBody 2 = .ok (.aload_n 0, 1) := by decide +kernel
theorem dX3_newBody_3 : decode cX3_newBody 3 = .ok (.getfield 16, 3) := by decide +kernel
theorem dX3_newBody_6 : decode cX3_newBody 6 = .ok (.iload_n 2, 1) := by decide +kernel
theorem dX3_newBody_7 : decode cX3_newBody 7 = .ok (.baload, 1) := by decide +kernel
theorem dX3_newBody_8 : decode cX3_newBody 8 = .ok (.ifCond .eq 9, 3) := by decide +kernel
theorem dX3_newBody_11 : decode cX3_newBody 11 = .ok (.iinc 2 1, 3) := by decide +kernel
theorem dX3_newBody_14 : decode cX3_newBody 14 = .ok (.goto (-12), 3) := by decide +kernel
theorem dX3_newBody_17 : decode cX3_newBody 17 = .ok (.aload_n 0, 1) := by decide +kernel
theorem dX3_newBody_18 : decode cX3_newBody 18 = .ok (.getfield 16, 3) := by decide +kernel
theorem dX3_newBody_21 : decode cX3_newBody 21 = .ok (.iload_n 2, 1) := by decide +kernel
theorem dX3_newBody_22 : decode cX3_newBody 22 = .ok (.iconst 1, 1) := by decide +kernel
theorem dX3_newBody_23 : decode cX3_newBody 23 = .ok (.bastore, 1) := by decide +kernel
theorem dX3_newBody_24 : decode cX3_newBody 24 = .ok (.aload_n 0, 1) := by decide +kernel
theorem dX3_newBody_25 : decode cX3_newBody 25 = .ok (.getfield 20, 3) := by decide +kernel
theorem dX3_newBody_28 : decode cX3_newBody 28 = .ok (.iload_n 2, 1) := by decide +kernel
theorem dX3_newBody_29 : decode cX3_newBody 29 = .ok (.iload_n 1, 1) := by decide +kernel
theorem dX3_newBody_30 : decode cX3_newBody 30 = .ok (.iastore, 1) := by decide +kernel
theorem dX3_newBody_31 : decode cX3_newBody 31 = .ok (.aload_n 0, 1) := by decide +kernel
theorem dX3_newBody_32 : decode cX3_newBody 32 = .ok (.getfield 23, 3) := by decide +kernel
theorem dX3_newBody_35 : decode cX3_newBody 35 = .ok (.iload_n 2, 1) := by decide +kernel
theorem dX3_newBody_36 : decode cX3_newBody 36 = .ok (.iconst (-1), 1) := by decide +kernel
theorem dX3_newBody_37 : decode cX3_newBody 37 = .ok (.iastore, 1) := by decide +kernel
theorem dX3_newBody_38 : decode cX3_newBody 38 = .ok (.aload_n 0, 1) := by decide +kernel
theorem dX3_newBody_39 : decode cX3_newBody 39 = .ok (.getfield 26, 3) := by decide +kernel
theorem dX3_newBody_42 : decode cX3_newBody 42 = .ok (.iload_n 2, 1) := by decide +kernel
theorem dX3_newBody_43 : decode cX3_newBody 43 = .ok (.iconst 1, 1) := by decide +kernel
theorem dX3_newBody_44 : decode cX3_newBody 44 = .ok (.bastore, 1) := by decide +kernel
theorem dX3_newBody_45 : decode cX3_newBody 45 = .ok (.iload_n 2, 1) := by decide +kernel
theorem dX3_newBody_46 : decode cX3_newBody 46 = .ok (.ireturn, 1) := by decide +kernel
theorem dX3_leave_0 : decode cX3_leave 0 = .ok (.aload_n 0, 1) := by decide +kernel
theorem dX3_leave_1 : decode cX3_leave 1 = .ok (.getfield 13, 3) := by decide +kernel
theorem dX3_leave_4 : decode cX3_leave 4 = .ok (.iload_n 1, 1) := by decide +kernel
theorem dX3_leave_5 : decode cX3_leave 5 = .ok (.iaload, 1) := by decide +kernel
theorem dX3_leave_6 : decode cX3_leave 6 = .ok (.istore_n 2, 1) := by decide +kernel
theorem dX3_leave_7 : decode cX3_leave 7 = .ok (.aload_n 0, 1) := by decide +kernel
theorem dX3_leave_8 : decode cX3_leave 8 = .ok (.getfield 13, 3) := by decide +kernel
theorem dX3_leave_11 : decode cX3_leave 11 = .ok (.iload_n 1, 1) := by decide +kernel
theorem dX3_leave_12 : decode cX3_leave 12 = .ok (.iconst (-1), 1) := by decide +kernel
theorem dX3_leave_13 : decode cX3_leave 13 = .ok (.iastore, 1) := by decide +kernel
theorem dX3_leave_14 : decode cX3_leave 14 = .ok (.iload_n 2, 1) := by decide +kernel
theorem dX3_leave_15 : decode cX3_leave 15 = .ok (.iconst (-1), 1) := by decide +kernel
theorem dX3_leave_16 : decode cX3_leave 16 = .ok (.if_icmp .eq 18, 3) := by decide +kernel
theorem dX3_leave_19 : decode cX3_leave 19 = .ok (.aload_n 0, 1) := by decide +kernel
theorem dX3_leave_20 : decode cX3_leave 20 = .ok (.iload_n 2, 1) := by decide +kernel
theorem dX3_leave_21 : decode cX3_leave 21 = .ok (.invokevirtual 59, 3) := by decide +kernel
theorem dX3_leave_24 : decode cX3_leave 24 = .ok (.ifCond .ne 10, 3) := by decide +kernel
theorem dX3_leave_27 : decode cX3_leave 27 = .ok (.aload_n 0, 1) := by decide +kernel
theorem dX3_leave_28 : decode cX3_leave 28 = .ok (.getfield 16, 3) := by decide +kernel
theorem dX3_leave_31 : decode cX3_leave 31 = .ok (.iload_n 2, 1) := by decide +kernel
theorem dX3_leave_32 : decode cX3_leave 32 = .ok (.iconst 0, 1) := by decide +kernel
theorem dX3_leave_33 : decode cX3_leave 33 = .ok (.bastore, 1) := by decide +kernel
theorem dX3_leave_34 : decode cX3_leave 34 = .ok (.return_, 1) := by decide +kernel
theorem dX3_store_0 : decode cX3_store 0 = .ok (.iconst 0, 1) := by decide +kernel
theorem dX3_store_1 : decode cX3_store 1 = .ok (.istore_n 2, 1) := by decide +kernel
theorem dX3_store_2 : decode cX3_store 2 = .ok (.aload_n 0, 1) := by decide +kernel
theorem dX3_store_3 : decode cX3_store 3 = .ok (.getfield 23, 3) := by decide +kernel
theorem dX3_store_6 : decode cX3_store 6 = .ok (.iload_n 1, 1) := by decide +kernel
theorem dX3_store_7 : decode cX3_store 7 = .ok (.iaload, 1) := by decide +kernel
theorem dX3_store_8 : decode cX3_store 8 = .ok (.iconst (-1), 1) := by decide +kernel
theorem dX3_store_9 : decode cX3_store 9 = .ok (.if_icmp .ne 17, 3) := by decide +kernel
theorem dX3_store_12 : decode cX3_store 12 = .ok (.aload_n 0, 1) := by decide +kernel
theorem dX3_store_13 : decode cX3_store 13 = .ok (.iload_n 2, 1) := by decide +kernel
theorem dX3_store_14 : decode cX3_store 14 = .ok (.invokevirtual 56, 3) := by decide +kernel
theorem dX3_store_17 : decode cX3_store 17 = .ok (.ifCond .ne 9, 3) := by decide +kernel
theorem dX3_store_20 : decode cX3_store 20 = .ok (.iinc 2 1, 3) := by decide +kernel
theorem dX3_store_23 : decode cX3_store 23 = .ok (.goto (-21), 3) := by decide +kernel
theorem dX3_store_26 : decode cX3_store 26 = .ok (.aload_n 0, 1) := by decide +kernel
theorem dX3_store_27 : decode cX3_store 27 = .ok (.getfield 23, 3) := by decide +kernel
theorem dX3_store_30 : decode cX3_store 30 = .ok (.iload_n 1, 1) := by decide +kernel
theorem dX3_store_31 : decode cX3_store 31 = .ok (.iaload, 1) := by decide +kernel
theorem dX3_store_32 : decode cX3_store 32 = .ok (.iconst (-1), 1) := by decide +kernel
theorem dX3_store_33 : decode cX3_store 33 = .ok (.if_icmp .ne 10, 3) := by decide +kernel
theorem dX3_store_36 : decode cX3_store 36 = .ok (.aload_n 0, 1) := by decide +kernel
theorem dX3_store_37 : decode cX3_store 37 = .ok (.getfield 23, 3) := by decide +kernel
theorem dX3_store_40 : decode cX3_store 40 = .ok (.iload_n 1, 1) := by decide +kernel
theorem dX3_store_41 : decode cX3_store 41 = .ok (.iload_n 2, 1) := by decide +kernel
theorem dX3_store_42 : decode cX3_store 42 = .ok (.iastore, 1) := by decide +kernel
theorem dX3_store_43 : decode cX3_store 43 = .ok (.iconst 0, 1) := by decide +kernel
theorem dX3_store_44 : decode cX3_store 44 = .ok (.istore_n 3, 1) := by decide +kernel
theorem dX3_store_45 : decode cX3_store 45 = .ok (.iload_n 3, 1) := by decide +kernel
theorem dX3_store_46 : decode cX3_store 46 = .ok (.bipush 16, 2) := by decide +kernel
theorem dX3_store_48 : decode cX3_store 48 = .ok (.if_icmp .ge 41, 3) := by decide +kernel
theorem dX3_store_51 : decode cX3_store 51 = .ok (.aload_n 0, 1) := by decide +kernel
theorem dX3_store_52 : decode cX3_store 52 = .ok (.getfield 32, 3) := by decide +kernel
theorem dX3_store_55 : decode cX3_store 55 = .ok (.bipush 16, 2) := by decide +kernel
theorem dX3_store_57 : decode cX3_store 57 = .ok (.aload_n 0, 1) := by decide +kernel
theorem dX3_store_58 : decode cX3_store 58 = .ok (.getfield 23, 3) := by decide +kernel
theorem dX3_store_61 : decode cX3_store 61 = .ok (.iload_n 1, 1) := by decide +kernel
theorem dX3_store_62 : decode cX3_store 62 = .ok (.iaload, 1) := by decide +kernel
theorem dX3_store_63 : decode cX3_store 63 = .ok (.imul, 1) := by decide +kernel
theorem dX3_store_64 : decode cX3_store 64 = .ok (.iload_n 3, 1) := by decide +kernel
theorem dX3_store_65 : decode cX3_store 65 = .ok (.iadd, 1) := by decide +kernel
theorem dX3_store_66 : decode cX3_store 66 = .ok (.aload_n 0, 1) := by decide +kernel
theorem dX3_store_67 : decode cX3_store 67 = .ok (.getfield 29, 3) := by decide +kernel
theorem dX3_store_70 : decode cX3_store 70 = .ok (.bipush 16, 2) := by decide +kernel
theorem dX3_store_72 : decode cX3_store 72 = .ok (.aload_n 0, 1) := by decide +kernel
theorem dX3_store_73 : decode cX3_store 73 = .ok (.getfield 20, 3) := by decide +kernel
theorem dX3_store_76 : decode cX3_store 76 = .ok (.iload_n 1, 1) := by decide +kernel
theorem dX3_store_77 : decode cX3_store 77 = .ok (.iaload, 1) := by decide +kernel
theorem dX3_store_78 : decode cX3_store 78 = .ok (.imul, 1) := by decide +kernel
theorem dX3_store_79 : decode cX3_store 79 = .ok (.iload_n 3, 1) := by decide +kernel
theorem dX3_store_80 : decode cX3_store 80 = .ok (.iadd, 1) := by decide +kernel
theorem dX3_store_81 : decode cX3_store 81 = .ok (.iaload, 1) := by decide +kernel
theorem dX3_store_82 : decode cX3_store 82 = .ok (.iastore, 1) := by decide +kernel
theorem dX3_store_83 : decode cX3_store 83 = .ok (.iinc 3 1, 3) := by decide +kernel
theorem dX3_store_86 : decode cX3_store 86 = .ok (.goto (-41), 3) := by decide +kernel
theorem dX3_store_89 : decode cX3_store 89 = .ok (.aload_n 0, 1) := by decide +kernel
theorem dX3_store_90 : decode cX3_store 90 = .ok (.getfield 26, 3) := by decide +kernel
theorem dX3_store_93 : decode cX3_store 93 = .ok (.iload_n 1, 1) := by decide +kernel
theorem dX3_store_94 : decode cX3_store 94 = .ok (.iconst 0, 1) := by decide +kernel
theorem dX3_store_95 : decode cX3_store 95 = .ok (.bastore, 1) := by decide +kernel
theorem dX3_store_96 : decode cX3_store 96 = .ok (.aload_n 0, 1) := by decide +kernel
theorem dX3_store_97 : decode cX3_store 97 = .ok (.dup, 1) := by decide +kernel
theorem dX3_store_98 : decode cX3_store 98 = .ok (.getfield 62, 3) := by decide +kernel
theorem dX3_store_101 : decode cX3_store 101 = .ok (.iconst 1, 1) := by decide +kernel
theorem dX3_store_102 : decode cX3_store 102 = .ok (.iadd, 1) := by decide +kernel
theorem dX3_store_103 : decode cX3_store 103 = .ok (.putfield 62, 3) := by decide +kernel
theorem dX3_store_106 : decode cX3_store 106 = .ok (.return_, 1) := by decide +kernel
theorem dX3_take_0 : decode cX3_take 0 = .ok (.aload_n 0, 1) := by decide +kernel
theorem dX3_take_1 : decode cX3_take 1 = .ok (.dup, 1) := by decide +kernel
theorem dX3_take_2 : decode cX3_take 2 = .ok (.getfield 65, 3) := by decide +kernel
theorem dX3_take_5 : decode cX3_take 5 = .ok (.iconst 1, 1) := by decide +kernel
theorem dX3_take_6 : decode cX3_take 6 = .ok (.iadd, 1) := by decide +kernel
theorem dX3_take_7 : decode cX3_take 7 = .ok (.putfield 65, 3) := by decide +kernel
theorem dX3_take_10 : decode cX3_take 10 = .ok (.iconst 0, 1) := by decide +kernel
theorem dX3_take_11 : decode cX3_take 11 = .ok (.istore_n 2, 1) := by decide +kernel
theorem dX3_take_12 : decode cX3_take 12 = .ok (.iload_n 2, 1) := by decide +kernel
theorem dX3_take_13 : decode cX3_take 13 = .ok (.aload_n 0, 1) := by decide +kernel
theorem dX3_take_14 : decode cX3_take 14 = .ok (.getfield 38, 3) := by decide +kernel
theorem dX3_take_17 : decode cX3_take 17 = .ok (.if_icmp .ge 27, 3) := by decide +kernel
theorem dX3_take_20 : decode cX3_take 20 = .ok (.aload_n 0, 1) := by decide +kernel
theorem dX3_take_21 : decode cX3_take 21 = .ok (.iload_n 2, 1) := by decide +kernel
theorem dX3_take_22 : decode cX3_take 22 = .ok (.invokevirtual 52, 3) := by decide +kernel
theorem dX3_take_25 : decode cX3_take 25 = .ok (.iconst (-1), 1) := by decide +kernel
theorem dX3_take_26 : decode cX3_take 26 = .ok (.if_icmp .ne 12, 3) := by decide +kernel
theorem dX3_take_29 : decode cX3_take 29 = .ok (.aload_n 0, 1) := by decide +kernel
theorem dX3_take_30 : decode cX3_take 30 = .ok (.getfield 35, 3) := by decide +kernel
theorem dX3_take_33 : decode cX3_take 33 = .ok (.iload_n 2, 1) := by decide +kernel
theorem dX3_take_34 : decode cX3_take 34 = .ok (.iconst 0, 1) := by decide +kernel
theorem dX3_take_35 : decode cX3_take 35 = .ok (.bastore, 1) := by decide +kernel
theorem dX3_take_36 : decode cX3_take 36 = .ok (.iload_n 2, 1) := by decide +kernel
theorem dX3_take_37 : decode cX3_take 37 = .ok (.ireturn, 1) := by decide +kernel
theorem dX3_take_38 : decode cX3_take 38 = .ok (.iinc 2 1, 3) := by decide +kernel
theorem dX3_take_41 : decode cX3_take 41 = .ok (.goto (-29), 3) := by decide +kernel
theorem dX3_take_44 : decode cX3_take 44 = .ok (.aload_n 0, 1) := by decide +kernel
theorem dX3_take_45 : decode cX3_take 45 = .ok (.getfield 68, 3) := by decide +kernel
theorem dX3_take_48 : decode cX3_take 48 = .ok (.iload_n 1, 1) := by decide +kernel
theorem dX3_take_49 : decode cX3_take 49 = .ok (.if_icmp .eq 15, 3) := by decide +kernel
theorem dX3_take_52 : decode cX3_take 52 = .ok (.aload_n 0, 1) := by decide +kernel
theorem dX3_take_53 : decode cX3_take 53 = .ok (.getfield 35, 3) := by decide +kernel
theorem dX3_take_56 : decode cX3_take 56 = .ok (.aload_n 0, 1) := by decide +kernel
theorem dX3_take_57 : decode cX3_take 57 = .ok (.getfield 68, 3) := by decide +kernel
theorem dX3_take_60 : decode cX3_take 60 = .ok (.baload, 1) := by decide +kernel
theorem dX3_take_61 : decode cX3_take 61 = .ok (.ifCond .eq 39, 3) := by decide +kernel
theorem dX3_take_64 : decode cX3_take 64 = .ok (.aload_n 0, 1) := by decide +kernel
theorem dX3_take_65 : decode cX3_take 65 = .ok (.getfield 68, 3) := by decide +kernel
theorem dX3_take_68 : decode cX3_take 68 = .ok (.iload_n 1, 1) := by decide +kernel
theorem dX3_take_69 : decode cX3_take 69 = .ok (.if_icmp .eq 13, 3) := by decide +kernel
theorem dX3_take_72 : decode cX3_take 72 = .ok (.aload_n 0, 1) := by decide +kernel
theorem dX3_take_73 : decode cX3_take 73 = .ok (.getfield 35, 3) := by decide +kernel
theorem dX3_take_76 : decode cX3_take 76 = .ok (.aload_n 0, 1) := by decide +kernel
theorem dX3_take_77 : decode cX3_take 77 = .ok (.getfield 68, 3) := by decide +kernel
theorem dX3_take_80 : decode cX3_take 80 = .ok (.iconst 0, 1) := by decide +kernel
theorem dX3_take_81 : decode cX3_take 81 = .ok (.bastore, 1) := by decide +kernel
theorem dX3_take_82 : decode cX3_take 82 = .ok (.aload_n 0, 1) := by decide +kernel
theorem dX3_take_83 : decode cX3_take 83 = .ok (.aload_n 0, 1) := by decide +kernel
theorem dX3_take_84 : decode cX3_take 84 = .ok (.getfield 68, 3) := by decide +kernel
theorem dX3_take_87 : decode cX3_take 87 = .ok (.iconst 1, 1) := by decide +kernel
theorem dX3_take_88 : decode cX3_take 88 = .ok (.iadd, 1) := by decide +kernel
theorem dX3_take_89 : decode cX3_take 89 = .ok (.aload_n 0, 1) := by decide +kernel
theorem dX3_take_90 : decode cX3_take 90 = .ok (.getfield 38, 3) := by decide +kernel
theorem dX3_take_93 : decode cX3_take 93 = .ok (.irem, 1) := by decide +kernel
theorem dX3_take_94 : decode cX3_take 94 = .ok (.putfield 68, 3) := by decide +kernel
theorem dX3_take_97 : decode cX3_take 97 = .ok (.goto (-53), 3) := by decide +kernel
theorem dX3_take_100 : decode cX3_take 100 = .ok (.aload_n 0, 1) := by decide +kernel
theorem dX3_take_101 : decode cX3_take 101 = .ok (.getfield 68, 3) := by decide +kernel
theorem dX3_take_104 : decode cX3_take 104 = .ok (.istore_n 2, 1) := by decide +kernel
theorem dX3_take_105 : decode cX3_take 105 = .ok (.aload_n 0, 1) := by decide +kernel
theorem dX3_take_106 : decode cX3_take 106 = .ok (.aload_n 0, 1) := by decide +kernel
theorem dX3_take_107 : decode cX3_take 107 = .ok (.getfield 68, 3) := by decide +kernel
theorem dX3_take_110 : decode cX3_take 110 = .ok (.iconst 1, 1) := by decide +kernel
theorem dX3_take_111 : decode cX3_take 111 = .ok (.iadd, 1) := by decide +kernel
theorem dX3_take_112 : decode cX3_take 112 = .ok (.aload_n 0, 1) := by decide +kernel
theorem dX3_take_113 : decode cX3_take 113 = .ok (.getfield 38, 3) := by decide +kernel
theorem dX3_take_116 : decode cX3_take 116 = .ok (.irem, 1) := by decide +kernel
theorem dX3_take_117 : decode cX3_take 117 = .ok (.putfield 68, 3) := by decide +kernel
theorem dX3_take_120 : decode cX3_take 120 = .ok (.aload_n 0, 1) := by decide +kernel
theorem dX3_take_121 : decode cX3_take 121 = .ok (.iload_n 2, 1) := by decide +kernel
theorem dX3_take_122 : decode cX3_take 122 = .ok (.invokevirtual 52, 3) := by decide +kernel
theorem dX3_take_125 : decode cX3_take 125 = .ok (.istore_n 3, 1) := by decide +kernel
theorem dX3_take_126 : decode cX3_take 126 = .ok (.aload_n 0, 1) := by decide +kernel
theorem dX3_take_127 : decode cX3_take 127 = .ok (.getfield 26, 3) := by decide +kernel
theorem dX3_take_130 : decode cX3_take 130 = .ok (.iload_n 3, 1) := by decide +kernel
theorem dX3_take_131 : decode cX3_take 131 = .ok (.baload, 1) := by decide +kernel
theorem dX3_take_132 : decode cX3_take 132 = .ok (.ifCond .eq 8, 3) := by decide +kernel
theorem dX3_take_135 : decode cX3_take 135 = .ok (.aload_n 0, 1) := by decide +kernel
theorem dX3_take_136 : decode cX3_take 136 = .ok (.iload_n 3, 1) := by decide +kernel
theorem dX3_take_137 : decode cX3_take 137 = .ok (.invokevirtual 71, 3) := by decide +kernel
theorem dX3_take_140 : decode cX3_take 140 = .ok (.aload_n 0, 1) := by decide +kernel
theorem dX3_take_141 : decode cX3_take 141 = .ok (.getfield 20, 3) := by decide +kernel
theorem dX3_take_144 : decode cX3_take 144 = .ok (.iload_n 3, 1) := by decide +kernel
theorem dX3_take_145 : decode cX3_take 145 = .ok (.iconst (-1), 1) := by decide +kernel
theorem dX3_take_146 : decode cX3_take 146 = .ok (.iastore, 1) := by decide +kernel
theorem dX3_take_147 : decode cX3_take 147 = .ok (.iload_n 2, 1) := by decide +kernel
theorem dX3_take_148 : decode cX3_take 148 = .ok (.ireturn, 1) := by decide +kernel
theorem dX3_bring_0 : decode cX3_bring 0 = .ok (.aload_n 0, 1) := by decide +kernel
theorem dX3_bring_1 : decode cX3_bring 1 = .ok (.iconst (-1), 1) := by decide +kernel
theorem dX3_bring_2 : decode cX3_bring 2 = .ok (.invokevirtual 75, 3) := by decide +kernel
theorem dX3_bring_5 : decode cX3_bring 5 = .ok (.istore_n 2, 1) := by decide +kernel
theorem dX3_bring_6 : decode cX3_bring 6 = .ok (.iconst 0, 1) := by decide +kernel
theorem dX3_bring_7 : decode cX3_bring 7 = .ok (.istore_n 3, 1) := by decide +kernel
theorem dX3_bring_8 : decode cX3_bring 8 = .ok (.iload_n 3, 1) := by decide +kernel
theorem dX3_bring_9 : decode cX3_bring 9 = .ok (.bipush 16, 2) := by decide +kernel
theorem dX3_bring_11 : decode cX3_bring 11 = .ok (.if_icmp .ge 36, 3) := by decide +kernel
theorem dX3_bring_14 : decode cX3_bring 14 = .ok (.aload_n 0, 1) := by decide +kernel
theorem dX3_bring_15 : decode cX3_bring 15 = .ok (.getfield 29, 3) := by decide +kernel
theorem dX3_bring_18 : decode cX3_bring 18 = .ok (.bipush 16, 2) := by decide +kernel
theorem dX3_bring_20 : decode cX3_bring 20 = .ok (.iload_n 2, 1) := by decide +kernel
theorem dX3_bring_21 : decode cX3_bring 21 = .ok (.imul, 1) := by decide +kernel
theorem dX3_bring_22 : decode cX3_bring 22 = .ok (.iload_n 3, 1) := by decide +kernel
theorem dX3_bring_23 : decode cX3_bring 23 = .ok (.iadd, 1) := by decide +kernel
theorem dX3_bring_24 : decode cX3_bring 24 = .ok (.aload_n 0, 1) := by decide +kernel
theorem dX3_bring_25 : decode cX3_bring 25 = .ok (.getfield 32, 3) := by decide +kernel
theorem dX3_bring_28 : decode cX3_bring 28 = .ok (.bipush 16, 2) := by decide +kernel
theorem dX3_bring_30 : decode cX3_bring 30 = .ok (.aload_n 0, 1) := by decide +kernel
theorem dX3_bring_31 : decode cX3_bring 31 = .ok (.getfield 23, 3) := by decide +kernel
theorem dX3_bring_34 : decode cX3_bring 34 = .ok (.iload_n 1, 1) := by decide +kernel
theorem dX3_bring_35 : decode cX3_bring 35 = .ok (.iaload, 1) := by decide +kernel
theorem dX3_bring_36 : decode cX3_bring 36 = .ok (.imul, 1) := by decide +kernel
theorem dX3_bring_37 : decode cX3_bring 37 = .ok (.iload_n 3, 1) := by decide +kernel
theorem dX3_bring_38 : decode cX3_bring 38 = .ok (.iadd, 1) := by decide +kernel
theorem dX3_bring_39 : decode cX3_bring 39 = .ok (.iaload, 1) := by decide +kernel
theorem dX3_bring_40 : decode cX3_bring 40 = .ok (.iastore, 1) := by decide +kernel
theorem dX3_bring_41 : decode cX3_bring 41 = .ok (.iinc 3 1, 3) := by decide +kernel
theorem dX3_bring_44 : decode cX3_bring 44 = .ok (.goto (-36), 3) := by decide +kernel
theorem dX3_bring_47 : decode cX3_bring 47 = .ok (.aload_n 0, 1) := by decide +kernel
theorem dX3_bring_48 : decode cX3_bring 48 = .ok (.getfield 20, 3) := by decide +kernel
theorem dX3_bring_51 : decode cX3_bring 51 = .ok (.iload_n 1, 1) := by decide +kernel
theorem dX3_bring_52 : decode cX3_bring 52 = .ok (.iload_n 2, 1) := by decide +kernel
theorem dX3_bring_53 : decode cX3_bring 53 = .ok (.iastore, 1) := by decide +kernel
theorem dX3_bring_54 : decode cX3_bring 54 = .ok (.aload_n 0, 1) := by decide +kernel
theorem dX3_bring_55 : decode cX3_bring 55 = .ok (.getfield 26, 3) := by decide +kernel
theorem dX3_bring_58 : decode cX3_bring 58 = .ok (.iload_n 1, 1) := by decide +kernel
theorem dX3_bring_59 : decode cX3_bring 59 = .ok (.iconst 0, 1) := by decide +kernel
theorem dX3_bring_60 : decode cX3_bring 60 = .ok (.bastore, 1) := by decide +kernel
theorem dX3_bring_61 : decode cX3_bring 61 = .ok (.aload_n 0, 1) := by decide +kernel
theorem dX3_bring_62 : decode cX3_bring 62 = .ok (.dup, 1) := by decide +kernel
theorem dX3_bring_63 : decode cX3_bring 63 = .ok (.getfield 78, 3) := by decide +kernel
theorem dX3_bring_66 : decode cX3_bring 66 = .ok (.iconst 1, 1) := by decide +kernel
theorem dX3_bring_67 : decode cX3_bring 67 = .ok (.iadd, 1) := by decide +kernel
theorem dX3_bring_68 : decode cX3_bring 68 = .ok (.putfield 78, 3) := by decide +kernel
theorem dX3_bring_71 : decode cX3_bring 71 = .ok (.return_, 1) := by decide +kernel
theorem dX3_begin_0 : decode cX3_begin 0 = .ok (.aload_n 0, 1) := by decide +kernel
theorem dX3_begin_1 : decode cX3_begin 1 = .ok (.iconst 0, 1) := by decide +kernel
theorem dX3_begin_2 : decode cX3_begin 2 = .ok (.putfield 45, 3) := by decide +kernel
theorem dX3_begin_5 : decode cX3_begin 5 = .ok (.aload_n 0, 1) := by decide +kernel
theorem dX3_begin_6 : decode cX3_begin 6 = .ok (.invokevirtual 81, 3) := by decide +kernel
theorem dX3_begin_9 : decode cX3_begin 9 = .ok (.istore_n 2, 1) := by decide +kernel
theorem dX3_begin_10 : decode cX3_begin 10 = .ok (.iload_n 1, 1) := by decide +kernel
theorem dX3_begin_11 : decode cX3_begin 11 = .ok (.iconst 1, 1) := by decide +kernel
theorem dX3_begin_12 : decode cX3_begin 12 = .ok (.if_icmp .lt 14, 3) := by decide +kernel
theorem dX3_begin_15 : decode cX3_begin 15 = .ok (.iload_n 1, 1) := by decide +kernel
theorem dX3_begin_16 : decode cX3_begin 16 = .ok (.bipush 32, 2) := by decide +kernel
theorem dX3_begin_18 : decode cX3_begin 18 = .ok (.if_icmp .gt 8, 3) := by decide +kernel
theorem dX3_begin_21 : decode cX3_begin 21 = .ok (.iload_n 2, 1) := by decide +kernel
theorem dX3_begin_22 : decode cX3_begin 22 = .ok (.iconst (-1), 1) := by decide +kernel
theorem dX3_begin_23 : decode cX3_begin 23 = .ok (.if_icmp .ne 5, 3) := by decide +kernel
theorem dX3_begin_26 : decode cX3_begin 26 = .ok (.iconst (-1), 1) := by decide +kernel
theorem dX3_begin_27 : decode cX3_begin 27 = .ok (.ireturn, 1) := by decide +kernel
theorem dX3_begin_28 : decode cX3_begin 28 = .ok (.aload_n 0, 1) := by decide +kernel
theorem dX3_begin_29 : decode cX3_begin 29 = .ok (.getfield 7, 3) := by decide +kernel
theorem dX3_begin_32 : decode cX3_begin 32 = .ok (.iload_n 2, 1) := by decide +kernel
theorem dX3_begin_33 : decode cX3_begin 33 = .ok (.iload_n 1, 1) := by decide +kernel
theorem dX3_begin_34 : decode cX3_begin 34 = .ok (.iastore, 1) := by decide +kernel
theorem dX3_begin_35 : decode cX3_begin 35 = .ok (.iload_n 2, 1) := by decide +kernel
theorem dX3_begin_36 : decode cX3_begin 36 = .ok (.ireturn, 1) := by decide +kernel
theorem dX3_fork_0 : decode cX3_fork 0 = .ok (.aload_n 0, 1) := by decide +kernel
theorem dX3_fork_1 : decode cX3_fork 1 = .ok (.iconst 0, 1) := by decide +kernel
theorem dX3_fork_2 : decode cX3_fork 2 = .ok (.putfield 45, 3) := by decide +kernel
theorem dX3_fork_5 : decode cX3_fork 5 = .ok (.aload_n 0, 1) := by decide +kernel
theorem dX3_fork_6 : decode cX3_fork 6 = .ok (.invokevirtual 81, 3) := by decide +kernel
theorem dX3_fork_9 : decode cX3_fork 9 = .ok (.istore_n 2, 1) := by decide +kernel
theorem dX3_fork_10 : decode cX3_fork 10 = .ok (.aload_n 0, 1) := by decide +kernel
theorem dX3_fork_11 : decode cX3_fork 11 = .ok (.iload_n 1, 1) := by decide +kernel
theorem dX3_fork_12 : decode cX3_fork 12 = .ok (.invokevirtual 48, 3) := by decide +kernel
theorem dX3_fork_15 : decode cX3_fork 15 = .ok (.ifCond .eq 8, 3) := by decide +kernel
theorem dX3_fork_18 : decode cX3_fork 18 = .ok (.iload_n 2, 1) := by decide +kernel
theorem dX3_fork_19 : decode cX3_fork 19 = .ok (.iconst (-1), 1) := by decide +kernel
theorem dX3_fork_20 : decode cX3_fork 20 = .ok (.if_icmp .ne 5, 3) := by decide +kernel
theorem dX3_fork_23 : decode cX3_fork 23 = .ok (.iconst (-1), 1) := by decide +kernel
theorem dX3_fork_24 : decode cX3_fork 24 = .ok (.ireturn, 1) := by decide +kernel
theorem dX3_fork_25 : decode cX3_fork 25 = .ok (.aload_n 0, 1) := by decide +kernel
theorem dX3_fork_26 : decode cX3_fork 26 = .ok (.getfield 7, 3) := by decide +kernel
theorem dX3_fork_29 : decode cX3_fork 29 = .ok (.iload_n 2, 1) := by decide +kernel
theorem dX3_fork_30 : decode cX3_fork 30 = .ok (.aload_n 0, 1) := by decide +kernel
theorem dX3_fork_31 : decode cX3_fork 31 = .ok (.getfield 7, 3) := by decide +kernel
theorem dX3_fork_34 : decode cX3_fork 34 = .ok (.iload_n 1, 1) := by decide +kernel
theorem dX3_fork_35 : decode cX3_fork 35 = .ok (.iaload, 1) := by decide +kernel
theorem dX3_fork_36 : decode cX3_fork 36 = .ok (.iastore, 1) := by decide +kernel
theorem dX3_fork_37 : decode cX3_fork 37 = .ok (.iconst 0, 1) := by decide +kernel
theorem dX3_fork_38 : decode cX3_fork 38 = .ok (.istore_n 3, 1) := by decide +kernel
theorem dX3_fork_39 : decode cX3_fork 39 = .ok (.iload_n 3, 1) := by decide +kernel
theorem dX3_fork_40 : decode cX3_fork 40 = .ok (.bipush 32, 2) := by decide +kernel
theorem dX3_fork_42 : decode cX3_fork 42 = .ok (.if_icmp .ge 31, 3) := by decide +kernel
theorem dX3_fork_45 : decode cX3_fork 45 = .ok (.aload_n 0, 1) := by decide +kernel
theorem dX3_fork_46 : decode cX3_fork 46 = .ok (.getfield 13, 3) := by decide +kernel
theorem dX3_fork_49 : decode cX3_fork 49 = .ok (.bipush 32, 2) := by decide +kernel
theorem dX3_fork_51 : decode cX3_fork 51 = .ok (.iload_n 2, 1) := by decide +kernel
theorem dX3_fork_52 : decode cX3_fork 52 = .ok (.imul, 1) := by decide +kernel
theorem dX3_fork_53 : decode cX3_fork 53 = .ok (.iload_n 3, 1) := by decide +kernel
theorem dX3_fork_54 : decode cX3_fork 54 = .ok (.iadd, 1) := by decide +kernel
theorem dX3_fork_55 : decode cX3_fork 55 = .ok (.aload_n 0, 1) := by decide +kernel
theorem dX3_fork_56 : decode cX3_fork 56 = .ok (.getfield 13, 3) := by decide +kernel
theorem dX3_fork_59 : decode cX3_fork 59 = .ok (.bipush 32, 2) := by decide +kernel
theorem dX3_fork_61 : decode cX3_fork 61 = .ok (.iload_n 1, 1) := by decide +kernel
theorem dX3_fork_62 : decode cX3_fork 62 = .ok (.imul, 1) := by decide +kernel
theorem dX3_fork_63 : decode cX3_fork 63 = .ok (.iload_n 3, 1) := by decide +kernel
theorem dX3_fork_64 : decode cX3_fork 64 = .ok (.iadd, 1) := by decide +kernel
theorem dX3_fork_65 : decode cX3_fork 65 = .ok (.iaload, 1) := by decide +kernel
theorem dX3_fork_66 : decode cX3_fork 66 = .ok (.iastore, 1) := by decide +kernel
theorem dX3_fork_67 : decode cX3_fork 67 = .ok (.iinc 3 1, 3) := by decide +kernel
theorem dX3_fork_70 : decode cX3_fork 70 = .ok (.goto (-31), 3) := by decide +kernel
theorem dX3_fork_73 : decode cX3_fork 73 = .ok (.iload_n 2, 1) := by decide +kernel
theorem dX3_fork_74 : decode cX3_fork 74 = .ok (.ireturn, 1) := by decide +kernel
theorem dX3_end_0 : decode cX3_end 0 = .ok (.aload_n 0, 1) := by decide +kernel
theorem dX3_end_1 : decode cX3_end 1 = .ok (.iconst 0, 1) := by decide +kernel
theorem dX3_end_2 : decode cX3_end 2 = .ok (.putfield 45, 3) := by decide +kernel
theorem dX3_end_5 : decode cX3_end 5 = .ok (.aload_n 0, 1) := by decide +kernel
theorem dX3_end_6 : decode cX3_end 6 = .ok (.iload_n 1, 1) := by decide +kernel
theorem dX3_end_7 : decode cX3_end 7 = .ok (.invokevirtual 48, 3) := by decide +kernel
theorem dX3_end_10 : decode cX3_end 10 = .ok (.ifCond .ne 5, 3) := by decide +kernel
theorem dX3_end_13 : decode cX3_end 13 = .ok (.iconst 0, 1) := by decide +kernel
theorem dX3_end_14 : decode cX3_end 14 = .ok (.ireturn, 1) := by decide +kernel
theorem dX3_end_15 : decode cX3_end 15 = .ok (.iconst 0, 1) := by decide +kernel
theorem dX3_end_16 : decode cX3_end 16 = .ok (.istore_n 2, 1) := by decide +kernel
theorem dX3_end_17 : decode cX3_end 17 = .ok (.iload_n 2, 1) := by decide +kernel
theorem dX3_end_18 : decode cX3_end 18 = .ok (.bipush 32, 2) := by decide +kernel
theorem dX3_end_20 : decode cX3_end 20 = .ok (.if_icmp .ge 19, 3) := by decide +kernel
theorem dX3_end_23 : decode cX3_end 23 = .ok (.aload_n 0, 1) := by decide +kernel
theorem dX3_end_24 : decode cX3_end 24 = .ok (.bipush 32, 2) := by decide +kernel
theorem dX3_end_26 : decode cX3_end 26 = .ok (.iload_n 1, 1) := by decide +kernel
theorem dX3_end_27 : decode cX3_end 27 = .ok (.imul, 1) := by decide +kernel
theorem dX3_end_28 : decode cX3_end 28 = .ok (.iload_n 2, 1) := by decide +kernel
theorem dX3_end_29 : decode cX3_end 29 = .ok (.iadd, 1) := by decide +kernel
theorem dX3_end_30 : decode cX3_end 30 = .ok (.invokevirtual 85, 3) := by decide +kernel
theorem dX3_end_33 : decode cX3_end 33 = .ok (.iinc 2 1, 3) := by decide +kernel
theorem dX3_end_36 : decode cX3_end 36 = .ok (.goto (-19), 3) := by decide +kernel
theorem dX3_end_39 : decode cX3_end 39 = .ok (.aload_n 0, 1) := by decide +kernel
theorem dX3_end_40 : decode cX3_end 40 = .ok (.getfield 7, 3) := by decide +kernel
theorem dX3_end_43 : decode cX3_end 43 = .ok (.iload_n 1, 1) := by decide +kernel
theorem dX3_end_44 : decode cX3_end 44 = .ok (.iconst 0, 1) := by decide +kernel
theorem dX3_end_45 : decode cX3_end 45 = .ok (.iastore, 1) := by decide +kernel
theorem dX3_end_46 : decode cX3_end 46 = .ok (.iconst 1, 1) := by decide +kernel
theorem dX3_end_47 : decode cX3_end 47 = .ok (.ireturn, 1) := by decide +kernel
theorem dX3_drop_0 : decode cX3_drop 0 = .ok (.aload_n 0, 1) := by decide +kernel
theorem dX3_drop_1 : decode cX3_drop 1 = .ok (.iconst 0, 1) := by decide +kernel
theorem dX3_drop_2 : decode cX3_drop 2 = .ok (.putfield 45, 3) := by decide +kernel
theorem dX3_drop_5 : decode cX3_drop 5 = .ok (.aload_n 0, 1) := by decide +kernel
theorem dX3_drop_6 : decode cX3_drop 6 = .ok (.iload_n 1, 1) := by decide +kernel
theorem dX3_drop_7 : decode cX3_drop 7 = .ok (.iload_n 2, 1) := by decide +kernel
theorem dX3_drop_8 : decode cX3_drop 8 = .ok (.invokevirtual 88, 3) := by decide +kernel
theorem dX3_drop_11 : decode cX3_drop 11 = .ok (.ifCond .eq 18, 3) := by decide +kernel
theorem dX3_drop_14 : decode cX3_drop 14 = .ok (.aload_n 0, 1) := by decide +kernel
theorem dX3_drop_15 : decode cX3_drop 15 = .ok (.getfield 13, 3) := by decide +kernel
theorem dX3_drop_18 : decode cX3_drop 18 = .ok (.bipush 32, 2) := by decide +kernel
theorem dX3_drop_20 : decode cX3_drop 20 = .ok (.iload_n 1, 1) := by decide +kernel
theorem dX3_drop_21 : decode cX3_drop 21 = .ok (.imul, 1) := by decide +kernel
theorem dX3_drop_22 : decode cX3_drop 22 = .ok (.iload_n 2, 1) := by decide +kernel
theorem dX3_drop_23 : decode cX3_drop 23 = .ok (.iadd, 1) := by decide +kernel
theorem dX3_drop_24 : decode cX3_drop 24 = .ok (.iaload, 1) := by decide +kernel
theorem dX3_drop_25 : decode cX3_drop 25 = .ok (.iconst (-1), 1) := by decide +kernel
theorem dX3_drop_26 : decode cX3_drop 26 = .ok (.if_icmp .ne 5, 3) := by decide +kernel
theorem dX3_drop_29 : decode cX3_drop 29 = .ok (.iconst 0, 1) := by decide +kernel
theorem dX3_drop_30 : decode cX3_drop 30 = .ok (.ireturn, 1) := by decide +kernel
theorem dX3_drop_31 : decode cX3_drop 31 = .ok (.aload_n 0, 1) := by decide +kernel
theorem dX3_drop_32 : decode cX3_drop 32 = .ok (.bipush 32, 2) := by decide +kernel
theorem dX3_drop_34 : decode cX3_drop 34 = .ok (.iload_n 1, 1) := by decide +kernel
theorem dX3_drop_35 : decode cX3_drop 35 = .ok (.imul, 1) := by decide +kernel
theorem dX3_drop_36 : decode cX3_drop 36 = .ok (.iload_n 2, 1) := by decide +kernel
theorem dX3_drop_37 : decode cX3_drop 37 = .ok (.iadd, 1) := by decide +kernel
theorem dX3_drop_38 : decode cX3_drop 38 = .ok (.invokevirtual 85, 3) := by decide +kernel
theorem dX3_drop_41 : decode cX3_drop 41 = .ok (.iconst 1, 1) := by decide +kernel
theorem dX3_drop_42 : decode cX3_drop 42 = .ok (.ireturn, 1) := by decide +kernel
theorem dX3_fails_0 : decode cX3_fails 0 = .ok (.aload_n 0, 1) := by decide +kernel
theorem dX3_fails_1 : decode cX3_fails 1 = .ok (.iconst 1, 1) := by decide +kernel
theorem dX3_fails_2 : decode cX3_fails 2 = .ok (.putfield 45, 3) := by decide +kernel
theorem dX3_fails_5 : decode cX3_fails 5 = .ok (.aload_n 0, 1) := by decide +kernel
theorem dX3_fails_6 : decode cX3_fails 6 = .ok (.iload_n 1, 1) := by decide +kernel
theorem dX3_fails_7 : decode cX3_fails 7 = .ok (.invokevirtual 48, 3) := by decide +kernel
theorem dX3_fails_10 : decode cX3_fails 10 = .ok (.ifCond .eq 20, 3) := by decide +kernel
theorem dX3_fails_13 : decode cX3_fails 13 = .ok (.iload_n 2, 1) := by decide +kernel
theorem dX3_fails_14 : decode cX3_fails 14 = .ok (.ifCond .lt 16, 3) := by decide +kernel
theorem dX3_fails_17 : decode cX3_fails 17 = .ok (.iload_n 2, 1) := by decide +kernel
theorem dX3_fails_18 : decode cX3_fails 18 = .ok (.bipush 16, 2) := by decide +kernel
theorem dX3_fails_20 : decode cX3_fails 20 = .ok (.aload_n 0, 1) := by decide +kernel
theorem dX3_fails_21 : decode cX3_fails 21 = .ok (.getfield 7, 3) := by decide +kernel
theorem dX3_fails_24 : decode cX3_fails 24 = .ok (.iload_n 1, 1) := by decide +kernel
theorem dX3_fails_25 : decode cX3_fails 25 = .ok (.iaload, 1) := by decide +kernel
theorem dX3_fails_26 : decode cX3_fails 26 = .ok (.imul, 1) := by decide +kernel
theorem dX3_fails_27 : decode cX3_fails 27 = .ok (.if_icmp .lt 5, 3) := by decide +kernel
theorem dX3_fails_30 : decode cX3_fails 30 = .ok (.iconst 1, 1) := by decide +kernel
theorem dX3_fails_31 : decode cX3_fails 31 = .ok (.ireturn, 1) := by decide +kernel
theorem dX3_fails_32 : decode cX3_fails 32 = .ok (.aload_n 0, 1) := by decide +kernel
theorem dX3_fails_33 : decode cX3_fails 33 = .ok (.getfield 13, 3) := by decide +kernel
theorem dX3_fails_36 : decode cX3_fails 36 = .ok (.bipush 32, 2) := by decide +kernel
theorem dX3_fails_38 : decode cX3_fails 38 = .ok (.iload_n 1, 1) := by decide +kernel
theorem dX3_fails_39 : decode cX3_fails 39 = .ok (.imul, 1) := by decide +kernel
theorem dX3_fails_40 : decode cX3_fails 40 = .ok (.iload_n 2, 1) := by decide +kernel
theorem dX3_fails_41 : decode cX3_fails 41 = .ok (.bipush 16, 2) := by decide +kernel
theorem dX3_fails_43 : decode cX3_fails 43 = .ok (.idiv, 1) := by decide +kernel
theorem dX3_fails_44 : decode cX3_fails 44 = .ok (.iadd, 1) := by decide +kernel
theorem dX3_fails_45 : decode cX3_fails 45 = .ok (.iaload, 1) := by decide +kernel
theorem dX3_fails_46 : decode cX3_fails 46 = .ok (.istore 4, 2) := by decide +kernel
theorem dX3_fails_48 : decode cX3_fails 48 = .ok (.iload 4, 2) := by decide +kernel
theorem dX3_fails_50 : decode cX3_fails 50 = .ok (.iconst (-1), 1) := by decide +kernel
theorem dX3_fails_51 : decode cX3_fails 51 = .ok (.if_icmp .ne 15, 3) := by decide +kernel
theorem dX3_fails_54 : decode cX3_fails 54 = .ok (.iload_n 3, 1) := by decide +kernel
theorem dX3_fails_55 : decode cX3_fails 55 = .ok (.ifCond .eq 7, 3) := by decide +kernel
theorem dX3_fails_58 : decode cX3_fails 58 = .ok (.iconst 1, 1) := by decide +kernel
theorem dX3_fails_59 : decode cX3_fails 59 = .ok (.goto 43, 3) := by decide +kernel
theorem dX3_fails_62 : decode cX3_fails 62 = .ok (.iconst 0, 1) := by decide +kernel
theorem dX3_fails_63 : decode cX3_fails 63 = .ok (.goto 39, 3) := by decide +kernel
theorem dX3_fails_66 : decode cX3_fails 66 = .ok (.aload_n 0, 1) := by decide +kernel
theorem dX3_fails_67 : decode cX3_fails 67 = .ok (.getfield 20, 3) := by decide +kernel
theorem dX3_fails_70 : decode cX3_fails 70 = .ok (.iload 4, 2) := by decide +kernel
theorem dX3_fails_72 : decode cX3_fails 72 = .ok (.iaload, 1) := by decide +kernel
theorem dX3_fails_73 : decode cX3_fails 73 = .ok (.iconst (-1), 1) := by decide +kernel
theorem dX3_fails_74 : decode cX3_fails 74 = .ok (.if_icmp .ne 7, 3) := by decide +kernel
theorem dX3_fails_77 : decode cX3_fails 77 = .ok (.iconst 1, 1) := by decide +kernel
theorem dX3_fails_78 : decode cX3_fails 78 = .ok (.goto 4, 3) := by decide +kernel
theorem dX3_fails_81 : decode cX3_fails 81 = .ok (.iconst 0, 1) := by decide +kernel
theorem dX3_fails_82 : decode cX3_fails 82 = .ok (.iload_n 3, 1) := by decide +kernel
theorem dX3_fails_83 : decode cX3_fails 83 = .ok (.ifCond .eq 17, 3) := by decide +kernel
theorem dX3_fails_86 : decode cX3_fails 86 = .ok (.aload_n 0, 1) := by decide +kernel
theorem dX3_fails_87 : decode cX3_fails 87 = .ok (.iload 4, 2) := by decide +kernel
theorem dX3_fails_89 : decode cX3_fails 89 = .ok (.invokevirtual 59, 3) := by decide +kernel
theorem dX3_fails_92 : decode cX3_fails 92 = .ok (.iconst 1, 1) := by decide +kernel
theorem dX3_fails_93 : decode cX3_fails 93 = .ok (.if_icmp .le 7, 3) := by decide +kernel
theorem dX3_fails_96 : decode cX3_fails 96 = .ok (.iconst 1, 1) := by decide +kernel
theorem dX3_fails_97 : decode cX3_fails 97 = .ok (.goto 4, 3) := by decide +kernel
theorem dX3_fails_100 : decode cX3_fails 100 = .ok (.iconst 0, 1) := by decide +kernel
theorem dX3_fails_101 : decode cX3_fails 101 = .ok (.iadd, 1) := by decide +kernel
theorem dX3_fails_102 : decode cX3_fails 102 = .ok (.istore 5, 2) := by decide +kernel
theorem dX3_fails_104 : decode cX3_fails 104 = .ok (.aload_n 0, 1) := by decide +kernel
theorem dX3_fails_105 : decode cX3_fails 105 = .ok (.iload 5, 2) := by decide +kernel
theorem dX3_fails_107 : decode cX3_fails 107 = .ok (.aload_n 0, 1) := by decide +kernel
theorem dX3_fails_108 : decode cX3_fails 108 = .ok (.invokevirtual 92, 3) := by decide +kernel
theorem dX3_fails_111 : decode cX3_fails 111 = .ok (.isub, 1) := by decide +kernel
theorem dX3_fails_112 : decode cX3_fails 112 = .ok (.ifCond .le 21, 3) := by decide +kernel
theorem dX3_fails_115 : decode cX3_fails 115 = .ok (.iload 5, 2) := by decide +kernel
theorem dX3_fails_117 : decode cX3_fails 117 = .ok (.aload_n 0, 1) := by decide +kernel
theorem dX3_fails_118 : decode cX3_fails 118 = .ok (.invokevirtual 92, 3) := by decide +kernel
theorem dX3_fails_121 : decode cX3_fails 121 = .ok (.isub, 1) := by decide +kernel
theorem dX3_fails_122 : decode cX3_fails 122 = .ok (.aload_n 0, 1) := by decide +kernel
theorem dX3_fails_123 : decode cX3_fails 123 = .ok (.invokevirtual 95, 3) := by decide +kernel
theorem dX3_fails_126 : decode cX3_fails 126 = .ok (.if_icmp .le 7, 3) := by decide +kernel
theorem dX3_fails_129 : decode cX3_fails 129 = .ok (.iconst 2, 1) := by decide +kernel
theorem dX3_fails_130 : decode cX3_fails 130 = .ok (.goto 4, 3) := by decide +kernel
theorem dX3_fails_133 : decode cX3_fails 133 = .ok (.iconst 0, 1) := by decide +kernel
theorem dX3_fails_134 : decode cX3_fails 134 = .ok (.putfield 45, 3) := by decide +kernel
theorem dX3_fails_137 : decode cX3_fails 137 = .ok (.aload_n 0, 1) := by decide +kernel
theorem dX3_fails_138 : decode cX3_fails 138 = .ok (.getfield 45, 3) := by decide +kernel
theorem dX3_fails_141 : decode cX3_fails 141 = .ok (.ifCond .le 7, 3) := by decide +kernel
theorem dX3_fails_144 : decode cX3_fails 144 = .ok (.iconst 1, 1) := by decide +kernel
theorem dX3_fails_145 : decode cX3_fails 145 = .ok (.goto 4, 3) := by decide +kernel
theorem dX3_fails_148 : decode cX3_fails 148 = .ok (.iconst 0, 1) := by decide +kernel
theorem dX3_fails_149 : decode cX3_fails 149 = .ok (.ireturn, 1) := by decide +kernel
theorem dX3_read_0 : decode cX3_read 0 = .ok (.aload_n 0, 1) := by decide +kernel
theorem dX3_read_1 : decode cX3_read 1 = .ok (.iload_n 1, 1) := by decide +kernel
theorem dX3_read_2 : decode cX3_read 2 = .ok (.iload_n 2, 1) := by decide +kernel
theorem dX3_read_3 : decode cX3_read 3 = .ok (.iconst 0, 1) := by decide +kernel
theorem dX3_read_4 : decode cX3_read 4 = .ok (.invokevirtual 98, 3) := by decide +kernel
theorem dX3_read_7 : decode cX3_read 7 = .ok (.ifCond .eq 5, 3) := by decide +kernel
theorem dX3_read_10 : decode cX3_read 10 = .ok (.iconst 0, 1) := by decide +kernel
theorem dX3_read_11 : decode cX3_read 11 = .ok (.ireturn, 1) := by decide +kernel
theorem dX3_read_12 : decode cX3_read 12 = .ok (.aload_n 0, 1) := by decide +kernel
theorem dX3_read_13 : decode cX3_read 13 = .ok (.dup, 1) := by decide +kernel
theorem dX3_read_14 : decode cX3_read 14 = .ok (.getfield 102, 3) := by decide +kernel
theorem dX3_read_17 : decode cX3_read 17 = .ok (.iconst 1, 1) := by decide +kernel
theorem dX3_read_18 : decode cX3_read 18 = .ok (.iadd, 1) := by decide +kernel
theorem dX3_read_19 : decode cX3_read 19 = .ok (.putfield 102, 3) := by decide +kernel
theorem dX3_read_22 : decode cX3_read 22 = .ok (.aload_n 0, 1) := by decide +kernel
theorem dX3_read_23 : decode cX3_read 23 = .ok (.getfield 13, 3) := by decide +kernel
theorem dX3_read_26 : decode cX3_read 26 = .ok (.bipush 32, 2) := by decide +kernel
theorem dX3_read_28 : decode cX3_read 28 = .ok (.iload_n 1, 1) := by decide +kernel
theorem dX3_read_29 : decode cX3_read 29 = .ok (.imul, 1) := by decide +kernel
theorem dX3_read_30 : decode cX3_read 30 = .ok (.iload_n 2, 1) := by decide +kernel
theorem dX3_read_31 : decode cX3_read 31 = .ok (.bipush 16, 2) := by decide +kernel
theorem dX3_read_33 : decode cX3_read 33 = .ok (.idiv, 1) := by decide +kernel
theorem dX3_read_34 : decode cX3_read 34 = .ok (.iadd, 1) := by decide +kernel
theorem dX3_read_35 : decode cX3_read 35 = .ok (.iaload, 1) := by decide +kernel
theorem dX3_read_36 : decode cX3_read 36 = .ok (.istore_n 3, 1) := by decide +kernel
theorem dX3_read_37 : decode cX3_read 37 = .ok (.iload_n 3, 1) := by decide +kernel
theorem dX3_read_38 : decode cX3_read 38 = .ok (.iconst (-1), 1) := by decide +kernel
theorem dX3_read_39 : decode cX3_read 39 = .ok (.if_icmp .ne 5, 3) := by decide +kernel
theorem dX3_read_42 : decode cX3_read 42 = .ok (.iconst 0, 1) := by decide +kernel
theorem dX3_read_43 : decode cX3_read 43 = .ok (.ireturn, 1) := by decide +kernel
theorem dX3_read_44 : decode cX3_read 44 = .ok (.aload_n 0, 1) := by decide +kernel
theorem dX3_read_45 : decode cX3_read 45 = .ok (.getfield 20, 3) := by decide +kernel
theorem dX3_read_48 : decode cX3_read 48 = .ok (.iload_n 3, 1) := by decide +kernel
theorem dX3_read_49 : decode cX3_read 49 = .ok (.iaload, 1) := by decide +kernel
theorem dX3_read_50 : decode cX3_read 50 = .ok (.iconst (-1), 1) := by decide +kernel
theorem dX3_read_51 : decode cX3_read 51 = .ok (.if_icmp .ne 8, 3) := by decide +kernel
theorem dX3_read_54 : decode cX3_read 54 = .ok (.aload_n 0, 1) := by decide +kernel
theorem dX3_read_55 : decode cX3_read 55 = .ok (.iload_n 3, 1) := by decide +kernel
theorem dX3_read_56 : decode cX3_read 56 = .ok (.invokevirtual 105, 3) := by decide +kernel
theorem dX3_read_59 : decode cX3_read 59 = .ok (.aload_n 0, 1) := by decide +kernel
theorem dX3_read_60 : decode cX3_read 60 = .ok (.getfield 35, 3) := by decide +kernel
theorem dX3_read_63 : decode cX3_read 63 = .ok (.aload_n 0, 1) := by decide +kernel
theorem dX3_read_64 : decode cX3_read 64 = .ok (.getfield 20, 3) := by decide +kernel
theorem dX3_read_67 : decode cX3_read 67 = .ok (.iload_n 3, 1) := by decide +kernel
theorem dX3_read_68 : decode cX3_read 68 = .ok (.iaload, 1) := by decide +kernel
theorem dX3_read_69 : decode cX3_read 69 = .ok (.iconst 1, 1) := by decide +kernel
theorem dX3_read_70 : decode cX3_read 70 = .ok (.bastore, 1) := by decide +kernel
theorem dX3_read_71 : decode cX3_read 71 = .ok (.aload_n 0, 1) := by decide +kernel
theorem dX3_read_72 : decode cX3_read 72 = .ok (.getfield 29, 3) := by decide +kernel
theorem dX3_read_75 : decode cX3_read 75 = .ok (.bipush 16, 2) := by decide +kernel
theorem dX3_read_77 : decode cX3_read 77 = .ok (.aload_n 0, 1) := by decide +kernel
theorem dX3_read_78 : decode cX3_read 78 = .ok (.getfield 20, 3) := by decide +kernel
theorem dX3_read_81 : decode cX3_read 81 = .ok (.iload_n 3, 1) := by decide +kernel
theorem dX3_read_82 : decode cX3_read 82 = .ok (.iaload, 1) := by decide +kernel
theorem dX3_read_83 : decode cX3_read 83 = .ok (.imul, 1) := by decide +kernel
theorem dX3_read_84 : decode cX3_read 84 = .ok (.iload_n 2, 1) := by decide +kernel
theorem dX3_read_85 : decode cX3_read 85 = .ok (.bipush 16, 2) := by decide +kernel
theorem dX3_read_87 : decode cX3_read 87 = .ok (.irem, 1) := by decide +kernel
theorem dX3_read_88 : decode cX3_read 88 = .ok (.iadd, 1) := by decide +kernel
theorem dX3_read_89 : decode cX3_read 89 = .ok (.iaload, 1) := by decide +kernel
theorem dX3_read_90 : decode cX3_read 90 = .ok (.ireturn, 1) := by decide +kernel
theorem dX3_write_0 : decode cX3_write 0 = .ok (.aload_n 0, 1) := by decide +kernel
theorem dX3_write_1 : decode cX3_write 1 = .ok (.iload_n 1, 1) := by decide +kernel
theorem dX3_write_2 : decode cX3_write 2 = .ok (.iload_n 2, 1) := by decide +kernel
theorem dX3_write_3 : decode cX3_write 3 = .ok (.iconst 1, 1) := by decide +kernel
theorem dX3_write_4 : decode cX3_write 4 = .ok (.invokevirtual 98, 3) := by decide +kernel
theorem dX3_write_7 : decode cX3_write 7 = .ok (.ifCond .eq 5, 3) := by decide +kernel
theorem dX3_write_10 : decode cX3_write 10 = .ok (.iconst 0, 1) := by decide +kernel
theorem dX3_write_11 : decode cX3_write 11 = .ok (.ireturn, 1) := by decide +kernel
theorem dX3_write_12 : decode cX3_write 12 = .ok (.aload_n 0, 1) := by decide +kernel
theorem dX3_write_13 : decode cX3_write 13 = .ok (.dup, 1) := by decide +kernel
theorem dX3_write_14 : decode cX3_write 14 = .ok (.getfield 102, 3) := by decide +kernel
theorem dX3_write_17 : decode cX3_write 17 = .ok (.iconst 1, 1) := by decide +kernel
theorem dX3_write_18 : decode cX3_write 18 = .ok (.iadd, 1) := by decide +kernel
theorem dX3_write_19 : decode cX3_write 19 = .ok (.putfield 102, 3) := by decide +kernel
theorem dX3_write_22 : decode cX3_write 22 = .ok (.aload_n 0, 1) := by decide +kernel
theorem dX3_write_23 : decode cX3_write 23 = .ok (.getfield 65, 3) := by decide +kernel
theorem dX3_write_26 : decode cX3_write 26 = .ok (.istore 4, 2) := by decide +kernel
theorem dX3_write_28 : decode cX3_write 28 = .ok (.bipush 32, 2) := by decide +kernel
theorem dX3_write_30 : decode cX3_write 30 = .ok (.iload_n 1, 1) := by decide +kernel
theorem dX3_write_31 : decode cX3_write 31 = .ok (.imul, 1) := by decide +kernel
theorem dX3_write_32 : decode cX3_write 32 = .ok (.iload_n 2, 1) := by decide +kernel
theorem dX3_write_33 : decode cX3_write 33 = .ok (.bipush 16, 2) := by decide +kernel
theorem dX3_write_35 : decode cX3_write 35 = .ok (.idiv, 1) := by decide +kernel
theorem dX3_write_36 : decode cX3_write 36 = .ok (.iadd, 1) := by decide +kernel
theorem dX3_write_37 : decode cX3_write 37 = .ok (.istore 5, 2) := by decide +kernel
theorem dX3_write_39 : decode cX3_write 39 = .ok (.aload_n 0, 1) := by decide +kernel
theorem dX3_write_40 : decode cX3_write 40 = .ok (.getfield 13, 3) := by decide +kernel
theorem dX3_write_43 : decode cX3_write 43 = .ok (.iload 5, 2) := by decide +kernel
theorem dX3_write_45 : decode cX3_write 45 = .ok (.iaload, 1) := by decide +kernel
theorem dX3_write_46 : decode cX3_write 46 = .ok (.istore 6, 2) := by decide +kernel
theorem dX3_write_48 : decode cX3_write 48 = .ok (.iload 6, 2) := by decide +kernel
theorem dX3_write_50 : decode cX3_write 50 = .ok (.iconst (-1), 1) := by decide +kernel
theorem dX3_write_51 : decode cX3_write 51 = .ok (.if_icmp .ne 60, 3) := by decide +kernel
theorem dX3_write_54 : decode cX3_write 54 = .ok (.aload_n 0, 1) := by decide +kernel
theorem dX3_write_55 : decode cX3_write 55 = .ok (.iconst (-1), 1) := by decide +kernel
theorem dX3_write_56 : decode cX3_write 56 = .ok (.invokevirtual 75, 3) := by decide +kernel
theorem dX3_write_59 : decode cX3_write 59 = .ok (.istore 7, 2) := by decide +kernel
theorem dX3_write_61 : decode cX3_write 61 = .ok (.aload_n 0, 1) := by decide +kernel
theorem dX3_write_62 : decode cX3_write 62 = .ok (.iload 7, 2) := by decide +kernel
theorem dX3_write_64 : decode cX3_write 64 = .ok (.invokevirtual 108, 3) := by decide +kernel
theorem dX3_write_67 : decode cX3_write 67 = .ok (.istore 6, 2) := by decide +kernel
theorem dX3_write_69 : decode cX3_write 69 = .ok (.iconst 0, 1) := by decide +kernel
theorem dX3_write_70 : decode cX3_write 70 = .ok (.istore 8, 2) := by decide +kernel
theorem dX3_write_72 : decode cX3_write 72 = .ok (.iload 8, 2) := by decide +kernel
theorem dX3_write_74 : decode cX3_write 74 = .ok (.bipush 16, 2) := by decide +kernel
theorem dX3_write_76 : decode cX3_write 76 = .ok (.if_icmp .ge 23, 3) := by decide +kernel
theorem dX3_write_79 : decode cX3_write 79 = .ok (.aload_n 0, 1) := by decide +kernel
theorem dX3_write_80 : decode cX3_write 80 = .ok (.getfield 29, 3) := by decide +kernel
theorem dX3_write_83 : decode cX3_write 83 = .ok (.bipush 16, 2) := by decide +kernel
theorem dX3_write_85 : decode cX3_write 85 = .ok (.iload 7, 2) := by decide +kernel
theorem dX3_write_87 : decode cX3_write 87 = .ok (.imul, 1) := by decide +kernel
theorem dX3_write_88 : decode cX3_write 88 = .ok (.iload 8, 2) := by decide +kernel
theorem dX3_write_90 : decode cX3_write 90 = .ok (.iadd, 1) := by decide +kernel
theorem dX3_write_91 : decode cX3_write 91 = .ok (.iconst 0, 1) := by decide +kernel
theorem dX3_write_92 : decode cX3_write 92 = .ok (.iastore, 1) := by decide +kernel
theorem dX3_write_93 : decode cX3_write 93 = .ok (.iinc 8 1, 3) := by decide +kernel
theorem dX3_write_96 : decode cX3_write 96 = .ok (.goto (-24), 3) := by decide +kernel
theorem dX3_write_99 : decode cX3_write 99 = .ok (.aload_n 0, 1) := by decide +kernel
theorem dX3_write_100 : decode cX3_write 100 = .ok (.getfield 13, 3) := by decide +kernel
theorem dX3_write_103 : decode cX3_write 103 = .ok (.iload 5, 2) := by decide +kernel
theorem dX3_write_105 : decode cX3_write 105 = .ok (.iload 6, 2) := by decide +kernel
theorem dX3_write_107 : decode cX3_write 107 = .ok (.iastore, 1) := by decide +kernel
theorem dX3_write_108 : decode cX3_write 108 = .ok (.goto 116, 3) := by decide +kernel
theorem dX3_write_111 : decode cX3_write 111 = .ok (.aload_n 0, 1) := by decide +kernel
theorem dX3_write_112 : decode cX3_write 112 = .ok (.getfield 20, 3) := by decide +kernel
theorem dX3_write_115 : decode cX3_write 115 = .ok (.iload 6, 2) := by decide +kernel
theorem dX3_write_117 : decode cX3_write 117 = .ok (.iaload, 1) := by decide +kernel
theorem dX3_write_118 : decode cX3_write 118 = .ok (.iconst (-1), 1) := by decide +kernel
theorem dX3_write_119 : decode cX3_write 119 = .ok (.if_icmp .ne 9, 3) := by decide +kernel
theorem dX3_write_122 : decode cX3_write 122 = .ok (.aload_n 0, 1) := by decide +kernel
theorem dX3_write_123 : decode cX3_write 123 = .ok (.iload 6, 2) := by decide +kernel
theorem dX3_write_125 : decode cX3_write 125 = .ok (.invokevirtual 105, 3) := by decide +kernel
theorem dX3_write_128 : decode cX3_write 128 = .ok (.aload_n 0, 1) := by decide +kernel
theorem dX3_write_129 : decode cX3_write 129 = .ok (.iload 6, 2) := by decide +kernel
theorem dX3_write_131 : decode cX3_write 131 = .ok (.invokevirtual 59, 3) := by decide +kernel
theorem dX3_write_134 : decode cX3_write 134 = .ok (.iconst 1, 1) := by decide +kernel
theorem dX3_write_135 : decode cX3_write 135 = .ok (.if_icmp .le 89, 3) := by decide +kernel
theorem dX3_write_138 : decode cX3_write 138 = .ok (.aload_n 0, 1) := by decide +kernel
theorem dX3_write_139 : decode cX3_write 139 = .ok (.getfield 20, 3) := by decide +kernel
theorem dX3_write_142 : decode cX3_write 142 = .ok (.iload 6, 2) := by decide +kernel
theorem dX3_write_144 : decode cX3_write 144 = .ok (.iaload, 1) := by decide +kernel
theorem dX3_write_145 : decode cX3_write 145 = .ok (.istore 7, 2) := by decide +kernel
theorem dX3_write_147 : decode cX3_write 147 = .ok (.aload_n 0, 1) := by decide +kernel
theorem dX3_write_148 : decode cX3_write 148 = .ok (.iload 7, 2) := by decide +kernel
theorem dX3_write_150 : decode cX3_write 150 = .ok (.invokevirtual 75, 3) := by decide +kernel
theorem dX3_write_153 : decode cX3_write 153 = .ok (.istore 8, 2) := by decide +kernel
theorem dX3_write_155 : decode cX3_write 155 = .ok (.aload_n 0, 1) := by decide +kernel
theorem dX3_write_156 : decode cX3_write 156 = .ok (.iload 8, 2) := by decide +kernel
theorem dX3_write_158 : decode cX3_write 158 = .ok (.invokevirtual 108, 3) := by decide +kernel
theorem dX3_write_161 : decode cX3_write 161 = .ok (.istore 6, 2) := by decide +kernel
theorem dX3_write_163 : decode cX3_write 163 = .ok (.iconst 0, 1) := by decide +kernel
theorem dX3_write_164 : decode cX3_write 164 = .ok (.istore 9, 2) := by decide +kernel
theorem dX3_write_166 : decode cX3_write 166 = .ok (.iload 9, 2) := by decide +kernel
theorem dX3_write_168 : decode cX3_write 168 = .ok (.bipush 16, 2) := by decide +kernel
theorem dX3_write_170 : decode cX3_write 170 = .ok (.if_icmp .ge 35, 3) := by decide +kernel
theorem dX3_write_173 : decode cX3_write 173 = .ok (.aload_n 0, 1) := by decide +kernel
theorem dX3_write_174 : decode cX3_write 174 = .ok (.getfield 29, 3) := by decide +kernel
theorem dX3_write_177 : decode cX3_write 177 = .ok (.bipush 16, 2) := by decide +kernel
theorem dX3_write_179 : decode cX3_write 179 = .ok (.iload 8, 2) := by decide +kernel
theorem dX3_write_181 : decode cX3_write 181 = .ok (.imul, 1) := by decide +kernel
theorem dX3_write_182 : decode cX3_write 182 = .ok (.iload 9, 2) := by decide +kernel
theorem dX3_write_184 : decode cX3_write 184 = .ok (.iadd, 1) := by decide +kernel
theorem dX3_write_185 : decode cX3_write 185 = .ok (.aload_n 0, 1) := by decide +kernel
theorem dX3_write_186 : decode cX3_write 186 = .ok (.getfield 29, 3) := by decide +kernel
theorem dX3_write_189 : decode cX3_write 189 = .ok (.bipush 16, 2) := by decide +kernel
theorem dX3_write_191 : decode cX3_write 191 = .ok (.iload 7, 2) := by decide +kernel
theorem dX3_write_193 : decode cX3_write 193 = .ok (.imul, 1) := by decide +kernel
theorem dX3_write_194 : decode cX3_write 194 = .ok (.iload 9, 2) := by decide +kernel
theorem dX3_write_196 : decode cX3_write 196 = .ok (.iadd, 1) := by decide +kernel
theorem dX3_write_197 : decode cX3_write 197 = .ok (.iaload, 1) := by decide +kernel
theorem dX3_write_198 : decode cX3_write 198 = .ok (.iastore, 1) := by decide +kernel
theorem dX3_write_199 : decode cX3_write 199 = .ok (.iinc 9 1, 3) := by decide +kernel
theorem dX3_write_202 : decode cX3_write 202 = .ok (.goto (-36), 3) := by decide +kernel
theorem dX3_write_205 : decode cX3_write 205 = .ok (.aload_n 0, 1) := by decide +kernel
theorem dX3_write_206 : decode cX3_write 206 = .ok (.getfield 13, 3) := by decide +kernel
theorem dX3_write_209 : decode cX3_write 209 = .ok (.iload 5, 2) := by decide +kernel
theorem dX3_write_211 : decode cX3_write 211 = .ok (.iload 6, 2) := by decide +kernel
theorem dX3_write_213 : decode cX3_write 213 = .ok (.iastore, 1) := by decide +kernel
theorem dX3_write_214 : decode cX3_write 214 = .ok (.aload_n 0, 1) := by decide +kernel
theorem dX3_write_215 : decode cX3_write 215 = .ok (.dup, 1) := by decide +kernel
theorem dX3_write_216 : decode cX3_write 216 = .ok (.getfield 111, 3) := by decide +kernel
theorem dX3_write_219 : decode cX3_write 219 = .ok (.iconst 1, 1) := by decide +kernel
theorem dX3_write_220 : decode cX3_write 220 = .ok (.iadd, 1) := by decide +kernel
theorem dX3_write_221 : decode cX3_write 221 = .ok (.putfield 111, 3) := by decide +kernel
theorem dX3_write_224 : decode cX3_write 224 = .ok (.aload_n 0, 1) := by decide +kernel
theorem dX3_write_225 : decode cX3_write 225 = .ok (.getfield 35, 3) := by decide +kernel
theorem dX3_write_228 : decode cX3_write 228 = .ok (.aload_n 0, 1) := by decide +kernel
theorem dX3_write_229 : decode cX3_write 229 = .ok (.getfield 20, 3) := by decide +kernel
theorem dX3_write_232 : decode cX3_write 232 = .ok (.iload 6, 2) := by decide +kernel
theorem dX3_write_234 : decode cX3_write 234 = .ok (.iaload, 1) := by decide +kernel
theorem dX3_write_235 : decode cX3_write 235 = .ok (.iconst 1, 1) := by decide +kernel
theorem dX3_write_236 : decode cX3_write 236 = .ok (.bastore, 1) := by decide +kernel
theorem dX3_write_237 : decode cX3_write 237 = .ok (.aload_n 0, 1) := by decide +kernel
theorem dX3_write_238 : decode cX3_write 238 = .ok (.getfield 29, 3) := by decide +kernel
theorem dX3_write_241 : decode cX3_write 241 = .ok (.bipush 16, 2) := by decide +kernel
theorem dX3_write_243 : decode cX3_write 243 = .ok (.aload_n 0, 1) := by decide +kernel
theorem dX3_write_244 : decode cX3_write 244 = .ok (.getfield 20, 3) := by decide +kernel
theorem dX3_write_247 : decode cX3_write 247 = .ok (.iload 6, 2) := by decide +kernel
theorem dX3_write_249 : decode cX3_write 249 = .ok (.iaload, 1) := by decide +kernel
theorem dX3_write_250 : decode cX3_write 250 = .ok (.imul, 1) := by decide +kernel
theorem dX3_write_251 : decode cX3_write 251 = .ok (.iload_n 2, 1) := by decide +kernel
theorem dX3_write_252 : decode cX3_write 252 = .ok (.bipush 16, 2) := by decide +kernel
theorem dX3_write_254 : decode cX3_write 254 = .ok (.irem, 1) := by decide +kernel
theorem dX3_write_255 : decode cX3_write 255 = .ok (.iadd, 1) := by decide +kernel
theorem dX3_write_256 : decode cX3_write 256 = .ok (.iload_n 3, 1) := by decide +kernel
theorem dX3_write_257 : decode cX3_write 257 = .ok (.iastore, 1) := by decide +kernel
theorem dX3_write_258 : decode cX3_write 258 = .ok (.aload_n 0, 1) := by decide +kernel
theorem dX3_write_259 : decode cX3_write 259 = .ok (.getfield 26, 3) := by decide +kernel
theorem dX3_write_262 : decode cX3_write 262 = .ok (.iload 6, 2) := by decide +kernel
theorem dX3_write_264 : decode cX3_write 264 = .ok (.iconst 1, 1) := by decide +kernel
theorem dX3_write_265 : decode cX3_write 265 = .ok (.bastore, 1) := by decide +kernel
theorem dX3_write_266 : decode cX3_write 266 = .ok (.aload_n 0, 1) := by decide +kernel
theorem dX3_write_267 : decode cX3_write 267 = .ok (.getfield 65, 3) := by decide +kernel
theorem dX3_write_270 : decode cX3_write 270 = .ok (.iload 4, 2) := by decide +kernel
theorem dX3_write_272 : decode cX3_write 272 = .ok (.isub, 1) := by decide +kernel
theorem dX3_write_273 : decode cX3_write 273 = .ok (.ireturn, 1) := by decide +kernel
theorem dX3_flush_0 : decode cX3_flush 0 = .ok (.aload_n 0, 1) := by decide +kernel
theorem dX3_flush_1 : decode cX3_flush 1 = .ok (.iconst 0, 1) := by decide +kernel
theorem dX3_flush_2 : decode cX3_flush 2 = .ok (.putfield 45, 3) := by decide +kernel
theorem dX3_flush_5 : decode cX3_flush 5 = .ok (.iconst 0, 1) := by decide +kernel
theorem dX3_flush_6 : decode cX3_flush 6 = .ok (.istore_n 1, 1) := by decide +kernel
theorem dX3_flush_7 : decode cX3_flush 7 = .ok (.iconst 0, 1) := by decide +kernel
theorem dX3_flush_8 : decode cX3_flush 8 = .ok (.istore_n 2, 1) := by decide +kernel
theorem dX3_flush_9 : decode cX3_flush 9 = .ok (.iconst 0, 1) := by decide +kernel
theorem dX3_flush_10 : decode cX3_flush 10 = .ok (.istore_n 3, 1) := by decide +kernel
theorem dX3_flush_11 : decode cX3_flush 11 = .ok (.iload_n 3, 1) := by decide +kernel
theorem dX3_flush_12 : decode cX3_flush 12 = .ok (.sipush 300, 3) := by decide +kernel
theorem dX3_flush_15 : decode cX3_flush 15 = .ok (.if_icmp .ge 80, 3) := by decide +kernel
theorem dX3_flush_18 : decode cX3_flush 18 = .ok (.aload_n 0, 1) := by decide +kernel
theorem dX3_flush_19 : decode cX3_flush 19 = .ok (.getfield 16, 3) := by decide +kernel
theorem dX3_flush_22 : decode cX3_flush 22 = .ok (.iload_n 3, 1) := by decide +kernel
theorem dX3_flush_23 : decode cX3_flush 23 = .ok (.baload, 1) := by decide +kernel
theorem dX3_flush_24 : decode cX3_flush 24 = .ok (.ifCond .eq 26, 3) := by decide +kernel
theorem dX3_flush_27 : decode cX3_flush 27 = .ok (.aload_n 0, 1) := by decide +kernel
theorem dX3_flush_28 : decode cX3_flush 28 = .ok (.getfield 20, 3) := by decide +kernel
theorem dX3_flush_31 : decode cX3_flush 31 = .ok (.iload_n 3, 1) := by decide +kernel
theorem dX3_flush_32 : decode cX3_flush 32 = .ok (.iaload, 1) := by decide +kernel
theorem dX3_flush_33 : decode cX3_flush 33 = .ok (.iconst (-1), 1) := by decide +kernel
theorem dX3_flush_34 : decode cX3_flush 34 = .ok (.if_icmp .eq 16, 3) := by decide +kernel
theorem dX3_flush_37 : decode cX3_flush 37 = .ok (.aload_n 0, 1) := by decide +kernel
theorem dX3_flush_38 : decode cX3_flush 38 = .ok (.getfield 26, 3) := by decide +kernel
theorem dX3_flush_41 : decode cX3_flush 41 = .ok (.iload_n 3, 1) := by decide +kernel
theorem dX3_flush_42 : decode cX3_flush 42 = .ok (.baload, 1) := by decide +kernel
theorem dX3_flush_43 : decode cX3_flush 43 = .ok (.ifCond .eq 7, 3) := by decide +kernel
theorem dX3_flush_46 : decode cX3_flush 46 = .ok (.iconst 1, 1) := by decide +kernel
theorem dX3_flush_47 : decode cX3_flush 47 = .ok (.goto 4, 3) := by decide +kernel
theorem dX3_flush_50 : decode cX3_flush 50 = .ok (.iconst 0, 1) := by decide +kernel
theorem dX3_flush_51 : decode cX3_flush 51 = .ok (.istore 4, 2) := by decide +kernel
theorem dX3_flush_53 : decode cX3_flush 53 = .ok (.iload_n 2, 1) := by decide +kernel
theorem dX3_flush_54 : decode cX3_flush 54 = .ok (.iload 4, 2) := by decide +kernel
theorem dX3_flush_56 : decode cX3_flush 56 = .ok (.ifCond .eq 7, 3) := by decide +kernel
theorem dX3_flush_59 : decode cX3_flush 59 = .ok (.iconst 1, 1) := by decide +kernel
theorem dX3_flush_60 : decode cX3_flush 60 = .ok (.goto 4, 3) := by decide +kernel
theorem dX3_flush_63 : decode cX3_flush 63 = .ok (.iconst 0, 1) := by decide +kernel
theorem dX3_flush_64 : decode cX3_flush 64 = .ok (.iadd, 1) := by decide +kernel
theorem dX3_flush_65 : decode cX3_flush 65 = .ok (.istore_n 2, 1) := by decide +kernel
theorem dX3_flush_66 : decode cX3_flush 66 = .ok (.iload_n 1, 1) := by decide +kernel
theorem dX3_flush_67 : decode cX3_flush 67 = .ok (.iload 4, 2) := by decide +kernel
theorem dX3_flush_69 : decode cX3_flush 69 = .ok (.ifCond .eq 17, 3) := by decide +kernel
theorem dX3_flush_72 : decode cX3_flush 72 = .ok (.aload_n 0, 1) := by decide +kernel
theorem dX3_flush_73 : decode cX3_flush 73 = .ok (.getfield 23, 3) := by decide +kernel
theorem dX3_flush_76 : decode cX3_flush 76 = .ok (.iload_n 3, 1) := by decide +kernel
theorem dX3_flush_77 : decode cX3_flush 77 = .ok (.iaload, 1) := by decide +kernel
theorem dX3_flush_78 : decode cX3_flush 78 = .ok (.iconst (-1), 1) := by decide +kernel
theorem dX3_flush_79 : decode cX3_flush 79 = .ok (.if_icmp .ne 7, 3) := by decide +kernel
theorem dX3_flush_82 : decode cX3_flush 82 = .ok (.iconst 1, 1) := by decide +kernel
theorem dX3_flush_83 : decode cX3_flush 83 = .ok (.goto 4, 3) := by decide +kernel
theorem dX3_flush_86 : decode cX3_flush 86 = .ok (.iconst 0, 1) := by decide +kernel
theorem dX3_flush_87 : decode cX3_flush 87 = .ok (.iadd, 1) := by decide +kernel
theorem dX3_flush_88 : decode cX3_flush 88 = .ok (.istore_n 1, 1) := by decide +kernel
theorem dX3_flush_89 : decode cX3_flush 89 = .ok (.iinc 3 1, 3) := by decide +kernel
theorem dX3_flush_92 : decode cX3_flush 92 = .ok (.goto (-81), 3) := by decide +kernel
theorem dX3_flush_95 : decode cX3_flush 95 = .ok (.iload_n 1, 1) := by decide +kernel
theorem dX3_flush_96 : decode cX3_flush 96 = .ok (.aload_n 0, 1) := by decide +kernel
theorem dX3_flush_97 : decode cX3_flush 97 = .ok (.invokevirtual 95, 3) := by decide +kernel
theorem dX3_flush_100 : decode cX3_flush 100 = .ok (.if_icmp .le 5, 3) := by decide +kernel
theorem dX3_flush_103 : decode cX3_flush 103 = .ok (.iconst (-1), 1) := by decide +kernel
theorem dX3_flush_104 : decode cX3_flush 104 = .ok (.ireturn, 1) := by decide +kernel
theorem dX3_flush_105 : decode cX3_flush 105 = .ok (.iconst 0, 1) := by decide +kernel
theorem dX3_flush_106 : decode cX3_flush 106 = .ok (.istore_n 3, 1) := by decide +kernel
theorem dX3_flush_107 : decode cX3_flush 107 = .ok (.iload_n 3, 1) := by decide +kernel
theorem dX3_flush_108 : decode cX3_flush 108 = .ok (.aload_n 0, 1) := by decide +kernel
theorem dX3_flush_109 : decode cX3_flush 109 = .ok (.getfield 38, 3) := by decide +kernel
theorem dX3_flush_112 : decode cX3_flush 112 = .ok (.if_icmp .ge 38, 3) := by decide +kernel
theorem dX3_flush_115 : decode cX3_flush 115 = .ok (.aload_n 0, 1) := by decide +kernel
theorem dX3_flush_116 : decode cX3_flush 116 = .ok (.iload_n 3, 1) := by decide +kernel
theorem dX3_flush_117 : decode cX3_flush 117 = .ok (.invokevirtual 52, 3) := by decide +kernel
theorem dX3_flush_120 : decode cX3_flush 120 = .ok (.istore 4, 2) := by decide +kernel
theorem dX3_flush_122 : decode cX3_flush 122 = .ok (.iload 4, 2) := by decide +kernel
theorem dX3_flush_124 : decode cX3_flush 124 = .ok (.iconst (-1), 1) := by decide +kernel
theorem dX3_flush_125 : decode cX3_flush 125 = .ok (.if_icmp .eq 19, 3) := by decide +kernel
theorem dX3_flush_128 : decode cX3_flush 128 = .ok (.aload_n 0, 1) := by decide +kernel
theorem dX3_flush_129 : decode cX3_flush 129 = .ok (.getfield 26, 3) := by decide +kernel
theorem dX3_flush_132 : decode cX3_flush 132 = .ok (.iload 4, 2) := by decide +kernel
theorem dX3_flush_134 : decode cX3_flush 134 = .ok (.baload, 1) := by decide +kernel
theorem dX3_flush_135 : decode cX3_flush 135 = .ok (.ifCond .eq 9, 3) := by decide +kernel
theorem dX3_flush_138 : decode cX3_flush 138 = .ok (.aload_n 0, 1) := by decide +kernel
theorem dX3_flush_139 : decode cX3_flush 139 = .ok (.iload 4, 2) := by decide +kernel
theorem dX3_flush_141 : decode cX3_flush 141 = .ok (.invokevirtual 71, 3) := by decide +kernel
theorem dX3_flush_144 : decode cX3_flush 144 = .ok (.iinc 3 1, 3) := by decide +kernel
theorem dX3_flush_147 : decode cX3_flush 147 = .ok (.goto (-40), 3) := by decide +kernel
theorem dX3_flush_150 : decode cX3_flush 150 = .ok (.iload_n 2, 1) := by decide +kernel
theorem dX3_flush_151 : decode cX3_flush 151 = .ok (.ireturn, 1) := by decide +kernel
theorem dX3_page_0 : decode cX3_page 0 = .ok (.aload_n 0, 1) := by decide +kernel
theorem dX3_page_1 : decode cX3_page 1 = .ok (.iconst 0, 1) := by decide +kernel
theorem dX3_page_2 : decode cX3_page 2 = .ok (.putfield 45, 3) := by decide +kernel
theorem dX3_page_5 : decode cX3_page 5 = .ok (.aload_n 0, 1) := by decide +kernel
theorem dX3_page_6 : decode cX3_page 6 = .ok (.iload_n 1, 1) := by decide +kernel
theorem dX3_page_7 : decode cX3_page 7 = .ok (.iload_n 2, 1) := by decide +kernel
theorem dX3_page_8 : decode cX3_page 8 = .ok (.invokevirtual 88, 3) := by decide +kernel
theorem dX3_page_11 : decode cX3_page 11 = .ok (.ifCond .eq 12, 3) := by decide +kernel
theorem dX3_page_14 : decode cX3_page 14 = .ok (.iload_n 3, 1) := by decide +kernel
theorem dX3_page_15 : decode cX3_page 15 = .ok (.ifCond .lt 8, 3) := by decide +kernel
theorem dX3_page_18 : decode cX3_page 18 = .ok (.iload_n 3, 1) := by decide +kernel
theorem dX3_page_19 : decode cX3_page 19 = .ok (.iconst 3, 1) := by decide +kernel
theorem dX3_page_20 : decode cX3_page 20 = .ok (.if_icmp .le 5, 3) := by decide +kernel
theorem dX3_page_23 : decode cX3_page 23 = .ok (.iconst (-1), 1) := by decide +kernel
theorem dX3_page_24 : decode cX3_page 24 = .ok (.ireturn, 1) := by decide +kernel
theorem dX3_page_25 : decode cX3_page 25 = .ok (.aload_n 0, 1) := by decide +kernel
theorem dX3_page_26 : decode cX3_page 26 = .ok (.getfield 13, 3) := by decide +kernel
theorem dX3_page_29 : decode cX3_page 29 = .ok (.bipush 32, 2) := by decide +kernel
theorem dX3_page_31 : decode cX3_page 31 = .ok (.iload_n 1, 1) := by decide +kernel
theorem dX3_page_32 : decode cX3_page 32 = .ok (.imul, 1) := by decide +kernel
theorem dX3_page_33 : decode cX3_page 33 = .ok (.iload_n 2, 1) := by decide +kernel
theorem dX3_page_34 : decode cX3_page 34 = .ok (.iadd, 1) := by decide +kernel
theorem dX3_page_35 : decode cX3_page 35 = .ok (.iaload, 1) := by decide +kernel
theorem dX3_page_36 : decode cX3_page 36 = .ok (.istore 4, 2) := by decide +kernel
theorem dX3_page_38 : decode cX3_page 38 = .ok (.iload 4, 2) := by decide +kernel
theorem dX3_page_40 : decode cX3_page 40 = .ok (.iconst (-1), 1) := by decide +kernel
theorem dX3_page_41 : decode cX3_page 41 = .ok (.if_icmp .ne 14, 3) := by decide +kernel
theorem dX3_page_44 : decode cX3_page 44 = .ok (.iload_n 3, 1) := by decide +kernel
theorem dX3_page_45 : decode cX3_page 45 = .ok (.iconst 2, 1) := by decide +kernel
theorem dX3_page_46 : decode cX3_page 46 = .ok (.if_icmp .ge 7, 3) := by decide +kernel
theorem dX3_page_49 : decode cX3_page 49 = .ok (.iconst (-1), 1) := by decide +kernel
theorem dX3_page_50 : decode cX3_page 50 = .ok (.goto 4, 3) := by decide +kernel
theorem dX3_page_53 : decode cX3_page 53 = .ok (.iconst 0, 1) := by decide +kernel
theorem dX3_page_54 : decode cX3_page 54 = .ok (.ireturn, 1) := by decide +kernel
theorem dX3_page_55 : decode cX3_page 55 = .ok (.iload_n 3, 1) := by decide +kernel
theorem dX3_page_56 : decode cX3_page 56 = .ok (.ifCond .ne 13, 3) := by decide +kernel
theorem dX3_page_59 : decode cX3_page 59 = .ok (.aload_n 0, 1) := by decide +kernel
theorem dX3_page_60 : decode cX3_page 60 = .ok (.getfield 20, 3) := by decide +kernel
theorem dX3_page_63 : decode cX3_page 63 = .ok (.iload 4, 2) := by decide +kernel
theorem dX3_page_65 : decode cX3_page 65 = .ok (.iaload, 1) := by decide +kernel
theorem dX3_page_66 : decode cX3_page 66 = .ok (.goto 58, 3) := by decide +kernel
theorem dX3_page_69 : decode cX3_page 69 = .ok (.iload_n 3, 1) := by decide +kernel
theorem dX3_page_70 : decode cX3_page 70 = .ok (.iconst 1, 1) := by decide +kernel
theorem dX3_page_71 : decode cX3_page 71 = .ok (.if_icmp .ne 13, 3) := by decide +kernel
theorem dX3_page_74 : decode cX3_page 74 = .ok (.aload_n 0, 1) := by decide +kernel
theorem dX3_page_75 : decode cX3_page 75 = .ok (.getfield 23, 3) := by decide +kernel
theorem dX3_page_78 : decode cX3_page 78 = .ok (.iload 4, 2) := by decide +kernel
theorem dX3_page_80 : decode cX3_page 80 = .ok (.iaload, 1) := by decide +kernel
theorem dX3_page_81 : decode cX3_page 81 = .ok (.goto 43, 3) := by decide +kernel
theorem dX3_page_84 : decode cX3_page 84 = .ok (.iload_n 3, 1) := by decide +kernel
theorem dX3_page_85 : decode cX3_page 85 = .ok (.iconst 2, 1) := by decide +kernel
theorem dX3_page_86 : decode cX3_page 86 = .ok (.if_icmp .ne 12, 3) := by decide +kernel
theorem dX3_page_89 : decode cX3_page 89 = .ok (.aload_n 0, 1) := by decide +kernel
theorem dX3_page_90 : decode cX3_page 90 = .ok (.iload 4, 2) := by decide +kernel
theorem dX3_page_92 : decode cX3_page 92 = .ok (.invokevirtual 59, 3) := by decide +kernel
theorem dX3_page_95 : decode cX3_page 95 = .ok (.goto 29, 3) := by decide +kernel
theorem dX3_page_98 : decode cX3_page 98 = .ok (.aload_n 0, 1) := by decide +kernel
theorem dX3_page_99 : decode cX3_page 99 = .ok (.getfield 20, 3) := by decide +kernel
theorem dX3_page_102 : decode cX3_page 102 = .ok (.iload 4, 2) := by decide +kernel
theorem dX3_page_104 : decode cX3_page 104 = .ok (.iaload, 1) := by decide +kernel
theorem dX3_page_105 : decode cX3_page 105 = .ok (.iconst (-1), 1) := by decide +kernel
theorem dX3_page_106 : decode cX3_page 106 = .ok (.if_icmp .eq 17, 3) := by decide +kernel
theorem dX3_page_109 : decode cX3_page 109 = .ok (.aload_n 0, 1) := by decide +kernel
theorem dX3_page_110 : decode cX3_page 110 = .ok (.getfield 26, 3) := by decide +kernel
theorem dX3_page_113 : decode cX3_page 113 = .ok (.iload 4, 2) := by decide +kernel
theorem dX3_page_115 : decode cX3_page 115 = .ok (.baload, 1) := by decide +kernel
theorem dX3_page_116 : decode cX3_page 116 = .ok (.ifCond .eq 7, 3) := by decide +kernel
theorem dX3_page_119 : decode cX3_page 119 = .ok (.iconst 1, 1) := by decide +kernel
theorem dX3_page_120 : decode cX3_page 120 = .ok (.goto 4, 3) := by decide +kernel
theorem dX3_page_123 : decode cX3_page 123 = .ok (.iconst 0, 1) := by decide +kernel
theorem dX3_page_124 : decode cX3_page 124 = .ok (.ireturn, 1) := by decide +kernel
theorem dX3_frame_0 : decode cX3_frame 0 = .ok (.aload_n 0, 1) := by decide +kernel
theorem dX3_frame_1 : decode cX3_frame 1 = .ok (.iconst 0, 1) := by decide +kernel
theorem dX3_frame_2 : decode cX3_frame 2 = .ok (.putfield 45, 3) := by decide +kernel
theorem dX3_frame_5 : decode cX3_frame 5 = .ok (.iload_n 1, 1) := by decide +kernel
theorem dX3_frame_6 : decode cX3_frame 6 = .ok (.ifCond .lt 11, 3) := by decide +kernel
theorem dX3_frame_9 : decode cX3_frame 9 = .ok (.iload_n 1, 1) := by decide +kernel
theorem dX3_frame_10 : decode cX3_frame 10 = .ok (.aload_n 0, 1) := by decide +kernel
theorem dX3_frame_11 : decode cX3_frame 11 = .ok (.getfield 38, 3) := by decide +kernel
theorem dX3_frame_14 : decode cX3_frame 14 = .ok (.if_icmp .lt 5, 3) := by decide +kernel
theorem dX3_frame_17 : decode cX3_frame 17 = .ok (.iconst (-1), 1) := by decide +kernel
theorem dX3_frame_18 : decode cX3_frame 18 = .ok (.ireturn, 1) := by decide +kernel
theorem dX3_frame_19 : decode cX3_frame 19 = .ok (.aload_n 0, 1) := by decide +kernel
theorem dX3_frame_20 : decode cX3_frame 20 = .ok (.iload_n 1, 1) := by decide +kernel
theorem dX3_frame_21 : decode cX3_frame 21 = .ok (.invokevirtual 52, 3) := by decide +kernel
theorem dX3_frame_24 : decode cX3_frame 24 = .ok (.istore_n 3, 1) := by decide +kernel
theorem dX3_frame_25 : decode cX3_frame 25 = .ok (.iload_n 2, 1) := by decide +kernel
theorem dX3_frame_26 : decode cX3_frame 26 = .ok (.bipush 16, 2) := by decide +kernel
theorem dX3_frame_28 : decode cX3_frame 28 = .ok (.if_icmp .lt 24, 3) := by decide +kernel
theorem dX3_frame_31 : decode cX3_frame 31 = .ok (.iload_n 2, 1) := by decide +kernel
theorem dX3_frame_32 : decode cX3_frame 32 = .ok (.bipush 32, 2) := by decide +kernel
theorem dX3_frame_34 : decode cX3_frame 34 = .ok (.if_icmp .ge 18, 3) := by decide +kernel
theorem dX3_frame_37 : decode cX3_frame 37 = .ok (.aload_n 0, 1) := by decide +kernel
theorem dX3_frame_38 : decode cX3_frame 38 = .ok (.getfield 29, 3) := by decide +kernel
theorem dX3_frame_41 : decode cX3_frame 41 = .ok (.bipush 16, 2) := by decide +kernel
theorem dX3_frame_43 : decode cX3_frame 43 = .ok (.iload_n 1, 1) := by decide +kernel
theorem dX3_frame_44 : decode cX3_frame 44 = .ok (.imul, 1) := by decide +kernel
theorem dX3_frame_45 : decode cX3_frame 45 = .ok (.iload_n 2, 1) := by decide +kernel
theorem dX3_frame_46 : decode cX3_frame 46 = .ok (.iadd, 1) := by decide +kernel
theorem dX3_frame_47 : decode cX3_frame 47 = .ok (.bipush 16, 2) := by decide +kernel
theorem dX3_frame_49 : decode cX3_frame 49 = .ok (.isub, 1) := by decide +kernel
theorem dX3_frame_50 : decode cX3_frame 50 = .ok (.iaload, 1) := by decide +kernel
theorem dX3_frame_51 : decode cX3_frame 51 = .ok (.ireturn, 1) := by decide +kernel
theorem dX3_frame_52 : decode cX3_frame 52 = .ok (.iload_n 2, 1) := by decide +kernel
theorem dX3_frame_53 : decode cX3_frame 53 = .ok (.ifCond .ne 23, 3) := by decide +kernel
theorem dX3_frame_56 : decode cX3_frame 56 = .ok (.iload_n 3, 1) := by decide +kernel
theorem dX3_frame_57 : decode cX3_frame 57 = .ok (.iconst (-1), 1) := by decide +kernel
theorem dX3_frame_58 : decode cX3_frame 58 = .ok (.if_icmp .eq 16, 3) := by decide +kernel
theorem dX3_frame_61 : decode cX3_frame 61 = .ok (.aload_n 0, 1) := by decide +kernel
theorem dX3_frame_62 : decode cX3_frame 62 = .ok (.getfield 35, 3) := by decide +kernel
theorem dX3_frame_65 : decode cX3_frame 65 = .ok (.iload_n 1, 1) := by decide +kernel
theorem dX3_frame_66 : decode cX3_frame 66 = .ok (.baload, 1) := by decide +kernel
theorem dX3_frame_67 : decode cX3_frame 67 = .ok (.ifCond .eq 7, 3) := by decide +kernel
theorem dX3_frame_70 : decode cX3_frame 70 = .ok (.iconst 1, 1) := by decide +kernel
theorem dX3_frame_71 : decode cX3_frame 71 = .ok (.goto 4, 3) := by decide +kernel
theorem dX3_frame_74 : decode cX3_frame 74 = .ok (.iconst 0, 1) := by decide +kernel
theorem dX3_frame_75 : decode cX3_frame 75 = .ok (.ireturn, 1) := by decide +kernel
theorem dX3_frame_76 : decode cX3_frame 76 = .ok (.iload_n 3, 1) := by decide +kernel
theorem dX3_frame_77 : decode cX3_frame 77 = .ok (.iconst (-1), 1) := by decide +kernel
theorem dX3_frame_78 : decode cX3_frame 78 = .ok (.if_icmp .eq 12, 3) := by decide +kernel
theorem dX3_frame_81 : decode cX3_frame 81 = .ok (.iload_n 2, 1) := by decide +kernel
theorem dX3_frame_82 : decode cX3_frame 82 = .ok (.ifCond .lt 8, 3) := by decide +kernel
theorem dX3_frame_85 : decode cX3_frame 85 = .ok (.iload_n 2, 1) := by decide +kernel
theorem dX3_frame_86 : decode cX3_frame 86 = .ok (.iconst 2, 1) := by decide +kernel
theorem dX3_frame_87 : decode cX3_frame 87 = .ok (.if_icmp .le 5, 3) := by decide +kernel
theorem dX3_frame_90 : decode cX3_frame 90 = .ok (.iconst (-1), 1) := by decide +kernel
theorem dX3_frame_91 : decode cX3_frame 91 = .ok (.ireturn, 1) := by decide +kernel
theorem dX3_frame_92 : decode cX3_frame 92 = .ok (.iconst 0, 1) := by decide +kernel
theorem dX3_frame_93 : decode cX3_frame 93 = .ok (.istore 4, 2) := by decide +kernel
theorem dX3_frame_95 : decode cX3_frame 95 = .ok (.aload_n 0, 1) := by decide +kernel
theorem dX3_frame_96 : decode cX3_frame 96 = .ok (.getfield 13, 3) := by decide +kernel
theorem dX3_frame_99 : decode cX3_frame 99 = .ok (.iload 4, 2) := by decide +kernel
theorem dX3_frame_101 : decode cX3_frame 101 = .ok (.iaload, 1) := by decide +kernel
theorem dX3_frame_102 : decode cX3_frame 102 = .ok (.iload_n 3, 1) := by decide +kernel
theorem dX3_frame_103 : decode cX3_frame 103 = .ok (.if_icmp .eq 9, 3) := by decide +kernel
theorem dX3_frame_106 : decode cX3_frame 106 = .ok (.iinc 4 1, 3) := by decide +kernel
theorem dX3_frame_109 : decode cX3_frame 109 = .ok (.goto (-14), 3) := by decide +kernel
theorem dX3_frame_112 : decode cX3_frame 112 = .ok (.iload_n 2, 1) := by decide +kernel
theorem dX3_frame_113 : decode cX3_frame 113 = .ok (.iconst 1, 1) := by decide +kernel
theorem dX3_frame_114 : decode cX3_frame 114 = .ok (.if_icmp .ne 11, 3) := by decide +kernel
theorem dX3_frame_117 : decode cX3_frame 117 = .ok (.iload 4, 2) := by decide +kernel
theorem dX3_frame_119 : decode cX3_frame 119 = .ok (.bipush 32, 2) := by decide +kernel
theorem dX3_frame_121 : decode cX3_frame 121 = .ok (.idiv, 1) := by decide +kernel
theorem dX3_frame_122 : decode cX3_frame 122 = .ok (.goto 8, 3) := by decide +kernel
theorem dX3_frame_125 : decode cX3_frame 125 = .ok (.iload 4, 2) := by decide +kernel
theorem dX3_frame_127 : decode cX3_frame 127 = .ok (.bipush 32, 2) := by decide +kernel
theorem dX3_frame_129 : decode cX3_frame 129 = .ok (.irem, 1) := by decide +kernel
theorem dX3_frame_130 : decode cX3_frame 130 = .ok (.ireturn, 1) := by decide +kernel
theorem dX3_stored_0 : decode cX3_stored 0 = .ok (.aload_n 0, 1) := by decide +kernel
theorem dX3_stored_1 : decode cX3_stored 1 = .ok (.iload_n 1, 1) := by decide +kernel
theorem dX3_stored_2 : decode cX3_stored 2 = .ok (.ifCond .lt 21, 3) := by decide +kernel
theorem dX3_stored_5 : decode cX3_stored 5 = .ok (.iload_n 1, 1) := by decide +kernel
theorem dX3_stored_6 : decode cX3_stored 6 = .ok (.aload_n 0, 1) := by decide +kernel
theorem dX3_stored_7 : decode cX3_stored 7 = .ok (.getfield 42, 3) := by decide +kernel
theorem dX3_stored_10 : decode cX3_stored 10 = .ok (.if_icmp .ge 13, 3) := by decide +kernel
theorem dX3_stored_13 : decode cX3_stored 13 = .ok (.iload_n 2, 1) := by decide +kernel
theorem dX3_stored_14 : decode cX3_stored 14 = .ok (.ifCond .lt 9, 3) := by decide +kernel
theorem dX3_stored_17 : decode cX3_stored 17 = .ok (.iload_n 2, 1) := by decide +kernel
theorem dX3_stored_18 : decode cX3_stored 18 = .ok (.bipush 15, 2) := by decide +kernel
theorem dX3_stored_20 : decode cX3_stored 20 = .ok (.if_icmp .le 7, 3) := by decide +kernel
theorem dX3_stored_23 : decode cX3_stored 23 = .ok (.iconst 1, 1) := by decide +kernel
theorem dX3_stored_24 : decode cX3_stored 24 = .ok (.goto 4, 3) := by decide +kernel
theorem dX3_stored_27 : decode cX3_stored 27 = .ok (.iconst 0, 1) := by decide +kernel
theorem dX3_stored_28 : decode cX3_stored 28 = .ok (.putfield 45, 3) := by decide +kernel
theorem dX3_stored_31 : decode cX3_stored 31 = .ok (.aload_n 0, 1) := by decide +kernel
theorem dX3_stored_32 : decode cX3_stored 32 = .ok (.getfield 45, 3) := by decide +kernel
theorem dX3_stored_35 : decode cX3_stored 35 = .ok (.ifCond .le 7, 3) := by decide +kernel
theorem dX3_stored_38 : decode cX3_stored 38 = .ok (.iconst 0, 1) := by decide +kernel
theorem dX3_stored_39 : decode cX3_stored 39 = .ok (.goto 14, 3) := by decide +kernel
theorem dX3_stored_42 : decode cX3_stored 42 = .ok (.aload_n 0, 1) := by decide +kernel
theorem dX3_stored_43 : decode cX3_stored 43 = .ok (.getfield 32, 3) := by decide +kernel
theorem dX3_stored_46 : decode cX3_stored 46 = .ok (.bipush 16, 2) := by decide +kernel
theorem dX3_stored_48 : decode cX3_stored 48 = .ok (.iload_n 1, 1) := by decide +kernel
theorem dX3_stored_49 : decode cX3_stored 49 = .ok (.imul, 1) := by decide +kernel
theorem dX3_stored_50 : decode cX3_stored 50 = .ok (.iload_n 2, 1) := by decide +kernel
theorem dX3_stored_51 : decode cX3_stored 51 = .ok (.iadd, 1) := by decide +kernel
theorem dX3_stored_52 : decode cX3_stored 52 = .ok (.iaload, 1) := by decide +kernel
theorem dX3_stored_53 : decode cX3_stored 53 = .ok (.ireturn, 1) := by decide +kernel
theorem dX3_look_0 : decode cX3_look 0 = .ok (.aload_n 0, 1) := by decide +kernel
theorem dX3_look_1 : decode cX3_look 1 = .ok (.iconst 0, 1) := by decide +kernel
theorem dX3_look_2 : decode cX3_look 2 = .ok (.putfield 45, 3) := by decide +kernel
theorem dX3_look_5 : decode cX3_look 5 = .ok (.iconst 0, 1) := by decide +kernel
theorem dX3_look_6 : decode cX3_look 6 = .ok (.istore_n 2, 1) := by decide +kernel
theorem dX3_look_7 : decode cX3_look 7 = .ok (.iload_n 1, 1) := by decide +kernel
theorem dX3_look_8 : decode cX3_look 8 = .ok (.tableswitch 220 0 10 #[60, 93, 98, 103, 108, 142, 195, 200, 205, 210, 215], 60) := by decide +kernel
theorem dX3_look_68 : decode cX3_look 68 = .ok (.iconst 0, 1) := by decide +kernel
theorem dX3_look_69 : decode cX3_look 69 = .ok (.istore_n 3, 1) := by decide +kernel
theorem dX3_look_70 : decode cX3_look 70 = .ok (.iload_n 3, 1) := by decide +kernel
theorem dX3_look_71 : decode cX3_look 71 = .ok (.bipush 8, 2) := by decide +kernel
theorem dX3_look_73 : decode cX3_look 73 = .ok (.if_icmp .ge 26, 3) := by decide +kernel
theorem dX3_look_76 : decode cX3_look 76 = .ok (.iload_n 2, 1) := by decide +kernel
theorem dX3_look_77 : decode cX3_look 77 = .ok (.aload_n 0, 1) := by decide +kernel
theorem dX3_look_78 : decode cX3_look 78 = .ok (.getfield 7, 3) := by decide +kernel
theorem dX3_look_81 : decode cX3_look 81 = .ok (.iload_n 3, 1) := by decide +kernel
theorem dX3_look_82 : decode cX3_look 82 = .ok (.iaload, 1) := by decide +kernel
theorem dX3_look_83 : decode cX3_look 83 = .ok (.ifCond .le 7, 3) := by decide +kernel
theorem dX3_look_86 : decode cX3_look 86 = .ok (.iconst 1, 1) := by decide +kernel
theorem dX3_look_87 : decode cX3_look 87 = .ok (.goto 4, 3) := by decide +kernel
theorem dX3_look_90 : decode cX3_look 90 = .ok (.iconst 0, 1) := by decide +kernel
theorem dX3_look_91 : decode cX3_look 91 = .ok (.iadd, 1) := by decide +kernel
theorem dX3_look_92 : decode cX3_look 92 = .ok (.istore_n 2, 1) := by decide +kernel
theorem dX3_look_93 : decode cX3_look 93 = .ok (.iinc 3 1, 3) := by decide +kernel
theorem dX3_look_96 : decode cX3_look 96 = .ok (.goto (-26), 3) := by decide +kernel
theorem dX3_look_99 : decode cX3_look 99 = .ok (.iload_n 2, 1) := by decide +kernel
theorem dX3_look_100 : decode cX3_look 100 = .ok (.ireturn, 1) := by decide +kernel
theorem dX3_look_101 : decode cX3_look 101 = .ok (.aload_n 0, 1) := by decide +kernel
theorem dX3_look_102 : decode cX3_look 102 = .ok (.invokevirtual 92, 3) := by decide +kernel
theorem dX3_look_105 : decode cX3_look 105 = .ok (.ireturn, 1) := by decide +kernel
theorem dX3_look_106 : decode cX3_look 106 = .ok (.aload_n 0, 1) := by decide +kernel
theorem dX3_look_107 : decode cX3_look 107 = .ok (.invokevirtual 95, 3) := by decide +kernel
theorem dX3_look_110 : decode cX3_look 110 = .ok (.ireturn, 1) := by decide +kernel
theorem dX3_look_111 : decode cX3_look 111 = .ok (.aload_n 0, 1) := by decide +kernel
theorem dX3_look_112 : decode cX3_look 112 = .ok (.getfield 68, 3) := by decide +kernel
theorem dX3_look_115 : decode cX3_look 115 = .ok (.ireturn, 1) := by decide +kernel
theorem dX3_look_116 : decode cX3_look 116 = .ok (.iconst 0, 1) := by decide +kernel
theorem dX3_look_117 : decode cX3_look 117 = .ok (.istore_n 3, 1) := by decide +kernel
theorem dX3_look_118 : decode cX3_look 118 = .ok (.iload_n 3, 1) := by decide +kernel
theorem dX3_look_119 : decode cX3_look 119 = .ok (.sipush 300, 3) := by decide +kernel
theorem dX3_look_122 : decode cX3_look 122 = .ok (.if_icmp .ge 26, 3) := by decide +kernel
theorem dX3_look_125 : decode cX3_look 125 = .ok (.iload_n 2, 1) := by decide +kernel
theorem dX3_look_126 : decode cX3_look 126 = .ok (.aload_n 0, 1) := by decide +kernel
theorem dX3_look_127 : decode cX3_look 127 = .ok (.getfield 16, 3) := by decide +kernel
theorem dX3_look_130 : decode cX3_look 130 = .ok (.iload_n 3, 1) := by decide +kernel
theorem dX3_look_131 : decode cX3_look 131 = .ok (.baload, 1) := by decide +kernel
theorem dX3_look_132 : decode cX3_look 132 = .ok (.ifCond .eq 7, 3) := by decide +kernel
theorem dX3_look_135 : decode cX3_look 135 = .ok (.iconst 1, 1) := by decide +kernel
theorem dX3_look_136 : decode cX3_look 136 = .ok (.goto 4, 3) := by decide +kernel
theorem dX3_look_139 : decode cX3_look 139 = .ok (.iconst 0, 1) := by decide +kernel
theorem dX3_look_140 : decode cX3_look 140 = .ok (.iadd, 1) := by decide +kernel
theorem dX3_look_141 : decode cX3_look 141 = .ok (.istore_n 2, 1) := by decide +kernel
theorem dX3_look_142 : decode cX3_look 142 = .ok (.iinc 3 1, 3) := by decide +kernel
theorem dX3_look_145 : decode cX3_look 145 = .ok (.goto (-27), 3) := by decide +kernel
theorem dX3_look_148 : decode cX3_look 148 = .ok (.iload_n 2, 1) := by decide +kernel
theorem dX3_look_149 : decode cX3_look 149 = .ok (.ireturn, 1) := by decide +kernel
theorem dX3_look_150 : decode cX3_look 150 = .ok (.iconst 0, 1) := by decide +kernel
theorem dX3_look_151 : decode cX3_look 151 = .ok (.istore_n 3, 1) := by decide +kernel
theorem dX3_look_152 : decode cX3_look 152 = .ok (.iload_n 3, 1) := by decide +kernel
theorem dX3_look_153 : decode cX3_look 153 = .ok (.sipush 300, 3) := by decide +kernel
theorem dX3_look_156 : decode cX3_look 156 = .ok (.if_icmp .ge 45, 3) := by decide +kernel
theorem dX3_look_159 : decode cX3_look 159 = .ok (.iload_n 2, 1) := by decide +kernel
theorem dX3_look_160 : decode cX3_look 160 = .ok (.aload_n 0, 1) := by decide +kernel
theorem dX3_look_161 : decode cX3_look 161 = .ok (.getfield 16, 3) := by decide +kernel
theorem dX3_look_164 : decode cX3_look 164 = .ok (.iload_n 3, 1) := by decide +kernel
theorem dX3_look_165 : decode cX3_look 165 = .ok (.baload, 1) := by decide +kernel
theorem dX3_look_166 : decode cX3_look 166 = .ok (.ifCond .eq 26, 3) := by decide +kernel
theorem dX3_look_169 : decode cX3_look 169 = .ok (.aload_n 0, 1) := by decide +kernel
theorem dX3_look_170 : decode cX3_look 170 = .ok (.getfield 20, 3) := by decide +kernel
theorem dX3_look_173 : decode cX3_look 173 = .ok (.iload_n 3, 1) := by decide +kernel
theorem dX3_look_174 : decode cX3_look 174 = .ok (.iaload, 1) := by decide +kernel
theorem dX3_look_175 : decode cX3_look 175 = .ok (.iconst (-1), 1) := by decide +kernel
theorem dX3_look_176 : decode cX3_look 176 = .ok (.if_icmp .eq 16, 3) := by decide +kernel
theorem dX3_look_179 : decode cX3_look 179 = .ok (.aload_n 0, 1) := by decide +kernel
theorem dX3_look_180 : decode cX3_look 180 = .ok (.getfield 26, 3) := by decide +kernel
theorem dX3_look_183 : decode cX3_look 183 = .ok (.iload_n 3, 1) := by decide +kernel
theorem dX3_look_184 : decode cX3_look 184 = .ok (.baload, 1) := by decide +kernel
theorem dX3_look_185 : decode cX3_look 185 = .ok (.ifCond .eq 7, 3) := by decide +kernel
theorem dX3_look_188 : decode cX3_look 188 = .ok (.iconst 1, 1) := by decide +kernel
theorem dX3_look_189 : decode cX3_look 189 = .ok (.goto 4, 3) := by decide +kernel
theorem dX3_look_192 : decode cX3_look 192 = .ok (.iconst 0, 1) := by decide +kernel
theorem dX3_look_193 : decode cX3_look 193 = .ok (.iadd, 1) := by decide +kernel
theorem dX3_look_194 : decode cX3_look 194 = .ok (.istore_n 2, 1) := by decide +kernel
theorem dX3_look_195 : decode cX3_look 195 = .ok (.iinc 3 1, 3) := by decide +kernel
theorem dX3_look_198 : decode cX3_look 198 = .ok (.goto (-46), 3) := by decide +kernel
theorem dX3_look_201 : decode cX3_look 201 = .ok (.iload_n 2, 1) := by decide +kernel
theorem dX3_look_202 : decode cX3_look 202 = .ok (.ireturn, 1) := by decide +kernel
theorem dX3_look_203 : decode cX3_look 203 = .ok (.aload_n 0, 1) := by decide +kernel
theorem dX3_look_204 : decode cX3_look 204 = .ok (.getfield 102, 3) := by decide +kernel
theorem dX3_look_207 : decode cX3_look 207 = .ok (.ireturn, 1) := by decide +kernel
theorem dX3_look_208 : decode cX3_look 208 = .ok (.aload_n 0, 1) := by decide +kernel
theorem dX3_look_209 : decode cX3_look 209 = .ok (.getfield 65, 3) := by decide +kernel
theorem dX3_look_212 : decode cX3_look 212 = .ok (.ireturn, 1) := by decide +kernel
theorem dX3_look_213 : decode cX3_look 213 = .ok (.aload_n 0, 1) := by decide +kernel
theorem dX3_look_214 : decode cX3_look 214 = .ok (.getfield 78, 3) := by decide +kernel
theorem dX3_look_217 : decode cX3_look 217 = .ok (.ireturn, 1) := by decide +kernel
theorem dX3_look_218 : decode cX3_look 218 = .ok (.aload_n 0, 1) := by decide +kernel
theorem dX3_look_219 : decode cX3_look 219 = .ok (.getfield 62, 3) := by decide +kernel
theorem dX3_look_222 : decode cX3_look 222 = .ok (.ireturn, 1) := by decide +kernel
theorem dX3_look_223 : decode cX3_look 223 = .ok (.aload_n 0, 1) := by decide +kernel
theorem dX3_look_224 : decode cX3_look 224 = .ok (.getfield 111, 3) := by decide +kernel
theorem dX3_look_227 : decode cX3_look 227 = .ok (.ireturn, 1) := by decide +kernel
theorem dX3_look_228 : decode cX3_look 228 = .ok (.iconst (-1), 1) := by decide +kernel
theorem dX3_look_229 : decode cX3_look 229 = .ok (.ireturn, 1) := by decide +kernel
theorem dJ7_rangeCheck_23922_0 : decode cJ7_rangeCheck_23922 0 = .ok (.iload_n 1, 1) := by decide +kernel
theorem dJ7_rangeCheck_23922_1 : decode cJ7_rangeCheck_23922 1 = .ok (.iload_n 2, 1) := by decide +kernel
theorem dJ7_rangeCheck_23922_2 : decode cJ7_rangeCheck_23922 2 = .ok (.if_icmp .le 44, 3) := by decide +kernel
theorem dJ7_rangeCheck_23922_5 : decode cJ7_rangeCheck_23922 5 = .ok (.new 43, 3) := by decide +kernel
theorem dJ7_rangeCheck_23922_8 : decode cJ7_rangeCheck_23922 8 = .ok (.dup, 1) := by decide +kernel
theorem dJ7_rangeCheck_23922_9 : decode cJ7_rangeCheck_23922 9 = .ok (.new 45, 3) := by decide +kernel
theorem dJ7_rangeCheck_23922_12 : decode cJ7_rangeCheck_23922 12 = .ok (.dup, 1) := by decide +kernel
theorem dJ7_rangeCheck_23922_13 : decode cJ7_rangeCheck_23922 13 = .ok (.invokespecial 47, 3) := by decide +kernel
theorem dJ7_rangeCheck_23922_16 : decode cJ7_rangeCheck_23922 16 = .ok (.ldc 48, 2) := by decide +kernel
theorem dJ7_rangeCheck_23922_18 : decode cJ7_rangeCheck_23922 18 = .ok (.invokevirtual 50, 3) := by decide +kernel
theorem dJ7_rangeCheck_23922_21 : decode cJ7_rangeCheck_23922 21 = .ok (.iload_n 1, 1) := by decide +kernel
theorem dJ7_rangeCheck_23922_22 : decode cJ7_rangeCheck_23922 22 = .ok (.invokevirtual 54, 3) := by decide +kernel
theorem dJ7_rangeCheck_23922_25 : decode cJ7_rangeCheck_23922 25 = .ok (.ldc 57, 2) := by decide +kernel
theorem dJ7_rangeCheck_23922_27 : decode cJ7_rangeCheck_23922 27 = .ok (.invokevirtual 50, 3) := by decide +kernel
theorem dJ7_rangeCheck_23922_30 : decode cJ7_rangeCheck_23922 30 = .ok (.iload_n 2, 1) := by decide +kernel
theorem dJ7_rangeCheck_23922_31 : decode cJ7_rangeCheck_23922 31 = .ok (.invokevirtual 54, 3) := by decide +kernel
theorem dJ7_rangeCheck_23922_34 : decode cJ7_rangeCheck_23922 34 = .ok (.ldc 59, 2) := by decide +kernel
theorem dJ7_rangeCheck_23922_36 : decode cJ7_rangeCheck_23922 36 = .ok (.invokevirtual 50, 3) := by decide +kernel
theorem dJ7_rangeCheck_23922_39 : decode cJ7_rangeCheck_23922 39 = .ok (.invokevirtual 61, 3) := by decide +kernel
theorem dJ7_rangeCheck_23922_42 : decode cJ7_rangeCheck_23922 42 = .ok (.invokespecial 65, 3) := by decide +kernel
theorem dJ7_rangeCheck_23922_45 : decode cJ7_rangeCheck_23922 45 = .ok (.athrow, 1) := by decide +kernel
theorem dJ7_rangeCheck_23922_46 : decode cJ7_rangeCheck_23922 46 = .ok (.iload_n 1, 1) := by decide +kernel
theorem dJ7_rangeCheck_23922_47 : decode cJ7_rangeCheck_23922 47 = .ok (.ifCond .ge 12, 3) := by decide +kernel
theorem dJ7_rangeCheck_23922_50 : decode cJ7_rangeCheck_23922 50 = .ok (.new 68, 3) := by decide +kernel
theorem dJ7_rangeCheck_23922_53 : decode cJ7_rangeCheck_23922 53 = .ok (.dup, 1) := by decide +kernel
theorem dJ7_rangeCheck_23922_54 : decode cJ7_rangeCheck_23922 54 = .ok (.iload_n 1, 1) := by decide +kernel
theorem dJ7_rangeCheck_23922_55 : decode cJ7_rangeCheck_23922 55 = .ok (.invokespecial 70, 3) := by decide +kernel
theorem dJ7_rangeCheck_23922_58 : decode cJ7_rangeCheck_23922 58 = .ok (.athrow, 1) := by decide +kernel
theorem dJ7_rangeCheck_23922_59 : decode cJ7_rangeCheck_23922 59 = .ok (.iload_n 2, 1) := by decide +kernel
theorem dJ7_rangeCheck_23922_60 : decode cJ7_rangeCheck_23922 60 = .ok (.iload_n 0, 1) := by decide +kernel
theorem dJ7_rangeCheck_23922_61 : decode cJ7_rangeCheck_23922 61 = .ok (.if_icmp .le 12, 3) := by decide +kernel
theorem dJ7_rangeCheck_23922_64 : decode cJ7_rangeCheck_23922 64 = .ok (.new 68, 3) := by decide +kernel
theorem dJ7_rangeCheck_23922_67 : decode cJ7_rangeCheck_23922 67 = .ok (.dup, 1) := by decide +kernel
theorem dJ7_rangeCheck_23922_68 : decode cJ7_rangeCheck_23922 68 = .ok (.iload_n 2, 1) := by decide +kernel
theorem dJ7_rangeCheck_23922_69 : decode cJ7_rangeCheck_23922 69 = .ok (.invokespecial 70, 3) := by decide +kernel
theorem dJ7_rangeCheck_23922_72 : decode cJ7_rangeCheck_23922 72 = .ok (.athrow, 1) := by decide +kernel
theorem dJ7_rangeCheck_23922_73 : decode cJ7_rangeCheck_23922 73 = .ok (.return_, 1) := by decide +kernel
theorem dJ7_fill_fda19_0 : decode cJ7_fill_fda19 0 = .ok (.aload_n 0, 1) := by decide +kernel
theorem dJ7_fill_fda19_1 : decode cJ7_fill_fda19 1 = .ok (.arraylength, 1) := by decide +kernel
theorem dJ7_fill_fda19_2 : decode cJ7_fill_fda19 2 = .ok (.iload_n 1, 1) := by decide +kernel
theorem dJ7_fill_fda19_3 : decode cJ7_fill_fda19 3 = .ok (.iload_n 2, 1) := by decide +kernel
theorem dJ7_fill_fda19_4 : decode cJ7_fill_fda19 4 = .ok (.invokestatic 13, 3) := by decide +kernel
theorem dJ7_fill_fda19_7 : decode cJ7_fill_fda19 7 = .ok (.iload_n 1, 1) := by decide +kernel
theorem dJ7_fill_fda19_8 : decode cJ7_fill_fda19 8 = .ok (.istore 4, 2) := by decide +kernel
theorem dJ7_fill_fda19_10 : decode cJ7_fill_fda19 10 = .ok (.iload 4, 2) := by decide +kernel
theorem dJ7_fill_fda19_12 : decode cJ7_fill_fda19 12 = .ok (.iload_n 2, 1) := by decide +kernel
theorem dJ7_fill_fda19_13 : decode cJ7_fill_fda19 13 = .ok (.if_icmp .ge 14, 3) := by decide +kernel
theorem dJ7_fill_fda19_16 : decode cJ7_fill_fda19 16 = .ok (.aload_n 0, 1) := by decide +kernel
theorem dJ7_fill_fda19_17 : decode cJ7_fill_fda19 17 = .ok (.iload 4, 2) := by decide +kernel
theorem dJ7_fill_fda19_19 : decode cJ7_fill_fda19 19 = .ok (.iload_n 3, 1) := by decide +kernel
theorem dJ7_fill_fda19_20 : decode cJ7_fill_fda19 20 = .ok (.iastore, 1) := by decide +kernel
theorem dJ7_fill_fda19_21 : decode cJ7_fill_fda19 21 = .ok (.iinc 4 1, 3) := by decide +kernel
theorem dJ7_fill_fda19_24 : decode cJ7_fill_fda19 24 = .ok (.goto (-14), 3) := by decide +kernel
theorem dJ7_fill_fda19_27 : decode cJ7_fill_fda19 27 = .ok (.return_, 1) := by decide +kernel
theorem dL_cell_0 : decode cL_cell 0 = .ok (.iload_n 1, 1) := by decide +kernel
theorem dL_cell_1 : decode cL_cell 1 = .ok (.aload_n 0, 1) := by decide +kernel
theorem dL_cell_2 : decode cL_cell 2 = .ok (.arraylength, 1) := by decide +kernel
theorem dL_cell_3 : decode cL_cell 3 = .ok (.if_icmp .ge 9, 3) := by decide +kernel
theorem dL_cell_6 : decode cL_cell 6 = .ok (.aload_n 0, 1) := by decide +kernel
theorem dL_cell_7 : decode cL_cell 7 = .ok (.iload_n 1, 1) := by decide +kernel
theorem dL_cell_8 : decode cL_cell 8 = .ok (.iaload, 1) := by decide +kernel
theorem dL_cell_9 : decode cL_cell 9 = .ok (.goto 4, 3) := by decide +kernel
theorem dL_cell_12 : decode cL_cell 12 = .ok (.iconst 0, 1) := by decide +kernel
theorem dL_cell_13 : decode cL_cell 13 = .ok (.ireturn, 1) := by decide +kernel
theorem dL_read_0 : decode cL_read 0 = .ok (.aload_n 3, 1) := by decide +kernel
theorem dL_read_1 : decode cL_read 1 = .ok (.iconst 0, 1) := by decide +kernel
theorem dL_read_2 : decode cL_read 2 = .ok (.aload_n 0, 1) := by decide +kernel
theorem dL_read_3 : decode cL_read 3 = .ok (.iload_n 1, 1) := by decide +kernel
theorem dL_read_4 : decode cL_read 4 = .ok (.iload_n 2, 1) := by decide +kernel
theorem dL_read_5 : decode cL_read 5 = .ok (.invokevirtual 7, 3) := by decide +kernel
theorem dL_read_8 : decode cL_read 8 = .ok (.i2l, 1) := by decide +kernel
theorem dL_read_9 : decode cL_read 9 = .ok (.lastore, 1) := by decide +kernel
theorem dL_read_10 : decode cL_read 10 = .ok (.goto 11, 3) := by decide +kernel
theorem dL_read_13 : decode cL_read 13 = .ok (.astore 4, 2) := by decide +kernel
theorem dL_read_15 : decode cL_read 15 = .ok (.iconst 1, 1) := by decide +kernel
theorem dL_read_16 : decode cL_read 16 = .ok (.ireturn, 1) := by decide +kernel
theorem dL_read_17 : decode cL_read 17 = .ok (.astore 4, 2) := by decide +kernel
theorem dL_read_19 : decode cL_read 19 = .ok (.iconst 2, 1) := by decide +kernel
theorem dL_read_20 : decode cL_read 20 = .ok (.ireturn, 1) := by decide +kernel
theorem dL_read_21 : decode cL_read 21 = .ok (.iconst 0, 1) := by decide +kernel
theorem dL_read_22 : decode cL_read 22 = .ok (.ireturn, 1) := by decide +kernel
theorem dL_write_0 : decode cL_write 0 = .ok (.aload 4, 2) := by decide +kernel
theorem dL_write_2 : decode cL_write 2 = .ok (.iconst 0, 1) := by decide +kernel
theorem dL_write_3 : decode cL_write 3 = .ok (.aload_n 0, 1) := by decide +kernel
theorem dL_write_4 : decode cL_write 4 = .ok (.iload_n 1, 1) := by decide +kernel
theorem dL_write_5 : decode cL_write 5 = .ok (.iload_n 2, 1) := by decide +kernel
theorem dL_write_6 : decode cL_write 6 = .ok (.iload_n 3, 1) := by decide +kernel
theorem dL_write_7 : decode cL_write 7 = .ok (.invokevirtual 17, 3) := by decide +kernel
theorem dL_write_10 : decode cL_write 10 = .ok (.i2l, 1) := by decide +kernel
theorem dL_write_11 : decode cL_write 11 = .ok (.lastore, 1) := by decide +kernel
theorem dL_write_12 : decode cL_write 12 = .ok (.goto 11, 3) := by decide +kernel
theorem dL_write_15 : decode cL_write 15 = .ok (.astore 5, 2) := by decide +kernel
theorem dL_write_17 : decode cL_write 17 = .ok (.iconst 1, 1) := by decide +kernel
theorem dL_write_18 : decode cL_write 18 = .ok (.ireturn, 1) := by decide +kernel
theorem dL_write_19 : decode cL_write 19 = .ok (.astore 5, 2) := by decide +kernel
theorem dL_write_21 : decode cL_write 21 = .ok (.iconst 2, 1) := by decide +kernel
theorem dL_write_22 : decode cL_write 22 = .ok (.ireturn, 1) := by decide +kernel
theorem dL_write_23 : decode cL_write 23 = .ok (.iconst 0, 1) := by decide +kernel
theorem dL_write_24 : decode cL_write 24 = .ok (.ireturn, 1) := by decide +kernel
theorem dL_stored_0 : decode cL_stored 0 = .ok (.aload_n 3, 1) := by decide +kernel
theorem dL_stored_1 : decode cL_stored 1 = .ok (.iconst 0, 1) := by decide +kernel
theorem dL_stored_2 : decode cL_stored 2 = .ok (.aload_n 0, 1) := by decide +kernel
theorem dL_stored_3 : decode cL_stored 3 = .ok (.iload_n 1, 1) := by decide +kernel
theorem dL_stored_4 : decode cL_stored 4 = .ok (.iload_n 2, 1) := by decide +kernel
theorem dL_stored_5 : decode cL_stored 5 = .ok (.invokevirtual 21, 3) := by decide +kernel
theorem dL_stored_8 : decode cL_stored 8 = .ok (.i2l, 1) := by decide +kernel
theorem dL_stored_9 : decode cL_stored 9 = .ok (.lastore, 1) := by decide +kernel
theorem dL_stored_10 : decode cL_stored 10 = .ok (.goto 7, 3) := by decide +kernel
theorem dL_stored_13 : decode cL_stored 13 = .ok (.astore 4, 2) := by decide +kernel
theorem dL_stored_15 : decode cL_stored 15 = .ok (.iconst 1, 1) := by decide +kernel
theorem dL_stored_16 : decode cL_stored 16 = .ok (.ireturn, 1) := by decide +kernel
theorem dL_stored_17 : decode cL_stored 17 = .ok (.iconst 0, 1) := by decide +kernel
theorem dL_stored_18 : decode cL_stored 18 = .ok (.ireturn, 1) := by decide +kernel
theorem dL_law_0 : decode cL_law 0 = .ok (.new 8, 3) := by decide +kernel
theorem dL_law_3 : decode cL_law 3 = .ok (.dup, 1) := by decide +kernel
theorem dL_law_4 : decode cL_law 4 = .ok (.aload_n 0, 1) := by decide +kernel
theorem dL_law_5 : decode cL_law 5 = .ok (.iconst 0, 1) := by decide +kernel
theorem dL_law_6 : decode cL_law 6 = .ok (.invokestatic 24, 3) := by decide +kernel
theorem dL_law_9 : decode cL_law 9 = .ok (.aload_n 0, 1) := by decide +kernel
theorem dL_law_10 : decode cL_law 10 = .ok (.iconst 1, 1) := by decide +kernel
theorem dL_law_11 : decode cL_law 11 = .ok (.invokestatic 24, 3) := by decide +kernel
theorem dL_law_14 : decode cL_law 14 = .ok (.invokespecial 30, 3) := by decide +kernel
theorem dL_law_17 : decode cL_law 17 = .ok (.astore_n 1, 1) := by decide +kernel
theorem dL_law_18 : decode cL_law 18 = .ok (.new 33, 3) := by decide +kernel
theorem dL_law_21 : decode cL_law 21 = .ok (.dup, 1) := by decide +kernel
theorem dL_law_22 : decode cL_law 22 = .ok (.aload_n 0, 1) := by decide +kernel
theorem dL_law_23 : decode cL_law 23 = .ok (.iconst 0, 1) := by decide +kernel
theorem dL_law_24 : decode cL_law 24 = .ok (.invokestatic 24, 3) := by decide +kernel
theorem dL_law_27 : decode cL_law 27 = .ok (.aload_n 0, 1) := by decide +kernel
theorem dL_law_28 : decode cL_law 28 = .ok (.iconst 1, 1) := by decide +kernel
theorem dL_law_29 : decode cL_law 29 = .ok (.invokestatic 24, 3) := by decide +kernel
theorem dL_law_32 : decode cL_law 32 = .ok (.invokespecial 35, 3) := by decide +kernel
theorem dL_law_35 : decode cL_law 35 = .ok (.astore_n 2, 1) := by decide +kernel
theorem dL_law_36 : decode cL_law 36 = .ok (.iconst 1, 1) := by decide +kernel
theorem dL_law_37 : decode cL_law 37 = .ok (.newarray .long, 2) := by decide +kernel
theorem dL_law_39 : decode cL_law 39 = .ok (.astore_n 3, 1) := by decide +kernel
theorem dL_law_40 : decode cL_law 40 = .ok (.iconst 2, 1) := by decide +kernel
theorem dL_law_41 : decode cL_law 41 = .ok (.istore 4, 2) := by decide +kernel
theorem dL_law_43 : decode cL_law 43 = .ok (.iload 4, 2) := by decide +kernel
theorem dL_law_45 : decode cL_law 45 = .ok (.aload_n 0, 1) := by decide +kernel
theorem dL_law_46 : decode cL_law 46 = .ok (.arraylength, 1) := by decide +kernel
theorem dL_law_47 : decode cL_law 47 = .ok (.iconst 4, 1) := by decide +kernel
theorem dL_law_48 : decode cL_law 48 = .ok (.isub, 1) := by decide +kernel
theorem dL_law_49 : decode cL_law 49 = .ok (.if_icmp .gt 525, 3) := by decide +kernel
theorem dL_law_52 : decode cL_law 52 = .ok (.aload_n 0, 1) := by decide +kernel
theorem dL_law_53 : decode cL_law 53 = .ok (.iload 4, 2) := by decide +kernel
theorem dL_law_55 : decode cL_law 55 = .ok (.iaload, 1) := by decide +kernel
theorem dL_law_56 : decode cL_law 56 = .ok (.bipush 15, 2) := by decide +kernel
theorem dL_law_58 : decode cL_law 58 = .ok (.iand, 1) := by decide +kernel
theorem dL_law_59 : decode cL_law 59 = .ok (.tableswitch 509 0 10 #[57, 82, 107, 132, 200, 280, 317, 330, 379, 416, 484], 57) := by decide +kernel
theorem dL_law_116 : decode cL_law 116 = .ok (.aload_n 1, 1) := by decide +kernel
theorem dL_law_117 : decode cL_law 117 = .ok (.aload_n 0, 1) := by decide +kernel
theorem dL_law_118 : decode cL_law 118 = .ok (.iload 4, 2) := by decide +kernel
theorem dL_law_120 : decode cL_law 120 = .ok (.iconst 1, 1) := by decide +kernel
theorem dL_law_121 : decode cL_law 121 = .ok (.iadd, 1) := by decide +kernel
theorem dL_law_122 : decode cL_law 122 = .ok (.iaload, 1) := by decide +kernel
theorem dL_law_123 : decode cL_law 123 = .ok (.invokevirtual 36, 3) := by decide +kernel
theorem dL_law_126 : decode cL_law 126 = .ok (.aload_n 2, 1) := by decide +kernel
theorem dL_law_127 : decode cL_law 127 = .ok (.aload_n 0, 1) := by decide +kernel
theorem dL_law_128 : decode cL_law 128 = .ok (.iload 4, 2) := by decide +kernel
theorem dL_law_130 : decode cL_law 130 = .ok (.iconst 1, 1) := by decide +kernel
theorem dL_law_131 : decode cL_law 131 = .ok (.iadd, 1) := by decide +kernel
theorem dL_law_132 : decode cL_law 132 = .ok (.iaload, 1) := by decide +kernel
theorem dL_law_133 : decode cL_law 133 = .ok (.invokevirtual 40, 3) := by decide +kernel
theorem dL_law_136 : decode cL_law 136 = .ok (.if_icmp .eq 432, 3) := by decide +kernel
theorem dL_law_139 : decode cL_law 139 = .ok (.iconst 0, 1) := by decide +kernel
theorem dL_law_140 : decode cL_law 140 = .ok (.ireturn, 1) := by decide +kernel
theorem dL_law_141 : decode cL_law 141 = .ok (.aload_n 1, 1) := by decide +kernel
theorem dL_law_142 : decode cL_law 142 = .ok (.aload_n 0, 1) := by decide +kernel
theorem dL_law_143 : decode cL_law 143 = .ok (.iload 4, 2) := by decide +kernel
theorem dL_law_145 : decode cL_law 145 = .ok (.iconst 1, 1) := by decide +kernel
theorem dL_law_146 : decode cL_law 146 = .ok (.iadd, 1) := by decide +kernel
theorem dL_law_147 : decode cL_law 147 = .ok (.iaload, 1) := by decide +kernel
theorem dL_law_148 : decode cL_law 148 = .ok (.invokevirtual 41, 3) := by decide +kernel
theorem dL_law_151 : decode cL_law 151 = .ok (.aload_n 2, 1) := by decide +kernel
theorem dL_law_152 : decode cL_law 152 = .ok (.aload_n 0, 1) := by decide +kernel
theorem dL_law_153 : decode cL_law 153 = .ok (.iload 4, 2) := by decide +kernel
theorem dL_law_155 : decode cL_law 155 = .ok (.iconst 1, 1) := by decide +kernel
theorem dL_law_156 : decode cL_law 156 = .ok (.iadd, 1) := by decide +kernel
theorem dL_law_157 : decode cL_law 157 = .ok (.iaload, 1) := by decide +kernel
theorem dL_law_158 : decode cL_law 158 = .ok (.invokevirtual 44, 3) := by decide +kernel
theorem dL_law_161 : decode cL_law 161 = .ok (.if_icmp .eq 407, 3) := by decide +kernel
theorem dL_law_164 : decode cL_law 164 = .ok (.iconst 0, 1) := by decide +kernel
theorem dL_law_165 : decode cL_law 165 = .ok (.ireturn, 1) := by decide +kernel
theorem dL_law_166 : decode cL_law 166 = .ok (.aload_n 1, 1) := by decide +kernel
theorem dL_law_167 : decode cL_law 167 = .ok (.aload_n 0, 1) := by decide +kernel
theorem dL_law_168 : decode cL_law 168 = .ok (.iload 4, 2) := by decide +kernel
theorem dL_law_170 : decode cL_law 170 = .ok (.iconst 1, 1) := by decide +kernel
theorem dL_law_171 : decode cL_law 171 = .ok (.iadd, 1) := by decide +kernel
theorem dL_law_172 : decode cL_law 172 = .ok (.iaload, 1) := by decide +kernel
theorem dL_law_173 : decode cL_law 173 = .ok (.invokevirtual 45, 3) := by decide +kernel
theorem dL_law_176 : decode cL_law 176 = .ok (.aload_n 2, 1) := by decide +kernel
theorem dL_law_177 : decode cL_law 177 = .ok (.aload_n 0, 1) := by decide +kernel
theorem dL_law_178 : decode cL_law 178 = .ok (.iload 4, 2) := by decide +kernel
theorem dL_law_180 : decode cL_law 180 = .ok (.iconst 1, 1) := by decide +kernel
theorem dL_law_181 : decode cL_law 181 = .ok (.iadd, 1) := by decide +kernel
theorem dL_law_182 : decode cL_law 182 = .ok (.iaload, 1) := by decide +kernel
theorem dL_law_183 : decode cL_law 183 = .ok (.invokevirtual 49, 3) := by decide +kernel
theorem dL_law_186 : decode cL_law 186 = .ok (.if_icmp .eq 382, 3) := by decide +kernel
theorem dL_law_189 : decode cL_law 189 = .ok (.iconst 0, 1) := by decide +kernel
theorem dL_law_190 : decode cL_law 190 = .ok (.ireturn, 1) := by decide +kernel
theorem dL_law_191 : decode cL_law 191 = .ok (.aload_n 1, 1) := by decide +kernel
theorem dL_law_192 : decode cL_law 192 = .ok (.aload_n 0, 1) := by decide +kernel
theorem dL_law_193 : decode cL_law 193 = .ok (.iload 4, 2) := by decide +kernel
theorem dL_law_195 : decode cL_law 195 = .ok (.iconst 1, 1) := by decide +kernel
theorem dL_law_196 : decode cL_law 196 = .ok (.iadd, 1) := by decide +kernel
theorem dL_law_197 : decode cL_law 197 = .ok (.iaload, 1) := by decide +kernel
theorem dL_law_198 : decode cL_law 198 = .ok (.aload_n 0, 1) := by decide +kernel
theorem dL_law_199 : decode cL_law 199 = .ok (.iload 4, 2) := by decide +kernel
theorem dL_law_201 : decode cL_law 201 = .ok (.iconst 2, 1) := by decide +kernel
theorem dL_law_202 : decode cL_law 202 = .ok (.iadd, 1) := by decide +kernel
theorem dL_law_203 : decode cL_law 203 = .ok (.iaload, 1) := by decide +kernel
theorem dL_law_204 : decode cL_law 204 = .ok (.aload_n 3, 1) := by decide +kernel
theorem dL_law_205 : decode cL_law 205 = .ok (.invokestatic 50, 3) := by decide +kernel
theorem dL_law_208 : decode cL_law 208 = .ok (.istore 5, 2) := by decide +kernel
theorem dL_law_210 : decode cL_law 210 = .ok (.aload_n 2, 1) := by decide +kernel
theorem dL_law_211 : decode cL_law 211 = .ok (.aload_n 0, 1) := by decide +kernel
theorem dL_law_212 : decode cL_law 212 = .ok (.iload 4, 2) := by decide +kernel
theorem dL_law_214 : decode cL_law 214 = .ok (.iconst 1, 1) := by decide +kernel
theorem dL_law_215 : decode cL_law 215 = .ok (.iadd, 1) := by decide +kernel
theorem dL_law_216 : decode cL_law 216 = .ok (.iaload, 1) := by decide +kernel
theorem dL_law_217 : decode cL_law 217 = .ok (.aload_n 0, 1) := by decide +kernel
theorem dL_law_218 : decode cL_law 218 = .ok (.iload 4, 2) := by decide +kernel
theorem dL_law_220 : decode cL_law 220 = .ok (.iconst 2, 1) := by decide +kernel
theorem dL_law_221 : decode cL_law 221 = .ok (.iadd, 1) := by decide +kernel
theorem dL_law_222 : decode cL_law 222 = .ok (.iaload, 1) := by decide +kernel
theorem dL_law_223 : decode cL_law 223 = .ok (.invokevirtual 53, 3) := by decide +kernel
theorem dL_law_226 : decode cL_law 226 = .ok (.istore 6, 2) := by decide +kernel
theorem dL_law_228 : decode cL_law 228 = .ok (.aload_n 2, 1) := by decide +kernel
theorem dL_law_229 : decode cL_law 229 = .ok (.invokevirtual 54, 3) := by decide +kernel
theorem dL_law_232 : decode cL_law 232 = .ok (.iload 5, 2) := by decide +kernel
theorem dL_law_234 : decode cL_law 234 = .ok (.if_icmp .eq 5, 3) := by decide +kernel
theorem dL_law_237 : decode cL_law 237 = .ok (.iconst 0, 1) := by decide +kernel
theorem dL_law_238 : decode cL_law 238 = .ok (.ireturn, 1) := by decide +kernel
theorem dL_law_239 : decode cL_law 239 = .ok (.iload 5, 2) := by decide +kernel
theorem dL_law_241 : decode cL_law 241 = .ok (.ifCond .ne 15, 3) := by decide +kernel
theorem dL_law_244 : decode cL_law 244 = .ok (.aload_n 3, 1) := by decide +kernel
theorem dL_law_245 : decode cL_law 245 = .ok (.iconst 0, 1) := by decide +kernel
theorem dL_law_246 : decode cL_law 246 = .ok (.laload, 1) := by decide +kernel
theorem dL_law_247 : decode cL_law 247 = .ok (.iload 6, 2) := by decide +kernel
theorem dL_law_249 : decode cL_law 249 = .ok (.i2l, 1) := by decide +kernel
theorem dL_law_250 : decode cL_law 250 = .ok (.lcmp, 1) := by decide +kernel
theorem dL_law_251 : decode cL_law 251 = .ok (.ifCond .eq 5, 3) := by decide +kernel
theorem dL_law_254 : decode cL_law 254 = .ok (.iconst 0, 1) := by decide +kernel
theorem dL_law_255 : decode cL_law 255 = .ok (.ireturn, 1) := by decide +kernel
theorem dL_law_256 : decode cL_law 256 = .ok (.goto 312, 3) := by decide +kernel
theorem dL_law_259 : decode cL_law 259 = .ok (.aload_n 1, 1) := by decide +kernel
theorem dL_law_260 : decode cL_law 260 = .ok (.aload_n 0, 1) := by decide +kernel
theorem dL_law_261 : decode cL_law 261 = .ok (.iload 4, 2) := by decide +kernel
theorem dL_law_263 : decode cL_law 263 = .ok (.iconst 1, 1) := by decide +kernel
theorem dL_law_264 : decode cL_law 264 = .ok (.iadd, 1) := by decide +kernel
theorem dL_law_265 : decode cL_law 265 = .ok (.iaload, 1) := by decide +kernel
theorem dL_law_266 : decode cL_law 266 = .ok (.aload_n 0, 1) := by decide +kernel
theorem dL_law_267 : decode cL_law 267 = .ok (.iload 4, 2) := by decide +kernel
theorem dL_law_269 : decode cL_law 269 = .ok (.iconst 2, 1) := by decide +kernel
theorem dL_law_270 : decode cL_law 270 = .ok (.iadd, 1) := by decide +kernel
theorem dL_law_271 : decode cL_law 271 = .ok (.iaload, 1) := by decide +kernel
theorem dL_law_272 : decode cL_law 272 = .ok (.aload_n 0, 1) := by decide +kernel
theorem dL_law_273 : decode cL_law 273 = .ok (.iload 4, 2) := by decide +kernel
theorem dL_law_275 : decode cL_law 275 = .ok (.iconst 3, 1) := by decide +kernel
theorem dL_law_276 : decode cL_law 276 = .ok (.iadd, 1) := by decide +kernel
theorem dL_law_277 : decode cL_law 277 = .ok (.iaload, 1) := by decide +kernel
theorem dL_law_278 : decode cL_law 278 = .ok (.aload_n 3, 1) := by decide +kernel
theorem dL_law_279 : decode cL_law 279 = .ok (.invokestatic 58, 3) := by decide +kernel
theorem dL_law_282 : decode cL_law 282 = .ok (.istore 5, 2) := by decide +kernel
theorem dL_law_284 : decode cL_law 284 = .ok (.aload_n 2, 1) := by decide +kernel
theorem dL_law_285 : decode cL_law 285 = .ok (.aload_n 0, 1) := by decide +kernel
theorem dL_law_286 : decode cL_law 286 = .ok (.iload 4, 2) := by decide +kernel
theorem dL_law_288 : decode cL_law 288 = .ok (.iconst 1, 1) := by decide +kernel
theorem dL_law_289 : decode cL_law 289 = .ok (.iadd, 1) := by decide +kernel
theorem dL_law_290 : decode cL_law 290 = .ok (.iaload, 1) := by decide +kernel
theorem dL_law_291 : decode cL_law 291 = .ok (.aload_n 0, 1) := by decide +kernel
theorem dL_law_292 : decode cL_law 292 = .ok (.iload 4, 2) := by decide +kernel
theorem dL_law_294 : decode cL_law 294 = .ok (.iconst 2, 1) := by decide +kernel
theorem dL_law_295 : decode cL_law 295 = .ok (.iadd, 1) := by decide +kernel
theorem dL_law_296 : decode cL_law 296 = .ok (.iaload, 1) := by decide +kernel
theorem dL_law_297 : decode cL_law 297 = .ok (.aload_n 0, 1) := by decide +kernel
theorem dL_law_298 : decode cL_law 298 = .ok (.iload 4, 2) := by decide +kernel
theorem dL_law_300 : decode cL_law 300 = .ok (.iconst 3, 1) := by decide +kernel
theorem dL_law_301 : decode cL_law 301 = .ok (.iadd, 1) := by decide +kernel
theorem dL_law_302 : decode cL_law 302 = .ok (.iaload, 1) := by decide +kernel
theorem dL_law_303 : decode cL_law 303 = .ok (.invokevirtual 61, 3) := by decide +kernel
theorem dL_law_306 : decode cL_law 306 = .ok (.istore 6, 2) := by decide +kernel
theorem dL_law_308 : decode cL_law 308 = .ok (.aload_n 2, 1) := by decide +kernel
theorem dL_law_309 : decode cL_law 309 = .ok (.invokevirtual 54, 3) := by decide +kernel
theorem dL_law_312 : decode cL_law 312 = .ok (.iload 5, 2) := by decide +kernel
theorem dL_law_314 : decode cL_law 314 = .ok (.if_icmp .eq 5, 3) := by decide +kernel
theorem dL_law_317 : decode cL_law 317 = .ok (.iconst 0, 1) := by decide +kernel
theorem dL_law_318 : decode cL_law 318 = .ok (.ireturn, 1) := by decide +kernel
theorem dL_law_319 : decode cL_law 319 = .ok (.iload 5, 2) := by decide +kernel
theorem dL_law_321 : decode cL_law 321 = .ok (.ifCond .ne 15, 3) := by decide +kernel
theorem dL_law_324 : decode cL_law 324 = .ok (.aload_n 3, 1) := by decide +kernel
theorem dL_law_325 : decode cL_law 325 = .ok (.iconst 0, 1) := by decide +kernel
theorem dL_law_326 : decode cL_law 326 = .ok (.laload, 1) := by decide +kernel
theorem dL_law_327 : decode cL_law 327 = .ok (.iload 6, 2) := by decide +kernel
theorem dL_law_329 : decode cL_law 329 = .ok (.i2l, 1) := by decide +kernel
theorem dL_law_330 : decode cL_law 330 = .ok (.lcmp, 1) := by decide +kernel
theorem dL_law_331 : decode cL_law 331 = .ok (.ifCond .eq 5, 3) := by decide +kernel
theorem dL_law_334 : decode cL_law 334 = .ok (.iconst 0, 1) := by decide +kernel
theorem dL_law_335 : decode cL_law 335 = .ok (.ireturn, 1) := by decide +kernel
theorem dL_law_336 : decode cL_law 336 = .ok (.goto 232, 3) := by decide +kernel
theorem dL_law_339 : decode cL_law 339 = .ok (.aload_n 1, 1) := by decide +kernel
theorem dL_law_340 : decode cL_law 340 = .ok (.aload_n 0, 1) := by decide +kernel
theorem dL_law_341 : decode cL_law 341 = .ok (.iload 4, 2) := by decide +kernel
theorem dL_law_343 : decode cL_law 343 = .ok (.iconst 1, 1) := by decide +kernel
theorem dL_law_344 : decode cL_law 344 = .ok (.iadd, 1) := by decide +kernel
theorem dL_law_345 : decode cL_law 345 = .ok (.iaload, 1) := by decide +kernel
theorem dL_law_346 : decode cL_law 346 = .ok (.aload_n 0, 1) := by decide +kernel
theorem dL_law_347 : decode cL_law 347 = .ok (.iload 4, 2) := by decide +kernel
theorem dL_law_349 : decode cL_law 349 = .ok (.iconst 2, 1) := by decide +kernel
theorem dL_law_350 : decode cL_law 350 = .ok (.iadd, 1) := by decide +kernel
theorem dL_law_351 : decode cL_law 351 = .ok (.iaload, 1) := by decide +kernel
theorem dL_law_352 : decode cL_law 352 = .ok (.invokevirtual 62, 3) := by decide +kernel
theorem dL_law_355 : decode cL_law 355 = .ok (.aload_n 2, 1) := by decide +kernel
theorem dL_law_356 : decode cL_law 356 = .ok (.aload_n 0, 1) := by decide +kernel
theorem dL_law_357 : decode cL_law 357 = .ok (.iload 4, 2) := by decide +kernel
theorem dL_law_359 : decode cL_law 359 = .ok (.iconst 1, 1) := by decide +kernel
theorem dL_law_360 : decode cL_law 360 = .ok (.iadd, 1) := by decide +kernel
theorem dL_law_361 : decode cL_law 361 = .ok (.iaload, 1) := by decide +kernel
theorem dL_law_362 : decode cL_law 362 = .ok (.aload_n 0, 1) := by decide +kernel
theorem dL_law_363 : decode cL_law 363 = .ok (.iload 4, 2) := by decide +kernel
theorem dL_law_365 : decode cL_law 365 = .ok (.iconst 2, 1) := by decide +kernel
theorem dL_law_366 : decode cL_law 366 = .ok (.iadd, 1) := by decide +kernel
theorem dL_law_367 : decode cL_law 367 = .ok (.iaload, 1) := by decide +kernel
theorem dL_law_368 : decode cL_law 368 = .ok (.invokevirtual 66, 3) := by decide +kernel
theorem dL_law_371 : decode cL_law 371 = .ok (.if_icmp .eq 197, 3) := by decide +kernel
theorem dL_law_374 : decode cL_law 374 = .ok (.iconst 0, 1) := by decide +kernel
theorem dL_law_375 : decode cL_law 375 = .ok (.ireturn, 1) := by decide +kernel
theorem dL_law_376 : decode cL_law 376 = .ok (.aload_n 1, 1) := by decide +kernel
theorem dL_law_377 : decode cL_law 377 = .ok (.invokevirtual 67, 3) := by decide +kernel
theorem dL_law_380 : decode cL_law 380 = .ok (.aload_n 2, 1) := by decide +kernel
theorem dL_law_381 : decode cL_law 381 = .ok (.invokevirtual 70, 3) := by decide +kernel
theorem dL_law_384 : decode cL_law 384 = .ok (.if_icmp .eq 184, 3) := by decide +kernel
theorem dL_law_387 : decode cL_law 387 = .ok (.iconst 0, 1) := by decide +kernel
theorem dL_law_388 : decode cL_law 388 = .ok (.ireturn, 1) := by decide +kernel
theorem dL_law_389 : decode cL_law 389 = .ok (.aload_n 1, 1) := by decide +kernel
theorem dL_law_390 : decode cL_law 390 = .ok (.aload_n 0, 1) := by decide +kernel
theorem dL_law_391 : decode cL_law 391 = .ok (.iload 4, 2) := by decide +kernel
theorem dL_law_393 : decode cL_law 393 = .ok (.iconst 1, 1) := by decide +kernel
theorem dL_law_394 : decode cL_law 394 = .ok (.iadd, 1) := by decide +kernel
theorem dL_law_395 : decode cL_law 395 = .ok (.iaload, 1) := by decide +kernel
theorem dL_law_396 : decode cL_law 396 = .ok (.aload_n 0, 1) := by decide +kernel
theorem dL_law_397 : decode cL_law 397 = .ok (.iload 4, 2) := by decide +kernel
theorem dL_law_399 : decode cL_law 399 = .ok (.iconst 2, 1) := by decide +kernel
theorem dL_law_400 : decode cL_law 400 = .ok (.iadd, 1) := by decide +kernel
theorem dL_law_401 : decode cL_law 401 = .ok (.iaload, 1) := by decide +kernel
theorem dL_law_402 : decode cL_law 402 = .ok (.aload_n 0, 1) := by decide +kernel
theorem dL_law_403 : decode cL_law 403 = .ok (.iload 4, 2) := by decide +kernel
theorem dL_law_405 : decode cL_law 405 = .ok (.iconst 3, 1) := by decide +kernel
theorem dL_law_406 : decode cL_law 406 = .ok (.iadd, 1) := by decide +kernel
theorem dL_law_407 : decode cL_law 407 = .ok (.iaload, 1) := by decide +kernel
theorem dL_law_408 : decode cL_law 408 = .ok (.invokevirtual 71, 3) := by decide +kernel
theorem dL_law_411 : decode cL_law 411 = .ok (.aload_n 2, 1) := by decide +kernel
theorem dL_law_412 : decode cL_law 412 = .ok (.aload_n 0, 1) := by decide +kernel
theorem dL_law_413 : decode cL_law 413 = .ok (.iload 4, 2) := by decide +kernel
theorem dL_law_415 : decode cL_law 415 = .ok (.iconst 1, 1) := by decide +kernel
theorem dL_law_416 : decode cL_law 416 = .ok (.iadd, 1) := by decide +kernel
theorem dL_law_417 : decode cL_law 417 = .ok (.iaload, 1) := by decide +kernel
theorem dL_law_418 : decode cL_law 418 = .ok (.aload_n 0, 1) := by decide +kernel
theorem dL_law_419 : decode cL_law 419 = .ok (.iload 4, 2) := by decide +kernel
theorem dL_law_421 : decode cL_law 421 = .ok (.iconst 2, 1) := by decide +kernel
theorem dL_law_422 : decode cL_law 422 = .ok (.iadd, 1) := by decide +kernel
theorem dL_law_423 : decode cL_law 423 = .ok (.iaload, 1) := by decide +kernel
theorem dL_law_424 : decode cL_law 424 = .ok (.aload_n 0, 1) := by decide +kernel
theorem dL_law_425 : decode cL_law 425 = .ok (.iload 4, 2) := by decide +kernel
theorem dL_law_427 : decode cL_law 427 = .ok (.iconst 3, 1) := by decide +kernel
theorem dL_law_428 : decode cL_law 428 = .ok (.iadd, 1) := by decide +kernel
theorem dL_law_429 : decode cL_law 429 = .ok (.iaload, 1) := by decide +kernel
theorem dL_law_430 : decode cL_law 430 = .ok (.invokevirtual 74, 3) := by decide +kernel
theorem dL_law_433 : decode cL_law 433 = .ok (.if_icmp .eq 135, 3) := by decide +kernel
theorem dL_law_436 : decode cL_law 436 = .ok (.iconst 0, 1) := by decide +kernel
theorem dL_law_437 : decode cL_law 437 = .ok (.ireturn, 1) := by decide +kernel
theorem dL_law_438 : decode cL_law 438 = .ok (.aload_n 1, 1) := by decide +kernel
theorem dL_law_439 : decode cL_law 439 = .ok (.aload_n 0, 1) := by decide +kernel
theorem dL_law_440 : decode cL_law 440 = .ok (.iload 4, 2) := by decide +kernel
theorem dL_law_442 : decode cL_law 442 = .ok (.iconst 1, 1) := by decide +kernel
theorem dL_law_443 : decode cL_law 443 = .ok (.iadd, 1) := by decide +kernel
theorem dL_law_444 : decode cL_law 444 = .ok (.iaload, 1) := by decide +kernel
theorem dL_law_445 : decode cL_law 445 = .ok (.aload_n 0, 1) := by decide +kernel
theorem dL_law_446 : decode cL_law 446 = .ok (.iload 4, 2) := by decide +kernel
theorem dL_law_448 : decode cL_law 448 = .ok (.iconst 2, 1) := by decide +kernel
theorem dL_law_449 : decode cL_law 449 = .ok (.iadd, 1) := by decide +kernel
theorem dL_law_450 : decode cL_law 450 = .ok (.iaload, 1) := by decide +kernel
theorem dL_law_451 : decode cL_law 451 = .ok (.invokevirtual 75, 3) := by decide +kernel
theorem dL_law_454 : decode cL_law 454 = .ok (.aload_n 2, 1) := by decide +kernel
theorem dL_law_455 : decode cL_law 455 = .ok (.aload_n 0, 1) := by decide +kernel
theorem dL_law_456 : decode cL_law 456 = .ok (.iload 4, 2) := by decide +kernel
theorem dL_law_458 : decode cL_law 458 = .ok (.iconst 1, 1) := by decide +kernel
theorem dL_law_459 : decode cL_law 459 = .ok (.iadd, 1) := by decide +kernel
theorem dL_law_460 : decode cL_law 460 = .ok (.iaload, 1) := by decide +kernel
theorem dL_law_461 : decode cL_law 461 = .ok (.aload_n 0, 1) := by decide +kernel
theorem dL_law_462 : decode cL_law 462 = .ok (.iload 4, 2) := by decide +kernel
theorem dL_law_464 : decode cL_law 464 = .ok (.iconst 2, 1) := by decide +kernel
theorem dL_law_465 : decode cL_law 465 = .ok (.iadd, 1) := by decide +kernel
theorem dL_law_466 : decode cL_law 466 = .ok (.iaload, 1) := by decide +kernel
theorem dL_law_467 : decode cL_law 467 = .ok (.invokevirtual 78, 3) := by decide +kernel
theorem dL_law_470 : decode cL_law 470 = .ok (.if_icmp .eq 98, 3) := by decide +kernel
theorem dL_law_473 : decode cL_law 473 = .ok (.iconst 0, 1) := by decide +kernel
theorem dL_law_474 : decode cL_law 474 = .ok (.ireturn, 1) := by decide +kernel
theorem dL_law_475 : decode cL_law 475 = .ok (.aload_n 1, 1) := by decide +kernel
theorem dL_law_476 : decode cL_law 476 = .ok (.aload_n 0, 1) := by decide +kernel
theorem dL_law_477 : decode cL_law 477 = .ok (.iload 4, 2) := by decide +kernel
theorem dL_law_479 : decode cL_law 479 = .ok (.iconst 1, 1) := by decide +kernel
theorem dL_law_480 : decode cL_law 480 = .ok (.iadd, 1) := by decide +kernel
theorem dL_law_481 : decode cL_law 481 = .ok (.iaload, 1) := by decide +kernel
theorem dL_law_482 : decode cL_law 482 = .ok (.aload_n 0, 1) := by decide +kernel
theorem dL_law_483 : decode cL_law 483 = .ok (.iload 4, 2) := by decide +kernel
theorem dL_law_485 : decode cL_law 485 = .ok (.iconst 2, 1) := by decide +kernel
theorem dL_law_486 : decode cL_law 486 = .ok (.iadd, 1) := by decide +kernel
theorem dL_law_487 : decode cL_law 487 = .ok (.iaload, 1) := by decide +kernel
theorem dL_law_488 : decode cL_law 488 = .ok (.aload_n 3, 1) := by decide +kernel
theorem dL_law_489 : decode cL_law 489 = .ok (.invokestatic 79, 3) := by decide +kernel
theorem dL_law_492 : decode cL_law 492 = .ok (.istore 5, 2) := by decide +kernel
theorem dL_law_494 : decode cL_law 494 = .ok (.aload_n 2, 1) := by decide +kernel
theorem dL_law_495 : decode cL_law 495 = .ok (.aload_n 0, 1) := by decide +kernel
theorem dL_law_496 : decode cL_law 496 = .ok (.iload 4, 2) := by decide +kernel
theorem dL_law_498 : decode cL_law 498 = .ok (.iconst 1, 1) := by decide +kernel
theorem dL_law_499 : decode cL_law 499 = .ok (.iadd, 1) := by decide +kernel
theorem dL_law_500 : decode cL_law 500 = .ok (.iaload, 1) := by decide +kernel
theorem dL_law_501 : decode cL_law 501 = .ok (.aload_n 0, 1) := by decide +kernel
theorem dL_law_502 : decode cL_law 502 = .ok (.iload 4, 2) := by decide +kernel
theorem dL_law_504 : decode cL_law 504 = .ok (.iconst 2, 1) := by decide +kernel
theorem dL_law_505 : decode cL_law 505 = .ok (.iadd, 1) := by decide +kernel
theorem dL_law_506 : decode cL_law 506 = .ok (.iaload, 1) := by decide +kernel
theorem dL_law_507 : decode cL_law 507 = .ok (.invokevirtual 81, 3) := by decide +kernel
theorem dL_law_510 : decode cL_law 510 = .ok (.istore 6, 2) := by decide +kernel
theorem dL_law_512 : decode cL_law 512 = .ok (.aload_n 2, 1) := by decide +kernel
theorem dL_law_513 : decode cL_law 513 = .ok (.invokevirtual 54, 3) := by decide +kernel
theorem dL_law_516 : decode cL_law 516 = .ok (.iload 5, 2) := by decide +kernel
theorem dL_law_518 : decode cL_law 518 = .ok (.if_icmp .eq 5, 3) := by decide +kernel
theorem dL_law_521 : decode cL_law 521 = .ok (.iconst 0, 1) := by decide +kernel
theorem dL_law_522 : decode cL_law 522 = .ok (.ireturn, 1) := by decide +kernel
theorem dL_law_523 : decode cL_law 523 = .ok (.iload 5, 2) := by decide +kernel
theorem dL_law_525 : decode cL_law 525 = .ok (.ifCond .ne 15, 3) := by decide +kernel
theorem dL_law_528 : decode cL_law 528 = .ok (.aload_n 3, 1) := by decide +kernel
theorem dL_law_529 : decode cL_law 529 = .ok (.iconst 0, 1) := by decide +kernel
theorem dL_law_530 : decode cL_law 530 = .ok (.laload, 1) := by decide +kernel
theorem dL_law_531 : decode cL_law 531 = .ok (.iload 6, 2) := by decide +kernel
theorem dL_law_533 : decode cL_law 533 = .ok (.i2l, 1) := by decide +kernel
theorem dL_law_534 : decode cL_law 534 = .ok (.lcmp, 1) := by decide +kernel
theorem dL_law_535 : decode cL_law 535 = .ok (.ifCond .eq 5, 3) := by decide +kernel
theorem dL_law_538 : decode cL_law 538 = .ok (.iconst 0, 1) := by decide +kernel
theorem dL_law_539 : decode cL_law 539 = .ok (.ireturn, 1) := by decide +kernel
theorem dL_law_540 : decode cL_law 540 = .ok (.goto 28, 3) := by decide +kernel
theorem dL_law_543 : decode cL_law 543 = .ok (.aload_n 1, 1) := by decide +kernel
theorem dL_law_544 : decode cL_law 544 = .ok (.aload_n 0, 1) := by decide +kernel
theorem dL_law_545 : decode cL_law 545 = .ok (.iload 4, 2) := by decide +kernel
theorem dL_law_547 : decode cL_law 547 = .ok (.iconst 1, 1) := by decide +kernel
theorem dL_law_548 : decode cL_law 548 = .ok (.iadd, 1) := by decide +kernel
theorem dL_law_549 : decode cL_law 549 = .ok (.iaload, 1) := by decide +kernel
theorem dL_law_550 : decode cL_law 550 = .ok (.invokevirtual 82, 3) := by decide +kernel
theorem dL_law_553 : decode cL_law 553 = .ok (.aload_n 2, 1) := by decide +kernel
theorem dL_law_554 : decode cL_law 554 = .ok (.aload_n 0, 1) := by decide +kernel
theorem dL_law_555 : decode cL_law 555 = .ok (.iload 4, 2) := by decide +kernel
theorem dL_law_557 : decode cL_law 557 = .ok (.iconst 1, 1) := by decide +kernel
theorem dL_law_558 : decode cL_law 558 = .ok (.iadd, 1) := by decide +kernel
theorem dL_law_559 : decode cL_law 559 = .ok (.iaload, 1) := by decide +kernel
theorem dL_law_560 : decode cL_law 560 = .ok (.invokevirtual 85, 3) := by decide +kernel
theorem dL_law_563 : decode cL_law 563 = .ok (.if_icmp .eq 5, 3) := by decide +kernel
theorem dL_law_566 : decode cL_law 566 = .ok (.iconst 0, 1) := by decide +kernel
theorem dL_law_567 : decode cL_law 567 = .ok (.ireturn, 1) := by decide +kernel
theorem dL_law_568 : decode cL_law 568 = .ok (.iinc 4 4, 3) := by decide +kernel
theorem dL_law_571 : decode cL_law 571 = .ok (.goto (-528), 3) := by decide +kernel
theorem dL_law_574 : decode cL_law 574 = .ok (.iconst 1, 1) := by decide +kernel
theorem dL_law_575 : decode cL_law 575 = .ok (.ireturn, 1) := by decide +kernel
end
section
def pw_all : List Cond := lw_tbl.filter goodWord
def pw_isN : Cond → Bool
  | .fieldLinkNest _ _ _ _ _ _ => true
  | .methodLinkNest _ _ _ _ => true
  | .castable _ _ => true
  | .declares _ => true
  | .arrayOver (.object _) => true
  | _ => false
def pw_nst : List Cond := tables_1.filter pw_isN
theorem pw_t {w : Cond} (i : Nat) (h : tables_1[i]? = some w) (g : goodWord w = true) : w ∈ pw_all := List.mem_filter.mpr ⟨List.mem_append_right _ (List.mem_of_getElem? h), g⟩
theorem pw_s {w : Cond} (i : Nat) (h : (k2_sels lw_privs)[i]? = some w) (g : goodWord w = true) : w ∈ pw_all := List.mem_filter.mpr ⟨List.mem_append_left _ (List.mem_of_getElem? h), g⟩
theorem pw_n {w : Cond} (i : Nat) (h : tables_1[i]? = some w) (g : pw_isN w = true) : w ∈ pw_nst := List.mem_filter.mpr ⟨List.mem_of_getElem? h, g⟩
theorem pw_good : ∀ w ∈ pw_all, goodWord w = true := fun w h => (List.mem_filter.mp h).2
theorem pw_goodIn {ws : List Cond} (h : ∀ w ∈ ws, w ∈ pw_all) : GoodIn pw_all ws := fun w hw => ⟨h w hw, good_of_word (pw_good w (h w hw))⟩
theorem pw_codeIn {w : Cond} (h : w ∈ pw_all) : ∀ u ∈ w :: pw_all, u ∈ pw_all := fun u hu => (List.mem_cons.mp hu).elim (fun e => by rw [e]; exact h) id
theorem pw_nst_cases {w : Cond} (h : w ∈ pw_nst) : w.onTables = true ∨ ∃ C, w = .arrayOver (.object C) := by
  have g := (List.mem_filter.mp h).2
  cases w with
  | arrayOver t => cases t <;> first | exact Or.inr ⟨_, rfl⟩ | (exact absurd g (by simp [pw_isN]))
  | _ => first | exact Or.inl rfl | (exact absurd g (by simp [pw_isN]))
theorem pw_nst_use {w : Cond} (h : w ∈ pw_nst) {A : Array Value} {U : State} (hZ : va_Nw w U) : w.before A U = true := by
  rcases pw_nst_cases h with h1 | ⟨C, rfl⟩
  · exact va_Nw.use h1 hZ
  · exact va_AO.use (C := C) hZ
theorem pw_nst_same {w : Cond} (h : w ∈ pw_nst) {u U : State} (hv : u.vm = U.vm) (hZ : va_Nw w u) : va_Nw w U := by
  rcases pw_nst_cases h with h1 | ⟨C, rfl⟩
  · exact va_Nw.same h1 hv hZ
  · exact va_AO.moved (C := C) (by rw [hv]; exact Vm.Alike.refl _) hZ
theorem pw_nst_warm {s U : State} (hW : s.WarmedH U.vm) (h : ∀ w ∈ pw_nst, va_Nw w s) : ∀ w ∈ pw_nst, va_Nw w U := by
  intro w hw
  have g := (List.mem_filter.mp hw).2
  have h1 := h w hw
  cases w with
  | arrayOver t => cases t <;> first | exact va_AO.moved hW.alike h1 | (exact absurd g (by simp [pw_isN]))
  | _ => first | exact va_Nw.warmF hW h1 | exact va_Nw.warmM hW h1 | exact va_Nw.warmC hW h1 | exact va_Nw.warmD hW h1 | (exact absurd g (by simp [pw_isN]))
theorem pw_fl_X0 : ∀ w ∈ u_ws RX0 TX0 5, w ∈ pw_all := by
  have h : (u_ws RX0 TX0 5).all (fun w => decide (w ∈ tables_1) && goodWord w) = true := by decide +kernel
  intro w hw
  have h1 := List.all_eq_true.mp h w hw
  simp only [Bool.and_eq_true, decide_eq_true_eq] at h1
  exact List.mem_filter.mpr ⟨List.mem_append_right _ h1.1, h1.2⟩
theorem pw_fl_X1 : ∀ w ∈ u_ws RX1 TX1 2, w ∈ pw_all := by
  have h : (u_ws RX1 TX1 2).all (fun w => decide (w ∈ tables_1) && goodWord w) = true := by decide +kernel
  intro w hw
  have h1 := List.all_eq_true.mp h w hw
  simp only [Bool.and_eq_true, decide_eq_true_eq] at h1
  exact List.mem_filter.mpr ⟨List.mem_append_right _ h1.1, h1.2⟩
theorem pw_fl_X2 : ∀ w ∈ u_ws RX2 TX2 11, w ∈ pw_all := by
  have h : (u_ws RX2 TX2 11).all (fun w => decide (w ∈ tables_1) && goodWord w) = true := by decide +kernel
  intro w hw
  have h1 := List.all_eq_true.mp h w hw
  simp only [Bool.and_eq_true, decide_eq_true_eq] at h1
  exact List.mem_filter.mpr ⟨List.mem_append_right _ h1.1, h1.2⟩
theorem pw_fl_X3 : ∀ w ∈ u_ws RX3 TX3 18, w ∈ pw_all := by
  have h : (u_ws RX3 TX3 18).all (fun w => decide (w ∈ tables_1) && goodWord w) = true := by decide +kernel
  intro w hw
  have h1 := List.all_eq_true.mp h w hw
  simp only [Bool.and_eq_true, decide_eq_true_eq] at h1
  exact List.mem_filter.mpr ⟨List.mem_append_right _ h1.1, h1.2⟩
def gl_F (own : String) (idx : Nat) (ref n d : String) : Prop := Cond.fieldLink own idx ref n d ∈ pw_all ∨ ∃ h : String, Cond.fieldLinkNest own idx ref n d h ∈ pw_nst
theorem fl_X2_23 : gl_F RX2 23 "PagerHouse" "frames" "LPagerHouse$Rows;" := Or.inl (pw_t 55 (by decide +kernel) rfl)
theorem fl_X2_27 : gl_F RX2 27 "PagerHouse" "sectors" "LPagerHouse$Rows;" := Or.inl (pw_t 56 (by decide +kernel) rfl)
theorem fl_X2_30 : gl_F RX2 30 "PagerHouse" "used" "[Z" := Or.inl (pw_t 57 (by decide +kernel) rfl)
theorem fl_X2_34 : gl_F RX2 34 "PagerHouse" "pageCounts" "[I" := Or.inl (pw_t 59 (by decide +kernel) rfl)
theorem fl_X2_40 : gl_F RX2 40 "PagerHouse" "bodies" "[LPagerHouse$Body;" := Or.inl (pw_t 60 (by decide +kernel) rfl)
theorem fl_X2_55 : gl_F RX2 55 "PagerHouse$Body" "holders" "I" := Or.inr ⟨"PagerHouse", pw_n 350 (by decide +kernel) rfl⟩
theorem fl_X2_73 : gl_F RX2 73 "PagerHouse" "accesses" "I" := Or.inl (pw_t 61 (by decide +kernel) rfl)
theorem fl_X2_76 : gl_F RX2 76 "PagerHouse$Body" "frame" "I" := Or.inr ⟨"PagerHouse", pw_n 346 (by decide +kernel) rfl⟩
theorem fl_X2_87 : gl_F RX2 87 "PagerHouse$Rows" "words" "[I" := Or.inr ⟨"PagerHouse", pw_n 47 (by decide +kernel) rfl⟩
theorem fl_X2_97 : gl_F RX2 97 "PagerHouse$Body" "dirty" "Z" := Or.inr ⟨"PagerHouse", pw_n 351 (by decide +kernel) rfl⟩
theorem fl_X2_111 : gl_F RX2 111 "PagerHouse$Rows" "content" "[LPagerHouse$Body;" := Or.inr ⟨"PagerHouse", pw_n 45 (by decide +kernel) rfl⟩
theorem fl_X2_118 : gl_F RX2 118 "PagerHouse$Body" "sector" "I" := Or.inr ⟨"PagerHouse", pw_n 348 (by decide +kernel) rfl⟩
theorem fl_X2_127 : gl_F RX2 127 "PagerHouse$Body" "pageNumber" "I" := Or.inr ⟨"PagerHouse", pw_n 344 (by decide +kernel) rfl⟩
theorem fl_X2_140 : gl_F RX2 140 "PagerHouse" "hand" "I" := Or.inl (pw_t 58 (by decide +kernel) rfl)
theorem fl_X2_149 : gl_F RX2 149 "PagerHouse" "taken" "I" := Or.inl (pw_t 62 (by decide +kernel) rfl)
theorem fl_X2_152 : gl_F RX2 152 "PagerHouse" "brought" "I" := Or.inl (pw_t 63 (by decide +kernel) rfl)
theorem fl_X2_155 : gl_F RX2 155 "PagerHouse" "storings" "I" := Or.inl (pw_t 64 (by decide +kernel) rfl)
theorem fl_X2_158 : gl_F RX2 158 "PagerHouse" "copies" "I" := Or.inl (pw_t 65 (by decide +kernel) rfl)
theorem fl_X0_9 : gl_F RX0 9 "PagerHouse$Body" "pageNumber" "I" := Or.inl (pw_t 343 (by decide +kernel) rfl)
theorem fl_X0_15 : gl_F RX0 15 "PagerHouse$Body" "frame" "I" := Or.inl (pw_t 345 (by decide +kernel) rfl)
theorem fl_X0_18 : gl_F RX0 18 "PagerHouse$Body" "sector" "I" := Or.inl (pw_t 347 (by decide +kernel) rfl)
theorem fl_X0_21 : gl_F RX0 21 "PagerHouse$Body" "holders" "I" := Or.inl (pw_t 349 (by decide +kernel) rfl)
theorem fl_X1_11 : gl_F RX1 11 "PagerHouse$Rows" "content" "[LPagerHouse$Body;" := Or.inl (pw_t 44 (by decide +kernel) rfl)
theorem fl_X1_17 : gl_F RX1 17 "PagerHouse$Rows" "words" "[I" := Or.inl (pw_t 46 (by decide +kernel) rfl)
theorem fl_X3_7 : gl_F RX3 7 "PagerHouseModel" "pages" "[I" := Or.inl (pw_t 642 (by decide +kernel) rfl)
theorem fl_X3_13 : gl_F RX3 13 "PagerHouseModel" "bodyOf" "[I" := Or.inl (pw_t 643 (by decide +kernel) rfl)
theorem fl_X3_16 : gl_F RX3 16 "PagerHouseModel" "is" "[Z" := Or.inl (pw_t 644 (by decide +kernel) rfl)
theorem fl_X3_20 : gl_F RX3 20 "PagerHouseModel" "frameOf" "[I" := Or.inl (pw_t 645 (by decide +kernel) rfl)
theorem fl_X3_23 : gl_F RX3 23 "PagerHouseModel" "sectorOf" "[I" := Or.inl (pw_t 646 (by decide +kernel) rfl)
theorem fl_X3_26 : gl_F RX3 26 "PagerHouseModel" "dirty" "[Z" := Or.inl (pw_t 647 (by decide +kernel) rfl)
theorem fl_X3_29 : gl_F RX3 29 "PagerHouseModel" "inFrame" "[I" := Or.inl (pw_t 648 (by decide +kernel) rfl)
theorem fl_X3_32 : gl_F RX3 32 "PagerHouseModel" "inSector" "[I" := Or.inl (pw_t 649 (by decide +kernel) rfl)
theorem fl_X3_35 : gl_F RX3 35 "PagerHouseModel" "used" "[Z" := Or.inl (pw_t 650 (by decide +kernel) rfl)
theorem fl_X3_38 : gl_F RX3 38 "PagerHouseModel" "frames" "I" := Or.inl (pw_t 640 (by decide +kernel) rfl)
theorem fl_X3_42 : gl_F RX3 42 "PagerHouseModel" "sectors" "I" := Or.inl (pw_t 641 (by decide +kernel) rfl)
theorem fl_X3_45 : gl_F RX3 45 "PagerHouseModel" "thrown" "I" := Or.inl (pw_t 639 (by decide +kernel) rfl)
theorem fl_X3_62 : gl_F RX3 62 "PagerHouseModel" "stores" "I" := Or.inl (pw_t 655 (by decide +kernel) rfl)
theorem fl_X3_65 : gl_F RX3 65 "PagerHouseModel" "taken" "I" := Or.inl (pw_t 653 (by decide +kernel) rfl)
theorem fl_X3_68 : gl_F RX3 68 "PagerHouseModel" "hand" "I" := Or.inl (pw_t 651 (by decide +kernel) rfl)
theorem fl_X3_78 : gl_F RX3 78 "PagerHouseModel" "brought" "I" := Or.inl (pw_t 654 (by decide +kernel) rfl)
theorem fl_X3_102 : gl_F RX3 102 "PagerHouseModel" "asked" "I" := Or.inl (pw_t 652 (by decide +kernel) rfl)
theorem fl_X3_111 : gl_F RX3 111 "PagerHouseModel" "copies" "I" := Or.inl (pw_t 656 (by decide +kernel) rfl)
def gl_L (own : String) (idx : Nat) (y : MethodName) : Prop := Cond.methodLink own idx y ∈ pw_all ∨ ∃ h : String, Cond.methodLinkNest own idx y h ∈ pw_nst
/-- the words of a method that is called -/
def gl_Y (y : MethodName) (bytes : ByteArray) (maxL : Nat) (ret : Option FieldType) (n : Nat) : Prop := Cond.code y bytes maxL ret ∈ pw_all ∧ Cond.initialized y.cls ∈ pw_all ∧ (y.cls ≠ "java/lang/invoke/MethodHandle" ∧ y.cls ≠ "java/lang/invoke/VarHandle" ∧ (parseMethodDescriptor y.desc).map (fun d => d.parameters.length) = some n)
def gl_V (y : MethodName) : Prop := Cond.instanceMethod y ∈ pw_all ∧ Cond.selects y.cls y y ∈ pw_all
def gl_I (y : MethodName) : Prop := y.name = "<init>" ∧ Cond.instanceMethod y ∈ pw_all
def gl_S (y : MethodName) : Prop := Cond.static y ∈ pw_all
theorem ml_X2_20 : gl_L RX2 20 yX1_init := Or.inr ⟨"PagerHouse", pw_n 38 (by decide +kernel) rfl⟩
theorem ml_X2_44 : gl_L RX2 44 yX2_leastFreeProcess := Or.inl (pw_t 94 (by decide +kernel) rfl)
theorem ml_X2_48 : gl_L RX2 48 yX2_hasProcess := Or.inl (pw_t 102 (by decide +kernel) rfl)
theorem ml_X2_52 : gl_L RX2 52 yX2_slot := Or.inl (pw_t 106 (by decide +kernel) rfl)
theorem ml_X2_59 : gl_L RX2 59 yX2_empty := Or.inl (pw_t 113 (by decide +kernel) rfl)
theorem ml_X2_62 : gl_L RX2 62 yX2_checkAddress := Or.inl (pw_t 201 (by decide +kernel) rfl)
theorem ml_X2_66 : gl_L RX2 66 yX2_takesToRead := Or.inl (pw_t 273 (by decide +kernel) rfl)
theorem ml_X2_70 : gl_L RX2 70 yX2_checkRoom := Or.inl (pw_t 276 (by decide +kernel) rfl)
theorem ml_X2_79 : gl_L RX2 79 yX2_take := Or.inl (pw_t 296 (by decide +kernel) rfl)
theorem ml_X2_83 : gl_L RX2 83 yX2_bring := Or.inl (pw_t 312 (by decide +kernel) rfl)
theorem ml_X2_90 : gl_L RX2 90 yX2_takesToWrite := Or.inl (pw_t 327 (by decide +kernel) rfl)
theorem ml_X2_93 : gl_L RX2 93 yX2_ownBody := Or.inl (pw_t 330 (by decide +kernel) rfl)
theorem ml_X2_101 : gl_L RX2 101 yX2_hasPage := Or.inl (pw_t 129 (by decide +kernel) rfl)
theorem ml_X2_105 : gl_L RX2 105 yX2_countWithoutSector := Or.inl (pw_t 137 (by decide +kernel) rfl)
theorem ml_X2_108 : gl_L RX2 108 yX1_countFree := Or.inr ⟨"PagerHouse", pw_n 141 (by decide +kernel) rfl⟩
theorem ml_X2_114 : gl_L RX2 114 yX2_store := Or.inl (pw_t 145 (by decide +kernel) rfl)
theorem ml_X2_121 : gl_L RX2 121 yX1_has := Or.inr ⟨"PagerHouse", pw_n 121 (by decide +kernel) rfl⟩
theorem ml_X2_124 : gl_L RX2 124 yX2_leastHolder := Or.inl (pw_t 169 (by decide +kernel) rfl)
theorem ml_X2_137 : gl_L RX2 137 yX2_countProcesses := Or.inl (pw_t 177 (by decide +kernel) rfl)
theorem ml_X2_143 : gl_L RX2 143 yX2_countBodies := Or.inl (pw_t 181 (by decide +kernel) rfl)
theorem ml_X2_146 : gl_L RX2 146 yX2_countDirty := Or.inl (pw_t 185 (by decide +kernel) rfl)
theorem ml_X2_168 : gl_L RX2 168 yX2_newBody := Or.inl (pw_t 334 (by decide +kernel) rfl)
theorem ml_X2_172 : gl_L RX2 172 yX2_copyBody := Or.inl (pw_t 621 (by decide +kernel) rfl)
theorem ml_X2_175 : gl_L RX2 175 yX0_init := Or.inr ⟨"PagerHouse", pw_n 339 (by decide +kernel) rfl⟩
theorem ml_X2_176 : gl_L RX2 176 yX2_lay := Or.inl (pw_t 316 (by decide +kernel) rfl)
theorem ml_X2_179 : gl_L RX2 179 yX1_zero := Or.inr ⟨"PagerHouse", pw_n 363 (by decide +kernel) rfl⟩
theorem ml_X2_182 : gl_L RX2 182 yX1_copyWords := Or.inr ⟨"PagerHouse", pw_n 153 (by decide +kernel) rfl⟩
theorem ml_X2_186 : gl_L RX2 186 yX1_leastFree := Or.inr ⟨"PagerHouse", pw_n 149 (by decide +kernel) rfl⟩
theorem ml_X2_189 : gl_L RX2 189 yX2_secondChance := Or.inl (pw_t 300 (by decide +kernel) rfl)
theorem ml_X2_192 : gl_L RX2 192 yX2_vacate := Or.inl (pw_t 308 (by decide +kernel) rfl)
theorem ml_X2_195 : gl_L RX2 195 yX2_behind := Or.inl (pw_t 304 (by decide +kernel) rfl)
theorem ml_X2_198 : gl_L RX2 198 yX2_release := Or.inl (pw_t 117 (by decide +kernel) rfl)
theorem ml_X1_21 : gl_L RX1 21 yX1_has := Or.inl (pw_t 157 (by decide +kernel) rfl)
theorem ml_X1_25 : gl_L RX1 25 yJ7_fill_fda19 := Or.inl (pw_t 367 (by decide +kernel) rfl)
theorem ml_L_7 : gl_L RL 7 yX2_read := Or.inl (pw_t 197 (by decide +kernel) rfl)
theorem ml_L_17 : gl_L RL 17 yX2_write := Or.inl (pw_t 323 (by decide +kernel) rfl)
theorem ml_L_21 : gl_L RL 21 yX2_stored := Or.inl (pw_t 628 (by decide +kernel) rfl)
theorem ml_L_24 : gl_L RL 24 yL_cell := Or.inl (pw_t 189 (by decide +kernel) rfl)
theorem ml_L_30 : gl_L RL 30 yX2_init := Or.inl (pw_t 24 (by decide +kernel) rfl)
theorem ml_L_35 : gl_L RL 35 yX3_init := Or.inl (pw_t 635 (by decide +kernel) rfl)
theorem ml_L_36 : gl_L RL 36 yX2_begin := Or.inl (pw_t 90 (by decide +kernel) rfl)
theorem ml_L_40 : gl_L RL 40 yX3_begin := Or.inl (pw_t 698 (by decide +kernel) rfl)
theorem ml_L_41 : gl_L RL 41 yX2_fork := Or.inl (pw_t 98 (by decide +kernel) rfl)
theorem ml_L_44 : gl_L RL 44 yX3_fork := Or.inl (pw_t 706 (by decide +kernel) rfl)
theorem ml_L_45 : gl_L RL 45 yX2_end := Or.inl (pw_t 109 (by decide +kernel) rfl)
theorem ml_L_49 : gl_L RL 49 yX3_end := Or.inl (pw_t 714 (by decide +kernel) rfl)
theorem ml_L_50 : gl_L RL 50 yL_read := Or.inl (pw_t 192 (by decide +kernel) rfl)
theorem ml_L_53 : gl_L RL 53 yX3_read := Or.inl (pw_t 734 (by decide +kernel) rfl)
theorem ml_L_54 : gl_L RL 54 yX3_thrown := Or.inl (pw_t 694 (by decide +kernel) rfl)
theorem ml_L_58 : gl_L RL 58 yL_write := Or.inl (pw_t 320 (by decide +kernel) rfl)
theorem ml_L_61 : gl_L RL 61 yX3_write := Or.inl (pw_t 770 (by decide +kernel) rfl)
theorem ml_L_62 : gl_L RL 62 yX2_drop := Or.inl (pw_t 125 (by decide +kernel) rfl)
theorem ml_L_66 : gl_L RL 66 yX3_drop := Or.inl (pw_t 726 (by decide +kernel) rfl)
theorem ml_L_67 : gl_L RL 67 yX2_flush := Or.inl (pw_t 133 (by decide +kernel) rfl)
theorem ml_L_70 : gl_L RL 70 yX3_flush := Or.inl (pw_t 778 (by decide +kernel) rfl)
theorem ml_L_71 : gl_L RL 71 yX2_page := Or.inl (pw_t 161 (by decide +kernel) rfl)
theorem ml_L_74 : gl_L RL 74 yX3_page := Or.inl (pw_t 782 (by decide +kernel) rfl)
theorem ml_L_75 : gl_L RL 75 yX2_frame := Or.inl (pw_t 165 (by decide +kernel) rfl)
theorem ml_L_78 : gl_L RL 78 yX3_frame := Or.inl (pw_t 786 (by decide +kernel) rfl)
theorem ml_L_79 : gl_L RL 79 yL_stored := Or.inl (pw_t 625 (by decide +kernel) rfl)
theorem ml_L_81 : gl_L RL 81 yX3_stored := Or.inl (pw_t 790 (by decide +kernel) rfl)
theorem ml_L_82 : gl_L RL 82 yX2_look := Or.inl (pw_t 173 (by decide +kernel) rfl)
theorem ml_L_85 : gl_L RL 85 yX3_look := Or.inl (pw_t 794 (by decide +kernel) rfl)
theorem ml_X3_48 : gl_L RX3 48 yX3_isProcess := Or.inl (pw_t 710 (by decide +kernel) rfl)
theorem ml_X3_52 : gl_L RX3 52 yX3_bodyIn := Or.inl (pw_t 746 (by decide +kernel) rfl)
theorem ml_X3_56 : gl_L RX3 56 yX3_isSectorFree := Or.inl (pw_t 754 (by decide +kernel) rfl)
theorem ml_X3_59 : gl_L RX3 59 yX3_holders := Or.inl (pw_t 722 (by decide +kernel) rfl)
theorem ml_X3_71 : gl_L RX3 71 yX3_store := Or.inl (pw_t 766 (by decide +kernel) rfl)
theorem ml_X3_75 : gl_L RX3 75 yX3_take := Or.inl (pw_t 762 (by decide +kernel) rfl)
theorem ml_X3_81 : gl_L RX3 81 yX3_leastProcess := Or.inl (pw_t 702 (by decide +kernel) rfl)
theorem ml_X3_85 : gl_L RX3 85 yX3_leave := Or.inl (pw_t 718 (by decide +kernel) rfl)
theorem ml_X3_88 : gl_L RX3 88 yX3_isPage := Or.inl (pw_t 730 (by decide +kernel) rfl)
theorem ml_X3_92 : gl_L RX3 92 yX3_freeFrames := Or.inl (pw_t 742 (by decide +kernel) rfl)
theorem ml_X3_95 : gl_L RX3 95 yX3_freeSectors := Or.inl (pw_t 750 (by decide +kernel) rfl)
theorem ml_X3_98 : gl_L RX3 98 yX3_fails := Or.inl (pw_t 738 (by decide +kernel) rfl)
theorem ml_X3_105 : gl_L RX3 105 yX3_bring := Or.inl (pw_t 758 (by decide +kernel) rfl)
theorem ml_X3_108 : gl_L RX3 108 yX3_newBody := Or.inl (pw_t 774 (by decide +kernel) rfl)
theorem ml_J7_13 : gl_L RJ7 13 yJ7_rangeCheck_23922 := Or.inl (pw_t 370 (by decide +kernel) rfl)
set_option maxRecDepth 20000 in
theorem gy_X2_init : gl_Y yX2_init cX2_init 5 none 2 := ⟨pw_t 26 rfl rfl, pw_t 1 (by decide +kernel) rfl, by decide +kernel⟩
theorem gi_X2_init : gl_I yX2_init := ⟨rfl, pw_t 25 (by decide +kernel) rfl⟩
set_option maxRecDepth 20000 in
theorem gy_X2_begin : gl_Y yX2_begin cX2_begin 3 (some .int) 1 := ⟨pw_t 93 rfl rfl, pw_t 1 (by decide +kernel) rfl, by decide +kernel⟩
theorem gv_X2_begin : gl_V yX2_begin := ⟨pw_t 91 (by decide +kernel) rfl, pw_t 92 (by decide +kernel) rfl⟩
set_option maxRecDepth 20000 in
theorem gy_X2_behind : gl_Y yX2_behind cX2_behind 2 (some .int) 1 := ⟨pw_t 307 rfl rfl, pw_t 1 (by decide +kernel) rfl, by decide +kernel⟩
theorem gv_X2_behind : gl_V yX2_behind := ⟨pw_t 306 (by decide +kernel) rfl, pw_s 20 (by decide +kernel) rfl⟩
set_option maxRecDepth 20000 in
theorem gy_X2_bring : gl_Y yX2_bring cX2_bring 3 none 2 := ⟨pw_t 315 rfl rfl, pw_t 1 (by decide +kernel) rfl, by decide +kernel⟩
theorem gv_X2_bring : gl_V yX2_bring := ⟨pw_t 314 (by decide +kernel) rfl, pw_s 22 (by decide +kernel) rfl⟩
set_option maxRecDepth 20000 in
theorem gy_X2_checkAddress : gl_Y yX2_checkAddress cX2_checkAddress 3 none 2 := ⟨pw_t 204 rfl rfl, pw_t 1 (by decide +kernel) rfl, by decide +kernel⟩
theorem gv_X2_checkAddress : gl_V yX2_checkAddress := ⟨pw_t 203 (by decide +kernel) rfl, pw_s 15 (by decide +kernel) rfl⟩
set_option maxRecDepth 20000 in
theorem gy_X2_checkRoom : gl_Y yX2_checkRoom cX2_checkRoom 2 none 1 := ⟨pw_t 279 rfl rfl, pw_t 1 (by decide +kernel) rfl, by decide +kernel⟩
theorem gv_X2_checkRoom : gl_V yX2_checkRoom := ⟨pw_t 278 (by decide +kernel) rfl, pw_s 17 (by decide +kernel) rfl⟩
set_option maxRecDepth 20000 in
theorem gy_X2_copyBody : gl_Y yX2_copyBody cX2_copyBody 4 (some (.object "PagerHouse$Body")) 2 := ⟨pw_t 624 rfl rfl, pw_t 1 (by decide +kernel) rfl, by decide +kernel⟩
theorem gv_X2_copyBody : gl_V yX2_copyBody := ⟨pw_t 623 (by decide +kernel) rfl, pw_s 27 (by decide +kernel) rfl⟩
set_option maxRecDepth 20000 in
theorem gy_X2_countBodies : gl_Y yX2_countBodies cX2_countBodies 4 (some .int) 0 := ⟨pw_t 184 rfl rfl, pw_t 1 (by decide +kernel) rfl, by decide +kernel⟩
theorem gv_X2_countBodies : gl_V yX2_countBodies := ⟨pw_t 183 (by decide +kernel) rfl, pw_s 13 (by decide +kernel) rfl⟩
set_option maxRecDepth 20000 in
theorem gy_X2_countDirty : gl_Y yX2_countDirty cX2_countDirty 4 (some .int) 0 := ⟨pw_t 188 rfl rfl, pw_t 1 (by decide +kernel) rfl, by decide +kernel⟩
theorem gv_X2_countDirty : gl_V yX2_countDirty := ⟨pw_t 187 (by decide +kernel) rfl, pw_s 14 (by decide +kernel) rfl⟩
set_option maxRecDepth 20000 in
theorem gy_X2_countProcesses : gl_Y yX2_countProcesses cX2_countProcesses 3 (some .int) 0 := ⟨pw_t 180 rfl rfl, pw_t 1 (by decide +kernel) rfl, by decide +kernel⟩
theorem gv_X2_countProcesses : gl_V yX2_countProcesses := ⟨pw_t 179 (by decide +kernel) rfl, pw_s 12 (by decide +kernel) rfl⟩
set_option maxRecDepth 20000 in
theorem gy_X2_countWithoutSector : gl_Y yX2_countWithoutSector cX2_countWithoutSector 4 (some .int) 0 := ⟨pw_t 140 rfl rfl, pw_t 1 (by decide +kernel) rfl, by decide +kernel⟩
theorem gv_X2_countWithoutSector : gl_V yX2_countWithoutSector := ⟨pw_t 139 (by decide +kernel) rfl, pw_s 6 (by decide +kernel) rfl⟩
set_option maxRecDepth 20000 in
theorem gy_X2_drop : gl_Y yX2_drop cX2_drop 3 (some .boolean) 2 := ⟨pw_t 128 rfl rfl, pw_t 1 (by decide +kernel) rfl, by decide +kernel⟩
theorem gv_X2_drop : gl_V yX2_drop := ⟨pw_t 126 (by decide +kernel) rfl, pw_t 127 (by decide +kernel) rfl⟩
set_option maxRecDepth 20000 in
theorem gy_X2_empty : gl_Y yX2_empty cX2_empty 3 (some .boolean) 1 := ⟨pw_t 116 rfl rfl, pw_t 1 (by decide +kernel) rfl, by decide +kernel⟩
theorem gv_X2_empty : gl_V yX2_empty := ⟨pw_t 115 (by decide +kernel) rfl, pw_s 2 (by decide +kernel) rfl⟩
set_option maxRecDepth 20000 in
theorem gy_X2_end : gl_Y yX2_end cX2_end 3 (some .boolean) 1 := ⟨pw_t 112 rfl rfl, pw_t 1 (by decide +kernel) rfl, by decide +kernel⟩
theorem gv_X2_end : gl_V yX2_end := ⟨pw_t 110 (by decide +kernel) rfl, pw_t 111 (by decide +kernel) rfl⟩
set_option maxRecDepth 20000 in
theorem gy_X2_flush : gl_Y yX2_flush cX2_flush 4 (some .int) 0 := ⟨pw_t 136 rfl rfl, pw_t 1 (by decide +kernel) rfl, by decide +kernel⟩
theorem gv_X2_flush : gl_V yX2_flush := ⟨pw_t 134 (by decide +kernel) rfl, pw_t 135 (by decide +kernel) rfl⟩
set_option maxRecDepth 20000 in
theorem gy_X2_fork : gl_Y yX2_fork cX2_fork 5 (some .int) 1 := ⟨pw_t 101 rfl rfl, pw_t 1 (by decide +kernel) rfl, by decide +kernel⟩
theorem gv_X2_fork : gl_V yX2_fork := ⟨pw_t 99 (by decide +kernel) rfl, pw_t 100 (by decide +kernel) rfl⟩
set_option maxRecDepth 20000 in
theorem gy_X2_frame : gl_Y yX2_frame cX2_frame 4 (some .int) 2 := ⟨pw_t 168 rfl rfl, pw_t 1 (by decide +kernel) rfl, by decide +kernel⟩
theorem gv_X2_frame : gl_V yX2_frame := ⟨pw_t 166 (by decide +kernel) rfl, pw_t 167 (by decide +kernel) rfl⟩
set_option maxRecDepth 20000 in
theorem gy_X2_hasPage : gl_Y yX2_hasPage cX2_hasPage 3 (some .boolean) 2 := ⟨pw_t 132 rfl rfl, pw_t 1 (by decide +kernel) rfl, by decide +kernel⟩
theorem gv_X2_hasPage : gl_V yX2_hasPage := ⟨pw_t 131 (by decide +kernel) rfl, pw_s 5 (by decide +kernel) rfl⟩
set_option maxRecDepth 20000 in
theorem gy_X2_hasProcess : gl_Y yX2_hasProcess cX2_hasProcess 2 (some .boolean) 1 := ⟨pw_t 105 rfl rfl, pw_t 1 (by decide +kernel) rfl, by decide +kernel⟩
theorem gv_X2_hasProcess : gl_V yX2_hasProcess := ⟨pw_t 104 (by decide +kernel) rfl, pw_s 1 (by decide +kernel) rfl⟩
set_option maxRecDepth 20000 in
theorem gy_X2_lay : gl_Y yX2_lay cX2_lay 3 none 2 := ⟨pw_t 319 rfl rfl, pw_t 1 (by decide +kernel) rfl, by decide +kernel⟩
theorem gv_X2_lay : gl_V yX2_lay := ⟨pw_t 318 (by decide +kernel) rfl, pw_s 23 (by decide +kernel) rfl⟩
set_option maxRecDepth 20000 in
theorem gy_X2_leastFreeProcess : gl_Y yX2_leastFreeProcess cX2_leastFreeProcess 2 (some .int) 0 := ⟨pw_t 97 rfl rfl, pw_t 1 (by decide +kernel) rfl, by decide +kernel⟩
theorem gv_X2_leastFreeProcess : gl_V yX2_leastFreeProcess := ⟨pw_t 96 (by decide +kernel) rfl, pw_s 0 (by decide +kernel) rfl⟩
set_option maxRecDepth 20000 in
theorem gy_X2_leastHolder : gl_Y yX2_leastHolder cX2_leastHolder 3 (some .int) 1 := ⟨pw_t 172 rfl rfl, pw_t 1 (by decide +kernel) rfl, by decide +kernel⟩
theorem gv_X2_leastHolder : gl_V yX2_leastHolder := ⟨pw_t 171 (by decide +kernel) rfl, pw_s 11 (by decide +kernel) rfl⟩
set_option maxRecDepth 20000 in
theorem gy_X2_look : gl_Y yX2_look cX2_look 2 (some .int) 1 := ⟨pw_t 176 rfl rfl, pw_t 1 (by decide +kernel) rfl, by decide +kernel⟩
theorem gv_X2_look : gl_V yX2_look := ⟨pw_t 174 (by decide +kernel) rfl, pw_t 175 (by decide +kernel) rfl⟩
set_option maxRecDepth 20000 in
theorem gy_X2_newBody : gl_Y yX2_newBody cX2_newBody 4 (some (.object "PagerHouse$Body")) 2 := ⟨pw_t 337 rfl rfl, pw_t 1 (by decide +kernel) rfl, by decide +kernel⟩
theorem gv_X2_newBody : gl_V yX2_newBody := ⟨pw_t 336 (by decide +kernel) rfl, pw_s 25 (by decide +kernel) rfl⟩
set_option maxRecDepth 20000 in
theorem gy_X2_ownBody : gl_Y yX2_ownBody cX2_ownBody 3 (some (.object "PagerHouse$Body")) 2 := ⟨pw_t 333 rfl rfl, pw_t 1 (by decide +kernel) rfl, by decide +kernel⟩
theorem gv_X2_ownBody : gl_V yX2_ownBody := ⟨pw_t 332 (by decide +kernel) rfl, pw_s 24 (by decide +kernel) rfl⟩
set_option maxRecDepth 20000 in
theorem gy_X2_page : gl_Y yX2_page cX2_page 5 (some .int) 3 := ⟨pw_t 164 rfl rfl, pw_t 1 (by decide +kernel) rfl, by decide +kernel⟩
theorem gv_X2_page : gl_V yX2_page := ⟨pw_t 162 (by decide +kernel) rfl, pw_t 163 (by decide +kernel) rfl⟩
set_option maxRecDepth 20000 in
theorem gy_X2_read : gl_Y yX2_read cX2_read 4 (some .int) 2 := ⟨pw_t 200 rfl rfl, pw_t 1 (by decide +kernel) rfl, by decide +kernel⟩
theorem gv_X2_read : gl_V yX2_read := ⟨pw_t 198 (by decide +kernel) rfl, pw_t 199 (by decide +kernel) rfl⟩
set_option maxRecDepth 20000 in
theorem gy_X2_release : gl_Y yX2_release cX2_release 2 none 1 := ⟨pw_t 120 rfl rfl, pw_t 1 (by decide +kernel) rfl, by decide +kernel⟩
theorem gv_X2_release : gl_V yX2_release := ⟨pw_t 119 (by decide +kernel) rfl, pw_s 3 (by decide +kernel) rfl⟩
set_option maxRecDepth 20000 in
theorem gy_X2_secondChance : gl_Y yX2_secondChance cX2_secondChance 4 (some .int) 1 := ⟨pw_t 303 rfl rfl, pw_t 1 (by decide +kernel) rfl, by decide +kernel⟩
theorem gv_X2_secondChance : gl_V yX2_secondChance := ⟨pw_t 302 (by decide +kernel) rfl, pw_s 19 (by decide +kernel) rfl⟩
set_option maxRecDepth 20000 in
theorem gy_X2_slot : gl_Y yX2_slot cX2_slot 2 (some .int) 2 := ⟨pw_t 108 rfl rfl, pw_t 1 (by decide +kernel) rfl, by decide +kernel⟩
theorem gs_X2_slot : gl_S yX2_slot := pw_t 107 (by decide +kernel) rfl
set_option maxRecDepth 20000 in
theorem gy_X2_store : gl_Y yX2_store cX2_store 3 none 1 := ⟨pw_t 148 rfl rfl, pw_t 1 (by decide +kernel) rfl, by decide +kernel⟩
theorem gv_X2_store : gl_V yX2_store := ⟨pw_t 147 (by decide +kernel) rfl, pw_s 8 (by decide +kernel) rfl⟩
set_option maxRecDepth 20000 in
theorem gy_X2_stored : gl_Y yX2_stored cX2_stored 3 (some .int) 2 := ⟨pw_t 631 rfl rfl, pw_t 1 (by decide +kernel) rfl, by decide +kernel⟩
theorem gv_X2_stored : gl_V yX2_stored := ⟨pw_t 629 (by decide +kernel) rfl, pw_t 630 (by decide +kernel) rfl⟩
set_option maxRecDepth 20000 in
theorem gy_X2_take : gl_Y yX2_take cX2_take 3 (some .int) 1 := ⟨pw_t 299 rfl rfl, pw_t 1 (by decide +kernel) rfl, by decide +kernel⟩
theorem gv_X2_take : gl_V yX2_take := ⟨pw_t 298 (by decide +kernel) rfl, pw_s 18 (by decide +kernel) rfl⟩
set_option maxRecDepth 20000 in
theorem gy_X2_takesToRead : gl_Y yX2_takesToRead cX2_takesToRead 1 (some .int) 1 := ⟨pw_t 275 rfl rfl, pw_t 1 (by decide +kernel) rfl, by decide +kernel⟩
theorem gs_X2_takesToRead : gl_S yX2_takesToRead := pw_t 274 (by decide +kernel) rfl
set_option maxRecDepth 20000 in
theorem gy_X2_takesToWrite : gl_Y yX2_takesToWrite cX2_takesToWrite 1 (some .int) 1 := ⟨pw_t 329 rfl rfl, pw_t 1 (by decide +kernel) rfl, by decide +kernel⟩
theorem gs_X2_takesToWrite : gl_S yX2_takesToWrite := pw_t 328 (by decide +kernel) rfl
set_option maxRecDepth 20000 in
theorem gy_X2_vacate : gl_Y yX2_vacate cX2_vacate 3 none 1 := ⟨pw_t 311 rfl rfl, pw_t 1 (by decide +kernel) rfl, by decide +kernel⟩
theorem gv_X2_vacate : gl_V yX2_vacate := ⟨pw_t 310 (by decide +kernel) rfl, pw_s 21 (by decide +kernel) rfl⟩
set_option maxRecDepth 20000 in
theorem gy_X2_write : gl_Y yX2_write cX2_write 8 (some .int) 3 := ⟨pw_t 326 rfl rfl, pw_t 1 (by decide +kernel) rfl, by decide +kernel⟩
theorem gv_X2_write : gl_V yX2_write := ⟨pw_t 324 (by decide +kernel) rfl, pw_t 325 (by decide +kernel) rfl⟩
set_option maxRecDepth 20000 in
theorem gy_X0_init : gl_Y yX0_init cX0_init 2 none 1 := ⟨pw_t 341 rfl rfl, pw_t 11 (by decide +kernel) rfl, by decide +kernel⟩
theorem gi_X0_init : gl_I yX0_init := ⟨rfl, pw_t 340 (by decide +kernel) rfl⟩
set_option maxRecDepth 20000 in
theorem gy_X1_init : gl_Y yX1_init cX1_init 2 none 1 := ⟨pw_t 40 rfl rfl, pw_t 3 (by decide +kernel) rfl, by decide +kernel⟩
theorem gi_X1_init : gl_I yX1_init := ⟨rfl, pw_t 39 (by decide +kernel) rfl⟩
set_option maxRecDepth 20000 in
theorem gy_X1_copyWords : gl_Y yX1_copyWords cX1_copyWords 4 none 3 := ⟨pw_t 156 rfl rfl, pw_t 3 (by decide +kernel) rfl, by decide +kernel⟩
theorem gv_X1_copyWords : gl_V yX1_copyWords := ⟨pw_t 155 (by decide +kernel) rfl, pw_s 10 (by decide +kernel) rfl⟩
set_option maxRecDepth 20000 in
theorem gy_X1_countFree : gl_Y yX1_countFree cX1_countFree 3 (some .int) 0 := ⟨pw_t 144 rfl rfl, pw_t 3 (by decide +kernel) rfl, by decide +kernel⟩
theorem gv_X1_countFree : gl_V yX1_countFree := ⟨pw_t 143 (by decide +kernel) rfl, pw_s 7 (by decide +kernel) rfl⟩
set_option maxRecDepth 20000 in
theorem gy_X1_has : gl_Y yX1_has cX1_has 2 (some .boolean) 1 := ⟨pw_t 124 rfl rfl, pw_t 3 (by decide +kernel) rfl, by decide +kernel⟩
theorem gv_X1_has : gl_V yX1_has := ⟨pw_t 123 (by decide +kernel) rfl, pw_s 4 (by decide +kernel) rfl⟩
set_option maxRecDepth 20000 in
theorem gy_X1_leastFree : gl_Y yX1_leastFree cX1_leastFree 2 (some .int) 0 := ⟨pw_t 152 rfl rfl, pw_t 3 (by decide +kernel) rfl, by decide +kernel⟩
theorem gv_X1_leastFree : gl_V yX1_leastFree := ⟨pw_t 151 (by decide +kernel) rfl, pw_s 9 (by decide +kernel) rfl⟩
set_option maxRecDepth 20000 in
theorem gy_X1_zero : gl_Y yX1_zero cX1_zero 2 none 1 := ⟨pw_t 366 rfl rfl, pw_t 3 (by decide +kernel) rfl, by decide +kernel⟩
theorem gv_X1_zero : gl_V yX1_zero := ⟨pw_t 365 (by decide +kernel) rfl, pw_s 26 (by decide +kernel) rfl⟩
set_option maxRecDepth 20000 in
theorem gy_L_cell : gl_Y yL_cell cL_cell 2 (some .int) 2 := ⟨pw_t 191 rfl rfl, pw_t 0 (by decide +kernel) rfl, by decide +kernel⟩
theorem gs_L_cell : gl_S yL_cell := pw_t 190 (by decide +kernel) rfl
set_option maxRecDepth 20000 in
theorem gy_X3_init : gl_Y yX3_init cX3_init 4 none 2 := ⟨pw_t 637 rfl rfl, pw_t 4 (by decide +kernel) rfl, by decide +kernel⟩
theorem gi_X3_init : gl_I yX3_init := ⟨rfl, pw_t 636 (by decide +kernel) rfl⟩
set_option maxRecDepth 20000 in
theorem gy_X3_begin : gl_Y yX3_begin cX3_begin 3 (some .int) 1 := ⟨pw_t 701 rfl rfl, pw_t 4 (by decide +kernel) rfl, by decide +kernel⟩
theorem gv_X3_begin : gl_V yX3_begin := ⟨pw_t 699 (by decide +kernel) rfl, pw_t 700 (by decide +kernel) rfl⟩
set_option maxRecDepth 20000 in
theorem gy_X3_bodyIn : gl_Y yX3_bodyIn cX3_bodyIn 3 (some .int) 1 := ⟨pw_t 749 rfl rfl, pw_t 4 (by decide +kernel) rfl, by decide +kernel⟩
theorem gv_X3_bodyIn : gl_V yX3_bodyIn := ⟨pw_t 748 (by decide +kernel) rfl, pw_s 35 (by decide +kernel) rfl⟩
set_option maxRecDepth 20000 in
theorem gy_X3_bring : gl_Y yX3_bring cX3_bring 4 none 1 := ⟨pw_t 761 rfl rfl, pw_t 4 (by decide +kernel) rfl, by decide +kernel⟩
theorem gv_X3_bring : gl_V yX3_bring := ⟨pw_t 760 (by decide +kernel) rfl, pw_s 38 (by decide +kernel) rfl⟩
set_option maxRecDepth 20000 in
theorem gy_X3_drop : gl_Y yX3_drop cX3_drop 3 (some .boolean) 2 := ⟨pw_t 729 rfl rfl, pw_t 4 (by decide +kernel) rfl, by decide +kernel⟩
theorem gv_X3_drop : gl_V yX3_drop := ⟨pw_t 727 (by decide +kernel) rfl, pw_t 728 (by decide +kernel) rfl⟩
set_option maxRecDepth 20000 in
theorem gy_X3_end : gl_Y yX3_end cX3_end 3 (some .boolean) 1 := ⟨pw_t 717 rfl rfl, pw_t 4 (by decide +kernel) rfl, by decide +kernel⟩
theorem gv_X3_end : gl_V yX3_end := ⟨pw_t 715 (by decide +kernel) rfl, pw_t 716 (by decide +kernel) rfl⟩
set_option maxRecDepth 20000 in
theorem gy_X3_fails : gl_Y yX3_fails cX3_fails 6 (some .boolean) 3 := ⟨pw_t 741 rfl rfl, pw_t 4 (by decide +kernel) rfl, by decide +kernel⟩
theorem gv_X3_fails : gl_V yX3_fails := ⟨pw_t 740 (by decide +kernel) rfl, pw_s 33 (by decide +kernel) rfl⟩
set_option maxRecDepth 20000 in
theorem gy_X3_flush : gl_Y yX3_flush cX3_flush 5 (some .int) 0 := ⟨pw_t 781 rfl rfl, pw_t 4 (by decide +kernel) rfl, by decide +kernel⟩
theorem gv_X3_flush : gl_V yX3_flush := ⟨pw_t 779 (by decide +kernel) rfl, pw_t 780 (by decide +kernel) rfl⟩
set_option maxRecDepth 20000 in
theorem gy_X3_fork : gl_Y yX3_fork cX3_fork 4 (some .int) 1 := ⟨pw_t 709 rfl rfl, pw_t 4 (by decide +kernel) rfl, by decide +kernel⟩
theorem gv_X3_fork : gl_V yX3_fork := ⟨pw_t 707 (by decide +kernel) rfl, pw_t 708 (by decide +kernel) rfl⟩
set_option maxRecDepth 20000 in
theorem gy_X3_frame : gl_Y yX3_frame cX3_frame 5 (some .int) 2 := ⟨pw_t 789 rfl rfl, pw_t 4 (by decide +kernel) rfl, by decide +kernel⟩
theorem gv_X3_frame : gl_V yX3_frame := ⟨pw_t 787 (by decide +kernel) rfl, pw_t 788 (by decide +kernel) rfl⟩
set_option maxRecDepth 20000 in
theorem gy_X3_freeFrames : gl_Y yX3_freeFrames cX3_freeFrames 3 (some .int) 0 := ⟨pw_t 745 rfl rfl, pw_t 4 (by decide +kernel) rfl, by decide +kernel⟩
theorem gv_X3_freeFrames : gl_V yX3_freeFrames := ⟨pw_t 744 (by decide +kernel) rfl, pw_s 34 (by decide +kernel) rfl⟩
set_option maxRecDepth 20000 in
theorem gy_X3_freeSectors : gl_Y yX3_freeSectors cX3_freeSectors 3 (some .int) 0 := ⟨pw_t 753 rfl rfl, pw_t 4 (by decide +kernel) rfl, by decide +kernel⟩
theorem gv_X3_freeSectors : gl_V yX3_freeSectors := ⟨pw_t 752 (by decide +kernel) rfl, pw_s 36 (by decide +kernel) rfl⟩
set_option maxRecDepth 20000 in
theorem gy_X3_holders : gl_Y yX3_holders cX3_holders 4 (some .int) 1 := ⟨pw_t 725 rfl rfl, pw_t 4 (by decide +kernel) rfl, by decide +kernel⟩
theorem gv_X3_holders : gl_V yX3_holders := ⟨pw_t 724 (by decide +kernel) rfl, pw_s 31 (by decide +kernel) rfl⟩
set_option maxRecDepth 20000 in
theorem gy_X3_isPage : gl_Y yX3_isPage cX3_isPage 3 (some .boolean) 2 := ⟨pw_t 733 rfl rfl, pw_t 4 (by decide +kernel) rfl, by decide +kernel⟩
theorem gv_X3_isPage : gl_V yX3_isPage := ⟨pw_t 732 (by decide +kernel) rfl, pw_s 32 (by decide +kernel) rfl⟩
set_option maxRecDepth 20000 in
theorem gy_X3_isProcess : gl_Y yX3_isProcess cX3_isProcess 2 (some .boolean) 1 := ⟨pw_t 713 rfl rfl, pw_t 4 (by decide +kernel) rfl, by decide +kernel⟩
theorem gv_X3_isProcess : gl_V yX3_isProcess := ⟨pw_t 712 (by decide +kernel) rfl, pw_s 29 (by decide +kernel) rfl⟩
set_option maxRecDepth 20000 in
theorem gy_X3_isSectorFree : gl_Y yX3_isSectorFree cX3_isSectorFree 3 (some .boolean) 1 := ⟨pw_t 757 rfl rfl, pw_t 4 (by decide +kernel) rfl, by decide +kernel⟩
theorem gv_X3_isSectorFree : gl_V yX3_isSectorFree := ⟨pw_t 756 (by decide +kernel) rfl, pw_s 37 (by decide +kernel) rfl⟩
set_option maxRecDepth 20000 in
theorem gy_X3_leastProcess : gl_Y yX3_leastProcess cX3_leastProcess 2 (some .int) 0 := ⟨pw_t 705 rfl rfl, pw_t 4 (by decide +kernel) rfl, by decide +kernel⟩
theorem gv_X3_leastProcess : gl_V yX3_leastProcess := ⟨pw_t 704 (by decide +kernel) rfl, pw_s 28 (by decide +kernel) rfl⟩
set_option maxRecDepth 20000 in
theorem gy_X3_leave : gl_Y yX3_leave cX3_leave 3 none 1 := ⟨pw_t 721 rfl rfl, pw_t 4 (by decide +kernel) rfl, by decide +kernel⟩
theorem gv_X3_leave : gl_V yX3_leave := ⟨pw_t 720 (by decide +kernel) rfl, pw_s 30 (by decide +kernel) rfl⟩
set_option maxRecDepth 20000 in
theorem gy_X3_look : gl_Y yX3_look cX3_look 4 (some .int) 1 := ⟨pw_t 797 rfl rfl, pw_t 4 (by decide +kernel) rfl, by decide +kernel⟩
theorem gv_X3_look : gl_V yX3_look := ⟨pw_t 795 (by decide +kernel) rfl, pw_t 796 (by decide +kernel) rfl⟩
set_option maxRecDepth 20000 in
theorem gy_X3_newBody : gl_Y yX3_newBody cX3_newBody 3 (some .int) 1 := ⟨pw_t 777 rfl rfl, pw_t 4 (by decide +kernel) rfl, by decide +kernel⟩
theorem gv_X3_newBody : gl_V yX3_newBody := ⟨pw_t 776 (by decide +kernel) rfl, pw_s 41 (by decide +kernel) rfl⟩
set_option maxRecDepth 20000 in
theorem gy_X3_page : gl_Y yX3_page cX3_page 5 (some .int) 3 := ⟨pw_t 785 rfl rfl, pw_t 4 (by decide +kernel) rfl, by decide +kernel⟩
theorem gv_X3_page : gl_V yX3_page := ⟨pw_t 783 (by decide +kernel) rfl, pw_t 784 (by decide +kernel) rfl⟩
set_option maxRecDepth 20000 in
theorem gy_X3_read : gl_Y yX3_read cX3_read 4 (some .int) 2 := ⟨pw_t 737 rfl rfl, pw_t 4 (by decide +kernel) rfl, by decide +kernel⟩
theorem gv_X3_read : gl_V yX3_read := ⟨pw_t 735 (by decide +kernel) rfl, pw_t 736 (by decide +kernel) rfl⟩
set_option maxRecDepth 20000 in
theorem gy_X3_store : gl_Y yX3_store cX3_store 4 none 1 := ⟨pw_t 769 rfl rfl, pw_t 4 (by decide +kernel) rfl, by decide +kernel⟩
theorem gv_X3_store : gl_V yX3_store := ⟨pw_t 768 (by decide +kernel) rfl, pw_s 40 (by decide +kernel) rfl⟩
set_option maxRecDepth 20000 in
theorem gy_X3_stored : gl_Y yX3_stored cX3_stored 3 (some .int) 2 := ⟨pw_t 793 rfl rfl, pw_t 4 (by decide +kernel) rfl, by decide +kernel⟩
theorem gv_X3_stored : gl_V yX3_stored := ⟨pw_t 791 (by decide +kernel) rfl, pw_t 792 (by decide +kernel) rfl⟩
set_option maxRecDepth 20000 in
theorem gy_X3_take : gl_Y yX3_take cX3_take 4 (some .int) 1 := ⟨pw_t 765 rfl rfl, pw_t 4 (by decide +kernel) rfl, by decide +kernel⟩
theorem gv_X3_take : gl_V yX3_take := ⟨pw_t 764 (by decide +kernel) rfl, pw_s 39 (by decide +kernel) rfl⟩
set_option maxRecDepth 20000 in
theorem gy_X3_thrown : gl_Y yX3_thrown cX3_thrown 1 (some .int) 0 := ⟨pw_t 697 rfl rfl, pw_t 4 (by decide +kernel) rfl, by decide +kernel⟩
theorem gv_X3_thrown : gl_V yX3_thrown := ⟨pw_t 695 (by decide +kernel) rfl, pw_t 696 (by decide +kernel) rfl⟩
set_option maxRecDepth 20000 in
theorem gy_X3_write : gl_Y yX3_write cX3_write 10 (some .int) 3 := ⟨pw_t 773 rfl rfl, pw_t 4 (by decide +kernel) rfl, by decide +kernel⟩
theorem gv_X3_write : gl_V yX3_write := ⟨pw_t 771 (by decide +kernel) rfl, pw_t 772 (by decide +kernel) rfl⟩
set_option maxRecDepth 20000 in
theorem gy_J7_fill_fda19 : gl_Y yJ7_fill_fda19 cJ7_fill_fda19 5 none 4 := ⟨pw_t 369 rfl rfl, pw_t 12 (by decide +kernel) rfl, by decide +kernel⟩
theorem gs_J7_fill_fda19 : gl_S yJ7_fill_fda19 := pw_t 368 (by decide +kernel) rfl
set_option maxRecDepth 20000 in
theorem gy_J7_rangeCheck_23922 : gl_Y yJ7_rangeCheck_23922 cJ7_rangeCheck_23922 3 none 3 := ⟨pw_t 372 rfl rfl, pw_t 12 (by decide +kernel) rfl, by decide +kernel⟩
theorem gs_J7_rangeCheck_23922 : gl_S yJ7_rangeCheck_23922 := pw_t 371 (by decide +kernel) rfl
theorem cl_X2_18 : Cond.classLink RX2 18 RX1 ∈ pw_all := pw_t 36 (by decide +kernel) rfl
theorem cl_X2_38 : Cond.classLink RX2 38 RX0 ∈ pw_all := pw_t 54 (by decide +kernel) rfl
theorem cl_X1_9 : Cond.classLink RX1 9 RX0 ∈ pw_all := pw_t 42 (by decide +kernel) rfl
theorem cl_L_8 : Cond.classLink RL 8 RX2 ∈ pw_all := pw_t 22 (by decide +kernel) rfl
theorem cl_L_33 : Cond.classLink RL 33 RX3 ∈ pw_all := pw_t 633 (by decide +kernel) rfl
theorem in_X2 : Cond.instantiable RX2 11 ∈ pw_all := pw_t 23 (by decide +kernel) rfl
theorem in_X1 : Cond.instantiable RX1 2 ∈ pw_all := pw_t 37 (by decide +kernel) rfl
theorem in_X0 : Cond.instantiable RX0 5 ∈ pw_all := pw_t 338 (by decide +kernel) rfl
theorem in_X3 : Cond.instantiable RX3 18 ∈ pw_all := pw_t 634 (by decide +kernel) rfl
theorem ini_X0 : Cond.initialized RX0 ∈ pw_all := pw_t 11 (by decide +kernel) rfl
theorem ini_X1 : Cond.initialized RX1 ∈ pw_all := pw_t 3 (by decide +kernel) rfl
theorem ini_X2 : Cond.initialized RX2 ∈ pw_all := pw_t 1 (by decide +kernel) rfl
theorem ini_X3 : Cond.initialized RX3 ∈ pw_all := pw_t 4 (by decide +kernel) rfl
theorem ini_L : Cond.initialized RL ∈ pw_all := pw_t 0 (by decide +kernel) rfl
theorem ini_J7 : Cond.initialized RJ7 ∈ pw_all := pw_t 12 (by decide +kernel) rfl
abbrev vwc : List vw_C := [(RX0, TX0, 5), (RX1, TX1, 2), (RX2, TX2, 11), (RX3, TX3, 18)]
end
section
/-- what a method's walk is held against: the machine's own things, then the number of locals, the classes' numbers, the array classes, what may be written -/
abbrev gx_T : Type := (Program × Launch × Env × Room × State × MethodId × Array Value × List Frame × Method × Code × (State → Prop)) × (Nat × va_G × List (ClassId × FieldType) × (Nat → Prop))
/-- the machine goes on from pc with the locals lv and the stack st, over the world ws, k cells of n slots having been made -/
def gV (X : gx_T) (k n : Nat) (ws : va_W) (pc : Nat) (lv : List (Nat × Value)) (st : List Value) : Prop :=
  match X with
  | ((p, l, e, R, s, m, args, below, meth, c, Q), (nL, D, tys, A)) => ∀ (H : Heap) (locs : List Loc) (ls : Array Slot), va_P D vwc ws H → va_D A ws → va_S A s.heap H locs → lv_has ls nL lv → W p l e R s m args below meth c H locs k n Q (F0 m pc ls st)
def gQ (post : Option Value → va_W → Prop) (D : va_G) (A : Nat → Prop) : Array Value → State → Outcome → State → Prop := fun _ st oc t =>
  (∃ (r : Option Value) (w : va_W), oc = .returned r ∧ post r w ∧ va_P D vwc w t.heap ∧ va_D A w) ∧ va_F A st t
/-- what is the same all through a method -/
def gC (X : gx_T) (cc : ByteArray) (nL : Nat) (own : String) (rm : Room) (rt : Option FieldType) (D : va_G) (tys : List (ClassId × FieldType)) (post : Option Value → va_W → Prop) : Prop :=
  match X with
  | ((p, l, e, R, s, m, args, below, meth, c, Q), (nL', D', tys', A)) =>
    p.tables.exec = Jvm.exec ∧ c.code = cc ∧ c.maxLocals = nL ∧ s.vm.findClass own = some m.cls ∧ (∀ w ∈ pw_all, w.before args s = true) ∧ (∀ w ∈ pw_nst, va_Nw w s) ∧ va_K D' vwc tys' s ∧ (∀ q, s.heap.size ≤ q → A q) ∧ meth.locks = false ∧
    nL' = nL ∧ R = rm ∧ D' = D ∧ tys' = tys ∧ l.stackTraces = false ∧ meth.sig.returnType = rt ∧
    ∀ (H : Heap) (locs : List Loc) (k n : Nat) (g : JFrame), W p l e R s m args below meth c H locs k n (MQ below (gQ post D' A) args s rm.cells rm.slots A) g → W p l e R s m args below meth c H locs k n Q g
/-- where a method begins -/
def gP (D : va_G) (tys : List (ClassId × FieldType)) (ws : va_W) (sz : Nat) (U : State) : Prop := U.heap.size = sz ∧ va_P D vwc ws U.heap ∧ va_K D vwc tys U ∧ (∀ w ∈ pw_nst, va_Nw w U) ∧ va_D (fun _ => True) ws
/-- a contract: called with av over the world ws, it returns r and leaves the world w, as post says -/
def gM (y : MethodName) (bytes : ByteArray) (maxL : Nat) (rt : Option FieldType) (rm : Room) (D : va_G) (tys : List (ClassId × FieldType)) (ws : va_W) (av : List Value) (post : Option Value → va_W → Prop) : Prop :=
  ∀ (l : Launch) (sz : Nat), l.stackTraces = false → Met l y (Cond.code y bytes maxL rt :: pw_all) rm (va_Pc av (gP D tys ws sz)) (gQ post D (va_A ws sz)) rm.cells rm.slots (va_A ws sz)
theorem gP_blind {av : List Value} {D : va_G} {tys : List (ClassId × FieldType)} {ws : va_W} {sz : Nat} : FrameBlind (va_Pc av (gP D tys ws sz)) := by
  intro a U g mk h
  obtain ⟨h0, h1, h2, h3, h4, h5⟩ := h
  exact ⟨h0, h1, h2, va_K.moved (u := U) (U := U.calling g mk a) (Vm.Alike.refl U.vm) h3, fun w hw => pw_nst_same hw (u := U) (U := U.calling g mk a) rfl (h4 w hw), h5⟩
theorem gM_intro {y : MethodName} {bytes : ByteArray} {maxL : Nat} {rt : Option FieldType} {rm : Room} {D : va_G} {tys : List (ClassId × FieldType)} {ws : va_W} {av : List Value} {post : Option Value → va_W → Prop}
    (hy : plainName y.cls = true) (hav : (lg_sl av).length ≤ maxL) (h : ∀ X : gx_T, gC X bytes maxL y.cls rm rt D tys post → gV X 0 0 ws 0 (lv_args 0 av) []) : gM y bytes maxL rt rm D tys ws av post := by
  intro l sz hl0
  refine Met.ofW (cc := bytes) (maxL := maxL) (ret := rt) hy rfl ?_
  intro p e s m args below meth c s₁ B hml hv
  obtain ⟨rfl, hsz, hP, hK, hN, hD0⟩ := hv
  subst hsz
  have hts := atoms_spec (ws := Cond.code y bytes maxL rt :: pw_all) B.pre
  have hl := lv_entry av (n := maxL) hav
  rw [lg_entry_eq]
  exact h ((p, l, e, rm, s, m, av.toArray, below, meth, c, MQ below (gQ post D (va_A ws s.heap.size)) av.toArray s rm.cells rm.slots (va_A ws s.heap.size)), (maxL, D, tys, va_A ws s.heap.size))
    ⟨B.exec, B.bytes, hml, findClass_of_methodNamed B.named, fun w hw => hts w (List.mem_cons_of_mem _ hw), hN, hK, fun q hq => Or.inr hq, B.notSynchronized, rfl, rfl, rfl, rfl, hl0, B.returns, fun _ _ _ _ _ k => k⟩
    s.heap [] _ hP (hD0.self (sz := s.heap.size)) va_S.rf hl
/-- the caller's other cells beside what came back -/
theorem gj_join {A0 : Nat → Prop} {D : va_G} {cl : List vw_C} {wc wr w1 : va_W} {H H1 : Heap} (hP : va_P D cl (wc ++ wr) H) (hD : va_D A0 (wc ++ wr))
    (hk : ∀ q : Nat, q < H.size → ¬ va_A wc H.size q → H1[q]? = H[q]?) (hF : ∀ q, va_A wc H.size q → A0 q) (hP1 : va_P D cl w1 H1) (hD1 : va_D (va_A wc H.size) w1) : va_P D cl (w1 ++ wr) H1 ∧ va_D A0 (w1 ++ wr) := by
  have at' : ∀ (k : Nat) (q : Nat × va_E), wr[k]? = some q → (wc ++ wr)[wc.length + k]? = some q := by
    intro k q h
    rw [List.getElem?_append_right (Nat.le_add_right _ _), Nat.add_sub_cancel_left]
    exact h
  have apart : ∀ (k : Nat) (q : Nat × va_E), wr[k]? = some q → q.1 < H.size ∧ ¬ va_A wc H.size q.1 := by
    intro k q h
    have h1 := at' k q h
    refine ⟨(hP _ q h1).lt, fun hA => ?_⟩
    rcases hA with ⟨k2, e2, h2⟩ | h2
    · have hl2 : k2 < wc.length := (List.getElem?_eq_some_iff.mp h2).1
      have h3 : (wc ++ wr)[k2]? = some (q.1, e2) := by rw [List.getElem?_append_left hl2]; exact h2
      have h4 := hD.1 _ _ q (q.1, e2) h1 h3 rfl
      omega
    · have := (hP _ q h1).lt
      omega
  refine ⟨va_P.app hP1 (fun k q h => (hP _ q (at' k q h)).kept (hk q.1 (apart k q h).1 (apart k q h).2)), va_D.app (hD1.weaken (fun _ q _ h => hF q.1 h)) ⟨fun i j x y hx hy hxy => ?_, fun k q h => hD.2 _ q (at' k q h)⟩ (fun i j x y hx hy hxy => (apart j y hy).2 (by rw [← hxy]; exact hD1.2 i x hx))⟩
  have := hD.1 _ _ x y (at' i x hx) (at' j y hy) hxy
  omega
theorem gj_free {A0 : Nat → Prop} {wc wr : va_W} {H0 H : Heap} {locs : List Loc} (hD : va_D A0 (wc ++ wr)) (hS : va_S A0 H0 H locs) (hA : ∀ q, H0.size ≤ q → A0 q) : ∀ q, va_A wc H.size q → A0 q := by
  intro q h
  rcases h with ⟨k, e, h⟩ | h
  · have hl : k < wc.length := (List.getElem?_eq_some_iff.mp h).1
    exact hD.2 k (q, e) (by rw [List.getElem?_append_left hl]; exact h)
  · exact hA q (Nat.le_trans hS.1 h)
section GVR
variable {X : gx_T} {cc : ByteArray} {nL : Nat} {own : String} {rm : Room} {rt : Option FieldType} {D : va_G} {tys : List (ClassId × FieldType)} {post : Option Value → va_W → Prop} {k n : Nat} {ws : va_W} {pc : Nat} {lv : List (Nat × Value)} {st : List Value}
theorem gV_iconst (C : gC X cc nL own rm rt D tys post) {z : Int} {v : Int32} (hdg : decode cc pc = .ok (.iconst z, 1)) (hv : Int32.ofInt z = v) (kk : gV X k n ws (pc + 1) lv (.int v :: st)) : gV X k n ws pc lv (st) := by
  obtain ⟨⟨p, l, e, R, s, m, args, below, meth, c, Q⟩, nL', D', tys', A⟩ := X
  obtain ⟨hx, hb, hml, hown, hts, hN, hK, hA, hlks, rfl, rfl, rfl, rfl, hl0, hr, hret⟩ := C
  intro H locs ls hP hD hS hl
  exact lv_iconst hx hb hdg hv (kk H locs ls hP hD hS hl)
theorem gV_bipush (C : gC X cc nL own rm rt D tys post) {z : Int} {v : Int32} (hdg : decode cc pc = .ok (.bipush z, 2)) (hv : (Int8.ofInt z).toInt32 = v) (kk : gV X k n ws (pc + 2) lv (.int v :: st)) : gV X k n ws pc lv (st) := by
  obtain ⟨⟨p, l, e, R, s, m, args, below, meth, c, Q⟩, nL', D', tys', A⟩ := X
  obtain ⟨hx, hb, hml, hown, hts, hN, hK, hA, hlks, rfl, rfl, rfl, rfl, hl0, hr, hret⟩ := C
  intro H locs ls hP hD hS hl
  exact lv_bipush hx hb hdg hv (kk H locs ls hP hD hS hl)
theorem gV_sipush (C : gC X cc nL own rm rt D tys post) {z : Int} {v : Int32} (hdg : decode cc pc = .ok (.sipush z, 3)) (hv : (Int16.ofInt z).toInt32 = v) (kk : gV X k n ws (pc + 3) lv (.int v :: st)) : gV X k n ws pc lv (st) := by
  obtain ⟨⟨p, l, e, R, s, m, args, below, meth, c, Q⟩, nL', D', tys', A⟩ := X
  obtain ⟨hx, hb, hml, hown, hts, hN, hK, hA, hlks, rfl, rfl, rfl, rfl, hl0, hr, hret⟩ := C
  intro H locs ls hP hD hS hl
  exact lv_sipush hx hb hdg hv (kk H locs ls hP hD hS hl)
theorem gV_lconst (C : gC X cc nL own rm rt D tys post) {z : Fin 2} {v : Int64} (hdg : decode cc pc = .ok (.lconst z, 1)) (hv : Int64.ofNat (z : Nat) = v) (kk : gV X k n ws (pc + 1) lv (.long v :: st)) : gV X k n ws pc lv (st) := by
  obtain ⟨⟨p, l, e, R, s, m, args, below, meth, c, Q⟩, nL', D', tys', A⟩ := X
  obtain ⟨hx, hb, hml, hown, hts, hN, hK, hA, hlks, rfl, rfl, rfl, rfl, hl0, hr, hret⟩ := C
  intro H locs ls hP hD hS hl
  exact lv_lconst hx hb hdg hv (kk H locs ls hP hD hS hl)
theorem gV_iadd (C : gC X cc nL own rm rt D tys post) {x y : Int32} (hdg : decode cc pc = .ok (.iadd, 1))  (kk : gV X k n ws (pc + 1) lv (.int (x + y) :: st)) : gV X k n ws pc lv (.int y :: .int x :: st) := by
  obtain ⟨⟨p, l, e, R, s, m, args, below, meth, c, Q⟩, nL', D', tys', A⟩ := X
  obtain ⟨hx, hb, hml, hown, hts, hN, hK, hA, hlks, rfl, rfl, rfl, rfl, hl0, hr, hret⟩ := C
  intro H locs ls hP hD hS hl
  exact lv_iadd hx hb hdg  (kk H locs ls hP hD hS hl)
theorem gV_isub (C : gC X cc nL own rm rt D tys post) {x y : Int32} (hdg : decode cc pc = .ok (.isub, 1))  (kk : gV X k n ws (pc + 1) lv (.int (x - y) :: st)) : gV X k n ws pc lv (.int y :: .int x :: st) := by
  obtain ⟨⟨p, l, e, R, s, m, args, below, meth, c, Q⟩, nL', D', tys', A⟩ := X
  obtain ⟨hx, hb, hml, hown, hts, hN, hK, hA, hlks, rfl, rfl, rfl, rfl, hl0, hr, hret⟩ := C
  intro H locs ls hP hD hS hl
  exact lv_isub hx hb hdg  (kk H locs ls hP hD hS hl)
theorem gV_imul (C : gC X cc nL own rm rt D tys post) {x y : Int32} (hdg : decode cc pc = .ok (.imul, 1))  (kk : gV X k n ws (pc + 1) lv (.int (x * y) :: st)) : gV X k n ws pc lv (.int y :: .int x :: st) := by
  obtain ⟨⟨p, l, e, R, s, m, args, below, meth, c, Q⟩, nL', D', tys', A⟩ := X
  obtain ⟨hx, hb, hml, hown, hts, hN, hK, hA, hlks, rfl, rfl, rfl, rfl, hl0, hr, hret⟩ := C
  intro H locs ls hP hD hS hl
  exact lv_imul hx hb hdg  (kk H locs ls hP hD hS hl)
theorem gV_iand (C : gC X cc nL own rm rt D tys post) {x y : Int32} (hdg : decode cc pc = .ok (.iand, 1))  (kk : gV X k n ws (pc + 1) lv (.int (x &&& y) :: st)) : gV X k n ws pc lv (.int y :: .int x :: st) := by
  obtain ⟨⟨p, l, e, R, s, m, args, below, meth, c, Q⟩, nL', D', tys', A⟩ := X
  obtain ⟨hx, hb, hml, hown, hts, hN, hK, hA, hlks, rfl, rfl, rfl, rfl, hl0, hr, hret⟩ := C
  intro H locs ls hP hD hS hl
  exact lv_iand hx hb hdg  (kk H locs ls hP hD hS hl)
theorem gV_idiv (C : gC X cc nL own rm rt D tys post) {x y : Int32} (hdg : decode cc pc = .ok (.idiv, 1)) (hne : ¬ y = 0) (kk : gV X k n ws (pc + 1) lv (.int (x / y) :: st)) : gV X k n ws pc lv (.int y :: .int x :: st) := by
  obtain ⟨⟨p, l, e, R, s, m, args, below, meth, c, Q⟩, nL', D', tys', A⟩ := X
  obtain ⟨hx, hb, hml, hown, hts, hN, hK, hA, hlks, rfl, rfl, rfl, rfl, hl0, hr, hret⟩ := C
  intro H locs ls hP hD hS hl
  exact lv_idiv hx hb hdg hne (kk H locs ls hP hD hS hl)
theorem gV_irem (C : gC X cc nL own rm rt D tys post) {x y : Int32} (hdg : decode cc pc = .ok (.irem, 1)) (hne : ¬ y = 0) (kk : gV X k n ws (pc + 1) lv (.int (x - x / y * y) :: st)) : gV X k n ws pc lv (.int y :: .int x :: st) := by
  obtain ⟨⟨p, l, e, R, s, m, args, below, meth, c, Q⟩, nL', D', tys', A⟩ := X
  obtain ⟨hx, hb, hml, hown, hts, hN, hK, hA, hlks, rfl, rfl, rfl, rfl, hl0, hr, hret⟩ := C
  intro H locs ls hP hD hS hl
  exact lv_irem hx hb hdg hne (kk H locs ls hP hD hS hl)
theorem gV_i2l (C : gC X cc nL own rm rt D tys post) {x : Int32} (hdg : decode cc pc = .ok (.i2l, 1))  (kk : gV X k n ws (pc + 1) lv (.long x.toInt64 :: st)) : gV X k n ws pc lv (.int x :: st) := by
  obtain ⟨⟨p, l, e, R, s, m, args, below, meth, c, Q⟩, nL', D', tys', A⟩ := X
  obtain ⟨hx, hb, hml, hown, hts, hN, hK, hA, hlks, rfl, rfl, rfl, rfl, hl0, hr, hret⟩ := C
  intro H locs ls hP hD hS hl
  exact lv_i2l hx hb hdg rfl (kk H locs ls hP hD hS hl)
theorem gV_dup (C : gC X cc nL own rm rt D tys post) {va : Value} (hdg : decode cc pc = .ok (.dup, 1)) (hva : va.category = 1) (kk : gV X k n ws (pc + 1) lv (va :: va :: st)) : gV X k n ws pc lv (va :: st) := by
  obtain ⟨⟨p, l, e, R, s, m, args, below, meth, c, Q⟩, nL', D', tys', A⟩ := X
  obtain ⟨hx, hb, hml, hown, hts, hN, hK, hA, hlks, rfl, rfl, rfl, rfl, hl0, hr, hret⟩ := C
  intro H locs ls hP hD hS hl
  exact lv_dup hx hb hdg hva (kk H locs ls hP hD hS hl)
theorem gV_pop (C : gC X cc nL own rm rt D tys post) {va : Value} (hdg : decode cc pc = .ok (.pop, 1)) (hva : va.category = 1) (kk : gV X k n ws (pc + 1) lv (st)) : gV X k n ws pc lv (va :: st) := by
  obtain ⟨⟨p, l, e, R, s, m, args, below, meth, c, Q⟩, nL', D', tys', A⟩ := X
  obtain ⟨hx, hb, hml, hown, hts, hN, hK, hA, hlks, rfl, rfl, rfl, rfl, hl0, hr, hret⟩ := C
  intro H locs ls hP hD hS hl
  exact lv_pop hx hb hdg hva (kk H locs ls hP hD hS hl)
theorem gV_dup_x1 (C : gC X cc nL own rm rt D tys post) {va vb : Value} (hdg : decode cc pc = .ok (.dup_x1, 1)) (hva : va.category = 1) (hvb : vb.category = 1) (kk : gV X k n ws (pc + 1) lv (va :: vb :: va :: st)) : gV X k n ws pc lv (va :: vb :: st) := by
  obtain ⟨⟨p, l, e, R, s, m, args, below, meth, c, Q⟩, nL', D', tys', A⟩ := X
  obtain ⟨hx, hb, hml, hown, hts, hN, hK, hA, hlks, rfl, rfl, rfl, rfl, hl0, hr, hret⟩ := C
  intro H locs ls hP hD hS hl
  exact lv_dup_x1 hx hb hdg hva hvb (kk H locs ls hP hD hS hl)
theorem gV_dup_x2 (C : gC X cc nL own rm rt D tys post) {va vb vc : Value} (hdg : decode cc pc = .ok (.dup_x2, 1)) (hva : va.category = 1) (hvb : vb.category = 1) (hvc : vc.category = 1) (kk : gV X k n ws (pc + 1) lv (va :: vb :: vc :: va :: st)) : gV X k n ws pc lv (va :: vb :: vc :: st) := by
  obtain ⟨⟨p, l, e, R, s, m, args, below, meth, c, Q⟩, nL', D', tys', A⟩ := X
  obtain ⟨hx, hb, hml, hown, hts, hN, hK, hA, hlks, rfl, rfl, rfl, rfl, hl0, hr, hret⟩ := C
  intro H locs ls hP hD hS hl
  exact lv_dup_x2 hx hb hdg hva hvb hvc (kk H locs ls hP hD hS hl)
theorem gV_dup2 (C : gC X cc nL own rm rt D tys post) {va vb : Value} (hdg : decode cc pc = .ok (.dup2, 1)) (hva : va.category = 1) (hvb : vb.category = 1) (kk : gV X k n ws (pc + 1) lv (va :: vb :: va :: vb :: st)) : gV X k n ws pc lv (va :: vb :: st) := by
  obtain ⟨⟨p, l, e, R, s, m, args, below, meth, c, Q⟩, nL', D', tys', A⟩ := X
  obtain ⟨hx, hb, hml, hown, hts, hN, hK, hA, hlks, rfl, rfl, rfl, rfl, hl0, hr, hret⟩ := C
  intro H locs ls hP hD hS hl
  exact lv_dup2_11 hx hb hdg hva hvb (kk H locs ls hP hD hS hl)
theorem gV_null (C : gC X cc nL own rm rt D tys post)  (hdg : decode cc pc = .ok (.aconst_null, 1))  (kk : gV X k n ws (pc + 1) lv (.null :: st)) : gV X k n ws pc lv (st) := by
  obtain ⟨⟨p, l, e, R, s, m, args, below, meth, c, Q⟩, nL', D', tys', A⟩ := X
  obtain ⟨hx, hb, hml, hown, hts, hN, hK, hA, hlks, rfl, rfl, rfl, rfl, hl0, hr, hret⟩ := C
  intro H locs ls hP hD hS hl
  exact lv_null hx hb hdg  (kk H locs ls hP hD hS hl)
theorem gV_iload_n (C : gC X cc nL own rm rt D tys post) {j : Fin 4} {i : Nat} {x : Int32} (hdg : decode cc pc = .ok (.iload_n j, 1)) (q : Nat) (hi : (j : Nat) = i) (hq : lv[q]? = some (i, .int x)) (kk : gV X k n ws (pc + 1) lv (.int x :: st)) : gV X k n ws pc lv st := by
  obtain ⟨⟨p, l, e, R, s, m, args, below, meth, c, Q⟩, nL', D', tys', A⟩ := X
  obtain ⟨hx, hb, hml, hown, hts, hN, hK, hA, hlks, rfl, rfl, rfl, rfl, hl0, hr, hret⟩ := C
  intro H locs ls hP hD hS hl
  exact lv_iload_n hx hb hdg hi (lv_at hl q hq) (kk H locs ls hP hD hS hl)
theorem gV_iload (C : gC X cc nL own rm rt D tys post) {i : Nat} {x : Int32} (hdg : decode cc pc = .ok (.iload i, 2)) (q : Nat) (hq : lv[q]? = some (i, .int x)) (kk : gV X k n ws (pc + 2) lv (.int x :: st)) : gV X k n ws pc lv st := by
  obtain ⟨⟨p, l, e, R, s, m, args, below, meth, c, Q⟩, nL', D', tys', A⟩ := X
  obtain ⟨hx, hb, hml, hown, hts, hN, hK, hA, hlks, rfl, rfl, rfl, rfl, hl0, hr, hret⟩ := C
  intro H locs ls hP hD hS hl
  exact lv_iload hx hb hdg (lv_at hl q hq) (kk H locs ls hP hD hS hl)
theorem gV_aload_n (C : gC X cc nL own rm rt D tys post) {j : Fin 4} {i : Nat} {x : Nat} (hdg : decode cc pc = .ok (.aload_n j, 1)) (q : Nat) (hi : (j : Nat) = i) (hq : lv[q]? = some (i, .ref x)) (kk : gV X k n ws (pc + 1) lv (.ref x :: st)) : gV X k n ws pc lv st := by
  obtain ⟨⟨p, l, e, R, s, m, args, below, meth, c, Q⟩, nL', D', tys', A⟩ := X
  obtain ⟨hx, hb, hml, hown, hts, hN, hK, hA, hlks, rfl, rfl, rfl, rfl, hl0, hr, hret⟩ := C
  intro H locs ls hP hD hS hl
  exact lv_aload_n hx hb hdg hi (lv_at hl q hq) (kk H locs ls hP hD hS hl)
theorem gV_aload (C : gC X cc nL own rm rt D tys post) {i : Nat} {x : Nat} (hdg : decode cc pc = .ok (.aload i, 2)) (q : Nat) (hq : lv[q]? = some (i, .ref x)) (kk : gV X k n ws (pc + 2) lv (.ref x :: st)) : gV X k n ws pc lv st := by
  obtain ⟨⟨p, l, e, R, s, m, args, below, meth, c, Q⟩, nL', D', tys', A⟩ := X
  obtain ⟨hx, hb, hml, hown, hts, hN, hK, hA, hlks, rfl, rfl, rfl, rfl, hl0, hr, hret⟩ := C
  intro H locs ls hP hD hS hl
  exact lv_aload hx hb hdg (lv_at hl q hq) (kk H locs ls hP hD hS hl)
theorem gV_aloadq_n (C : gC X cc nL own rm rt D tys post) {j : Fin 4} {i : Nat} {r : Option Nat} (hdg : decode cc pc = .ok (.aload_n j, 1)) (q : Nat) (hi : (j : Nat) = i) (hq : lv[q]? = some (i, va_rf r)) (kk : gV X k n ws (pc + 1) lv (va_rf r :: st)) : gV X k n ws pc lv st := by
  obtain ⟨⟨p, l, e, R, s, m, args, below, meth, c, Q⟩, nL', D', tys', A⟩ := X
  obtain ⟨hx, hb, hml, hown, hts, hN, hK, hA, hlks, rfl, rfl, rfl, rfl, hl0, hr, hret⟩ := C
  intro H locs ls hP hD hS hl
  cases r with
  | none => exact lv_aload_nN hx hb hdg hi (lv_at hl q hq) (kk H locs ls hP hD hS hl)
  | some a => exact lv_aload_n hx hb hdg hi (lv_at hl q hq) (kk H locs ls hP hD hS hl)
theorem gV_aloadq (C : gC X cc nL own rm rt D tys post) {i : Nat} {r : Option Nat} (hdg : decode cc pc = .ok (.aload i, 2)) (q : Nat) (hq : lv[q]? = some (i, va_rf r)) (kk : gV X k n ws (pc + 2) lv (va_rf r :: st)) : gV X k n ws pc lv st := by
  obtain ⟨⟨p, l, e, R, s, m, args, below, meth, c, Q⟩, nL', D', tys', A⟩ := X
  obtain ⟨hx, hb, hml, hown, hts, hN, hK, hA, hlks, rfl, rfl, rfl, rfl, hl0, hr, hret⟩ := C
  intro H locs ls hP hD hS hl
  cases r with
  | none => exact lv_aloadN hx hb hdg (lv_at hl q hq) (kk H locs ls hP hD hS hl)
  | some a => exact lv_aload hx hb hdg (lv_at hl q hq) (kk H locs ls hP hD hS hl)
theorem gV_istore_n (C : gC X cc nL own rm rt D tys post) {j : Fin 4} {i : Nat} {x : Int32} {lv' : List (Nat × Value)} (hdg : decode cc pc = .ok (.istore_n j, 1)) (hi : (j : Nat) = i) (hn : i < nL) (hq : (i, Value.int x) :: lv.filter (fun q => !(q.1 == i) && !(q.1 + 1 == i && q.2.category == 2)) = lv') (kk : gV X k n ws (pc + 1) lv' st) : gV X k n ws pc lv (Value.int x :: st) := by
  obtain ⟨⟨p, l, e, R, s, m, args, below, meth, c, Q⟩, nL', D', tys', A⟩ := X
  obtain ⟨hx, hb, hml, hown, hts, hN, hK, hA, hlks, rfl, rfl, rfl, rfl, hl0, hr, hret⟩ := C
  intro H locs ls hP hD hS hl
  exact lv_istore_n hx hb hdg hi hl hn hq (fun ls' hl' => kk H locs ls' hP hD hS hl')
theorem gV_istore (C : gC X cc nL own rm rt D tys post) {i : Nat} {x : Int32} {lv' : List (Nat × Value)} (hdg : decode cc pc = .ok (.istore i, 2)) (hn : i < nL) (hq : (i, Value.int x) :: lv.filter (fun q => !(q.1 == i) && !(q.1 + 1 == i && q.2.category == 2)) = lv') (kk : gV X k n ws (pc + 2) lv' st) : gV X k n ws pc lv (Value.int x :: st) := by
  obtain ⟨⟨p, l, e, R, s, m, args, below, meth, c, Q⟩, nL', D', tys', A⟩ := X
  obtain ⟨hx, hb, hml, hown, hts, hN, hK, hA, hlks, rfl, rfl, rfl, rfl, hl0, hr, hret⟩ := C
  intro H locs ls hP hD hS hl
  exact lv_istore hx hb hdg hl hn hq (fun ls' hl' => kk H locs ls' hP hD hS hl')
theorem gV_astore_n (C : gC X cc nL own rm rt D tys post) {j : Fin 4} {i : Nat} {x : Nat} {lv' : List (Nat × Value)} (hdg : decode cc pc = .ok (.astore_n j, 1)) (hi : (j : Nat) = i) (hn : i < nL) (hq : (i, Value.ref x) :: lv.filter (fun q => !(q.1 == i) && !(q.1 + 1 == i && q.2.category == 2)) = lv') (kk : gV X k n ws (pc + 1) lv' st) : gV X k n ws pc lv (Value.ref x :: st) := by
  obtain ⟨⟨p, l, e, R, s, m, args, below, meth, c, Q⟩, nL', D', tys', A⟩ := X
  obtain ⟨hx, hb, hml, hown, hts, hN, hK, hA, hlks, rfl, rfl, rfl, rfl, hl0, hr, hret⟩ := C
  intro H locs ls hP hD hS hl
  exact lv_astore_n hx hb hdg hi hl hn hq (fun ls' hl' => kk H locs ls' hP hD hS hl')
theorem gV_astore (C : gC X cc nL own rm rt D tys post) {i : Nat} {x : Nat} {lv' : List (Nat × Value)} (hdg : decode cc pc = .ok (.astore i, 2)) (hn : i < nL) (hq : (i, Value.ref x) :: lv.filter (fun q => !(q.1 == i) && !(q.1 + 1 == i && q.2.category == 2)) = lv') (kk : gV X k n ws (pc + 2) lv' st) : gV X k n ws pc lv (Value.ref x :: st) := by
  obtain ⟨⟨p, l, e, R, s, m, args, below, meth, c, Q⟩, nL', D', tys', A⟩ := X
  obtain ⟨hx, hb, hml, hown, hts, hN, hK, hA, hlks, rfl, rfl, rfl, rfl, hl0, hr, hret⟩ := C
  intro H locs ls hP hD hS hl
  exact lv_astore hx hb hdg hl hn hq (fun ls' hl' => kk H locs ls' hP hD hS hl')
theorem gV_astoreq_n (C : gC X cc nL own rm rt D tys post) {j : Fin 4} {i : Nat} {r : Option Nat} {lv' : List (Nat × Value)} (hdg : decode cc pc = .ok (.astore_n j, 1)) (hi : (j : Nat) = i) (hn : i < nL) (hq : (i, va_rf r) :: lv.filter (fun q => !(q.1 == i) && !(q.1 + 1 == i && q.2.category == 2)) = lv') (kk : gV X k n ws (pc + 1) lv' st) : gV X k n ws pc lv (va_rf r :: st) := by
  obtain ⟨⟨p, l, e, R, s, m, args, below, meth, c, Q⟩, nL', D', tys', A⟩ := X
  obtain ⟨hx, hb, hml, hown, hts, hN, hK, hA, hlks, rfl, rfl, rfl, rfl, hl0, hr, hret⟩ := C
  intro H locs ls hP hD hS hl
  cases r with
  | none => exact lv_astore_nN hx hb hdg hi hl hn hq (fun ls' hl' => kk H locs ls' hP hD hS hl')
  | some a => exact lv_astore_n hx hb hdg hi hl hn hq (fun ls' hl' => kk H locs ls' hP hD hS hl')
theorem gV_astoreq (C : gC X cc nL own rm rt D tys post) {i : Nat} {r : Option Nat} {lv' : List (Nat × Value)} (hdg : decode cc pc = .ok (.astore i, 2)) (hn : i < nL) (hq : (i, va_rf r) :: lv.filter (fun q => !(q.1 == i) && !(q.1 + 1 == i && q.2.category == 2)) = lv') (kk : gV X k n ws (pc + 2) lv' st) : gV X k n ws pc lv (va_rf r :: st) := by
  obtain ⟨⟨p, l, e, R, s, m, args, below, meth, c, Q⟩, nL', D', tys', A⟩ := X
  obtain ⟨hx, hb, hml, hown, hts, hN, hK, hA, hlks, rfl, rfl, rfl, rfl, hl0, hr, hret⟩ := C
  intro H locs ls hP hD hS hl
  cases r with
  | none => exact lv_astoreN hx hb hdg hl hn hq (fun ls' hl' => kk H locs ls' hP hD hS hl')
  | some a => exact lv_astore hx hb hdg hl hn hq (fun ls' hl' => kk H locs ls' hP hD hS hl')
theorem gV_iinc (C : gC X cc nL own rm rt D tys post) {i : Nat} {z : Int} {x v : Int32} {lv' : List (Nat × Value)} (hdg : decode cc pc = .ok (.iinc i z, 3)) (q : Nat) (hq : lv[q]? = some (i, .int x)) (hv : x + Int32.ofInt z = v) (hn : i < nL) (hq' : (i, Value.int v) :: lv.filter (fun q => !(q.1 == i) && !(q.1 + 1 == i && q.2.category == 2)) = lv') (kk : gV X k n ws (pc + 3) lv' st) : gV X k n ws pc lv st := by
  obtain ⟨⟨p, l, e, R, s, m, args, below, meth, c, Q⟩, nL', D', tys', A⟩ := X
  obtain ⟨hx, hb, hml, hown, hts, hN, hK, hA, hlks, rfl, rfl, rfl, rfl, hl0, hr, hret⟩ := C
  intro H locs ls hP hD hS hl
  exact lv_iinc hx hb hdg hl hq hv hn hq' (fun ls' hl' => kk H locs ls' hP hD hS hl')
theorem gV_icmp_eq (C : gC X cc nL own rm rt D tys post) {x y : Int32} {off : Int} (tgt : Nat) (hdg : decode cc pc = .ok (.if_icmp .eq off, 3)) (ht : (pc : Int) + off = (tgt : Int)) (kt : x = y → gV X k n ws tgt lv st) (kf : ¬ x = y → gV X k n ws (pc + 3) lv st) : gV X k n ws pc lv (.int y :: .int x :: st) := by
  obtain ⟨⟨p, l, e, R, s, m, args, below, meth, c, Q⟩, nL', D', tys', A⟩ := X
  obtain ⟨hx, hb, hml, hown, hts, hN, hK, hA, hlks, rfl, rfl, rfl, rfl, hl0, hr, hret⟩ := C
  intro H locs ls hP hD hS hl
  exact lv_icmp_eq hx hb hdg ht (fun h => kt h H locs ls hP hD hS hl) (fun h => kf h H locs ls hP hD hS hl)
theorem gV_if_eq (C : gC X cc nL own rm rt D tys post) {x : Int32} {off : Int} (tgt : Nat) (hdg : decode cc pc = .ok (.ifCond .eq off, 3)) (ht : (pc : Int) + off = (tgt : Int)) (kt : x = 0 → gV X k n ws tgt lv st) (kf : ¬ x = 0 → gV X k n ws (pc + 3) lv st) : gV X k n ws pc lv (.int x :: st) := by
  obtain ⟨⟨p, l, e, R, s, m, args, below, meth, c, Q⟩, nL', D', tys', A⟩ := X
  obtain ⟨hx, hb, hml, hown, hts, hN, hK, hA, hlks, rfl, rfl, rfl, rfl, hl0, hr, hret⟩ := C
  intro H locs ls hP hD hS hl
  exact lv_if_eq hx hb hdg ht (fun h => kt h H locs ls hP hD hS hl) (fun h => kf h H locs ls hP hD hS hl)
theorem gV_icmp_ne (C : gC X cc nL own rm rt D tys post) {x y : Int32} {off : Int} (tgt : Nat) (hdg : decode cc pc = .ok (.if_icmp .ne off, 3)) (ht : (pc : Int) + off = (tgt : Int)) (kt : ¬ x = y → gV X k n ws tgt lv st) (kf : x = y → gV X k n ws (pc + 3) lv st) : gV X k n ws pc lv (.int y :: .int x :: st) := by
  obtain ⟨⟨p, l, e, R, s, m, args, below, meth, c, Q⟩, nL', D', tys', A⟩ := X
  obtain ⟨hx, hb, hml, hown, hts, hN, hK, hA, hlks, rfl, rfl, rfl, rfl, hl0, hr, hret⟩ := C
  intro H locs ls hP hD hS hl
  exact lv_icmp_ne hx hb hdg ht (fun h => kt h H locs ls hP hD hS hl) (fun h => kf h H locs ls hP hD hS hl)
theorem gV_if_ne (C : gC X cc nL own rm rt D tys post) {x : Int32} {off : Int} (tgt : Nat) (hdg : decode cc pc = .ok (.ifCond .ne off, 3)) (ht : (pc : Int) + off = (tgt : Int)) (kt : ¬ x = 0 → gV X k n ws tgt lv st) (kf : x = 0 → gV X k n ws (pc + 3) lv st) : gV X k n ws pc lv (.int x :: st) := by
  obtain ⟨⟨p, l, e, R, s, m, args, below, meth, c, Q⟩, nL', D', tys', A⟩ := X
  obtain ⟨hx, hb, hml, hown, hts, hN, hK, hA, hlks, rfl, rfl, rfl, rfl, hl0, hr, hret⟩ := C
  intro H locs ls hP hD hS hl
  exact lv_if_ne hx hb hdg ht (fun h => kt h H locs ls hP hD hS hl) (fun h => kf h H locs ls hP hD hS hl)
theorem gV_icmp_lt (C : gC X cc nL own rm rt D tys post) {x y : Int32} {off : Int} (tgt : Nat) (hdg : decode cc pc = .ok (.if_icmp .lt off, 3)) (ht : (pc : Int) + off = (tgt : Int)) (kt : x < y → gV X k n ws tgt lv st) (kf : ¬ x < y → gV X k n ws (pc + 3) lv st) : gV X k n ws pc lv (.int y :: .int x :: st) := by
  obtain ⟨⟨p, l, e, R, s, m, args, below, meth, c, Q⟩, nL', D', tys', A⟩ := X
  obtain ⟨hx, hb, hml, hown, hts, hN, hK, hA, hlks, rfl, rfl, rfl, rfl, hl0, hr, hret⟩ := C
  intro H locs ls hP hD hS hl
  exact lv_icmp_lt hx hb hdg ht (fun h => kt h H locs ls hP hD hS hl) (fun h => kf h H locs ls hP hD hS hl)
theorem gV_if_lt (C : gC X cc nL own rm rt D tys post) {x : Int32} {off : Int} (tgt : Nat) (hdg : decode cc pc = .ok (.ifCond .lt off, 3)) (ht : (pc : Int) + off = (tgt : Int)) (kt : x < 0 → gV X k n ws tgt lv st) (kf : ¬ x < 0 → gV X k n ws (pc + 3) lv st) : gV X k n ws pc lv (.int x :: st) := by
  obtain ⟨⟨p, l, e, R, s, m, args, below, meth, c, Q⟩, nL', D', tys', A⟩ := X
  obtain ⟨hx, hb, hml, hown, hts, hN, hK, hA, hlks, rfl, rfl, rfl, rfl, hl0, hr, hret⟩ := C
  intro H locs ls hP hD hS hl
  exact lv_if_lt hx hb hdg ht (fun h => kt h H locs ls hP hD hS hl) (fun h => kf h H locs ls hP hD hS hl)
theorem gV_icmp_ge (C : gC X cc nL own rm rt D tys post) {x y : Int32} {off : Int} (tgt : Nat) (hdg : decode cc pc = .ok (.if_icmp .ge off, 3)) (ht : (pc : Int) + off = (tgt : Int)) (kt : y ≤ x → gV X k n ws tgt lv st) (kf : ¬ y ≤ x → gV X k n ws (pc + 3) lv st) : gV X k n ws pc lv (.int y :: .int x :: st) := by
  obtain ⟨⟨p, l, e, R, s, m, args, below, meth, c, Q⟩, nL', D', tys', A⟩ := X
  obtain ⟨hx, hb, hml, hown, hts, hN, hK, hA, hlks, rfl, rfl, rfl, rfl, hl0, hr, hret⟩ := C
  intro H locs ls hP hD hS hl
  exact lv_icmp_ge hx hb hdg ht (fun h => kt h H locs ls hP hD hS hl) (fun h => kf h H locs ls hP hD hS hl)
theorem gV_if_ge (C : gC X cc nL own rm rt D tys post) {x : Int32} {off : Int} (tgt : Nat) (hdg : decode cc pc = .ok (.ifCond .ge off, 3)) (ht : (pc : Int) + off = (tgt : Int)) (kt : 0 ≤ x → gV X k n ws tgt lv st) (kf : ¬ 0 ≤ x → gV X k n ws (pc + 3) lv st) : gV X k n ws pc lv (.int x :: st) := by
  obtain ⟨⟨p, l, e, R, s, m, args, below, meth, c, Q⟩, nL', D', tys', A⟩ := X
  obtain ⟨hx, hb, hml, hown, hts, hN, hK, hA, hlks, rfl, rfl, rfl, rfl, hl0, hr, hret⟩ := C
  intro H locs ls hP hD hS hl
  exact lv_if_ge hx hb hdg ht (fun h => kt h H locs ls hP hD hS hl) (fun h => kf h H locs ls hP hD hS hl)
theorem gV_icmp_gt (C : gC X cc nL own rm rt D tys post) {x y : Int32} {off : Int} (tgt : Nat) (hdg : decode cc pc = .ok (.if_icmp .gt off, 3)) (ht : (pc : Int) + off = (tgt : Int)) (kt : y < x → gV X k n ws tgt lv st) (kf : ¬ y < x → gV X k n ws (pc + 3) lv st) : gV X k n ws pc lv (.int y :: .int x :: st) := by
  obtain ⟨⟨p, l, e, R, s, m, args, below, meth, c, Q⟩, nL', D', tys', A⟩ := X
  obtain ⟨hx, hb, hml, hown, hts, hN, hK, hA, hlks, rfl, rfl, rfl, rfl, hl0, hr, hret⟩ := C
  intro H locs ls hP hD hS hl
  exact lv_icmp_gt hx hb hdg ht (fun h => kt h H locs ls hP hD hS hl) (fun h => kf h H locs ls hP hD hS hl)
theorem gV_if_gt (C : gC X cc nL own rm rt D tys post) {x : Int32} {off : Int} (tgt : Nat) (hdg : decode cc pc = .ok (.ifCond .gt off, 3)) (ht : (pc : Int) + off = (tgt : Int)) (kt : 0 < x → gV X k n ws tgt lv st) (kf : ¬ 0 < x → gV X k n ws (pc + 3) lv st) : gV X k n ws pc lv (.int x :: st) := by
  obtain ⟨⟨p, l, e, R, s, m, args, below, meth, c, Q⟩, nL', D', tys', A⟩ := X
  obtain ⟨hx, hb, hml, hown, hts, hN, hK, hA, hlks, rfl, rfl, rfl, rfl, hl0, hr, hret⟩ := C
  intro H locs ls hP hD hS hl
  exact lv_if_gt hx hb hdg ht (fun h => kt h H locs ls hP hD hS hl) (fun h => kf h H locs ls hP hD hS hl)
theorem gV_icmp_le (C : gC X cc nL own rm rt D tys post) {x y : Int32} {off : Int} (tgt : Nat) (hdg : decode cc pc = .ok (.if_icmp .le off, 3)) (ht : (pc : Int) + off = (tgt : Int)) (kt : x ≤ y → gV X k n ws tgt lv st) (kf : ¬ x ≤ y → gV X k n ws (pc + 3) lv st) : gV X k n ws pc lv (.int y :: .int x :: st) := by
  obtain ⟨⟨p, l, e, R, s, m, args, below, meth, c, Q⟩, nL', D', tys', A⟩ := X
  obtain ⟨hx, hb, hml, hown, hts, hN, hK, hA, hlks, rfl, rfl, rfl, rfl, hl0, hr, hret⟩ := C
  intro H locs ls hP hD hS hl
  exact lv_icmp_le hx hb hdg ht (fun h => kt h H locs ls hP hD hS hl) (fun h => kf h H locs ls hP hD hS hl)
theorem gV_if_le (C : gC X cc nL own rm rt D tys post) {x : Int32} {off : Int} (tgt : Nat) (hdg : decode cc pc = .ok (.ifCond .le off, 3)) (ht : (pc : Int) + off = (tgt : Int)) (kt : x ≤ 0 → gV X k n ws tgt lv st) (kf : ¬ x ≤ 0 → gV X k n ws (pc + 3) lv st) : gV X k n ws pc lv (.int x :: st) := by
  obtain ⟨⟨p, l, e, R, s, m, args, below, meth, c, Q⟩, nL', D', tys', A⟩ := X
  obtain ⟨hx, hb, hml, hown, hts, hN, hK, hA, hlks, rfl, rfl, rfl, rfl, hl0, hr, hret⟩ := C
  intro H locs ls hP hD hS hl
  exact lv_if_le hx hb hdg ht (fun h => kt h H locs ls hP hD hS hl) (fun h => kf h H locs ls hP hD hS hl)
theorem gV_goto (C : gC X cc nL own rm rt D tys post) {off : Int} (tgt : Nat) (hdg : decode cc pc = .ok (.goto off, 3)) (ht : (pc : Int) + off = (tgt : Int)) (kk : gV X k n ws tgt lv st) : gV X k n ws pc lv st := by
  obtain ⟨⟨p, l, e, R, s, m, args, below, meth, c, Q⟩, nL', D', tys', A⟩ := X
  obtain ⟨hx, hb, hml, hown, hts, hN, hK, hA, hlks, rfl, rfl, rfl, rfl, hl0, hr, hret⟩ := C
  intro H locs ls hP hD hS hl
  exact lv_goto hx hb hdg ht (kk H locs ls hP hD hS hl)
theorem gV_ifnull (C : gC X cc nL own rm rt D tys post) {r : Option Nat} {off : Int} (tgt : Nat) (hdg : decode cc pc = .ok (.ifnull off, 3)) (ht : (pc : Int) + off = (tgt : Int)) (kt : r = none → gV X k n ws tgt lv st) (kf : ∀ a, r = some a → gV X k n ws (pc + 3) lv st) : gV X k n ws pc lv (va_rf r :: st) := by
  obtain ⟨⟨p, l, e, R, s, m, args, below, meth, c, Q⟩, nL', D', tys', A⟩ := X
  obtain ⟨hx, hb, hml, hown, hts, hN, hK, hA, hlks, rfl, rfl, rfl, rfl, hl0, hr, hret⟩ := C
  intro H locs ls hP hD hS hl
  cases r with
  | none => exact lv_ifnullN hx hb hdg ht (kt rfl H locs ls hP hD hS hl)
  | some a => exact lv_ifnull hx hb hdg (kf a rfl H locs ls hP hD hS hl)
theorem gV_ifnonnull (C : gC X cc nL own rm rt D tys post) {r : Option Nat} {off : Int} (tgt : Nat) (hdg : decode cc pc = .ok (.ifnonnull off, 3)) (ht : (pc : Int) + off = (tgt : Int)) (kt : ∀ a, r = some a → gV X k n ws tgt lv st) (kf : r = none → gV X k n ws (pc + 3) lv st) : gV X k n ws pc lv (va_rf r :: st) := by
  obtain ⟨⟨p, l, e, R, s, m, args, below, meth, c, Q⟩, nL', D', tys', A⟩ := X
  obtain ⟨hx, hb, hml, hown, hts, hN, hK, hA, hlks, rfl, rfl, rfl, rfl, hl0, hr, hret⟩ := C
  intro H locs ls hP hD hS hl
  cases r with
  | none => exact lv_ifnonnullN hx hb hdg (kf rfl H locs ls hP hD hS hl)
  | some a => exact lv_ifnonnull hx hb hdg ht (kt a rfl H locs ls hP hD hS hl)
theorem gV_acmp_eq (C : gC X cc nL own rm rt D tys post) {rx ry : Option Nat} {off : Int} (tgt : Nat) (hdg : decode cc pc = .ok (.if_acmp .eq off, 3)) (ht : (pc : Int) + off = (tgt : Int)) (kt : rx = ry → gV X k n ws tgt lv st) (kf : ¬ rx = ry → gV X k n ws (pc + 3) lv st) : gV X k n ws pc lv (va_rf ry :: va_rf rx :: st) := by
  obtain ⟨⟨p, l, e, R, s, m, args, below, meth, c, Q⟩, nL', D', tys', A⟩ := X
  obtain ⟨hx, hb, hml, hown, hts, hN, hK, hA, hlks, rfl, rfl, rfl, rfl, hl0, hr, hret⟩ := C
  intro H locs ls hP hD hS hl
  exact lv_acmp_eq hx hb hdg ht (fun h => kt h H locs ls hP hD hS hl) (fun h => kf h H locs ls hP hD hS hl)
theorem gV_acmp_ne (C : gC X cc nL own rm rt D tys post) {rx ry : Option Nat} {off : Int} (tgt : Nat) (hdg : decode cc pc = .ok (.if_acmp .ne off, 3)) (ht : (pc : Int) + off = (tgt : Int)) (kt : ¬ rx = ry → gV X k n ws tgt lv st) (kf : rx = ry → gV X k n ws (pc + 3) lv st) : gV X k n ws pc lv (va_rf ry :: va_rf rx :: st) := by
  obtain ⟨⟨p, l, e, R, s, m, args, below, meth, c, Q⟩, nL', D', tys', A⟩ := X
  obtain ⟨hx, hb, hml, hown, hts, hN, hK, hA, hlks, rfl, rfl, rfl, rfl, hl0, hr, hret⟩ := C
  intro H locs ls hP hD hS hl
  exact lv_acmp_ne hx hb hdg ht (fun h => kt h H locs ls hP hD hS hl) (fun h => kf h H locs ls hP hD hS hl)
theorem gV_tableIn (C : gC X cc nL own rm rt D tys post) {dflt lo hi : Int} {offs : Array Int} {len : Nat} {x : Int32} {off : Int} (tgt : Nat) (hdg : decode cc pc = .ok (.tableswitch dflt lo hi offs, len)) (h1 : ¬ x.toInt < lo) (h2 : ¬ hi < x.toInt) (ho : offs[(x.toInt - lo).toNat]? = some off) (ht : (pc : Int) + off = (tgt : Int)) (kk : gV X k n ws tgt lv st) : gV X k n ws pc lv (.int x :: st) := by
  obtain ⟨⟨p, l, e, R, s, m, args, below, meth, c, Q⟩, nL', D', tys', A⟩ := X
  obtain ⟨hx, hb, hml, hown, hts, hN, hK, hA, hlks, rfl, rfl, rfl, rfl, hl0, hr, hret⟩ := C
  intro H locs ls hP hD hS hl
  exact lv_tableIn hx hb hdg h1 h2 ho ht (kk H locs ls hP hD hS hl)
theorem gV_tableOut (C : gC X cc nL own rm rt D tys post) {dflt lo hi : Int} {offs : Array Int} {len : Nat} {x : Int32} (tgt : Nat) (hdg : decode cc pc = .ok (.tableswitch dflt lo hi offs, len)) (h : x.toInt < lo ∨ hi < x.toInt) (ht : (pc : Int) + dflt = (tgt : Int)) (kk : gV X k n ws tgt lv st) : gV X k n ws pc lv (.int x :: st) := by
  obtain ⟨⟨p, l, e, R, s, m, args, below, meth, c, Q⟩, nL', D', tys', A⟩ := X
  obtain ⟨hx, hb, hml, hown, hts, hN, hK, hA, hlks, rfl, rfl, rfl, rfl, hl0, hr, hret⟩ := C
  intro H locs ls hP hD hS hl
  exact lv_tableOut hx hb hdg h ht (kk H locs ls hP hD hS hl)
theorem gV_lv {lv' : List (Nat × Value)} (ks : List Nat) (h : lv_pick lv ks = lv') (kk : gV X k n ws pc lv' st) : gV X k n ws pc lv st := by
  obtain ⟨⟨p, l, e, R, s, m, args, below, meth, c, Q⟩, nL', D', tys', A⟩ := X
  intro H locs ls hP hD hS hl
  exact kk H locs ls hP hD hS (lv_sub hl ks h)
theorem gV_widen {k' n' : Nat} (h1 : k ≤ k') (h2 : n ≤ n') (kk : gV X k' n' ws pc lv st) : gV X k n ws pc lv st := by
  obtain ⟨⟨p, l, e, R, s, m, args, below, meth, c, Q⟩, nL', D', tys', A⟩ := X
  intro H locs ls hP hD hS hl
  exact W.widen h1 h2 (kk H locs ls hP hD hS hl)
theorem gV_ws {ws' : va_W} (h : ws = ws') (kk : gV X k n ws' pc lv st) : gV X k n ws pc lv st := h ▸ kk
theorem gV_st {st' : List Value} (h : st = st') (kk : gV X k n ws pc lv st') : gV X k n ws pc lv st := h ▸ kk
theorem gV_iret (C : gC X cc nL own rm (some .int) D tys post) {v : Int32} (hdg : decode cc pc = .ok (.ireturn, 1)) (h1 : k ≤ rm.cells) (h2 : n ≤ rm.slots) (hp : post (some (.int v)) ws) : gV X k n ws pc lv [.int v] := by
  obtain ⟨⟨p, l, e, R, s, m, args, below, meth, c, Q⟩, nL', D', tys', A⟩ := X
  obtain ⟨hx, hb, hml, hown, hts, hN, hK, hA, hlks, rfl, rfl, rfl, rfl, hl0, hr, hret⟩ := C
  intro H locs ls hP hD hS hl
  refine W.widen h1 h2 (hret H locs _ _ _ ?_)
  exact W.iret hx hb hr (fun t ht hW => ⟨⟨_, ws, rfl, hp, by rw [ht]; exact hP, hD⟩, hS.F ht⟩) hS.2.2 hdg hlks
theorem gV_zret (C : gC X cc nL own rm (some .boolean) D tys post) {v : Int32} (hdg : decode cc pc = .ok (.ireturn, 1)) (hv : v = 0 ∨ v = 1) (h1 : k ≤ rm.cells) (h2 : n ≤ rm.slots) (hp : post (some (.int v)) ws) : gV X k n ws pc lv [.int v] := by
  obtain ⟨⟨p, l, e, R, s, m, args, below, meth, c, Q⟩, nL', D', tys', A⟩ := X
  obtain ⟨hx, hb, hml, hown, hts, hN, hK, hA, hlks, rfl, rfl, rfl, rfl, hl0, hr, hret⟩ := C
  intro H locs ls hP hD hS hl
  refine W.widen h1 h2 (hret H locs _ _ _ ?_)
  exact W.zret hx hb hr (by rcases hv with rfl | rfl <;> rfl) (fun t ht hW => ⟨⟨_, ws, rfl, hp, by rw [ht]; exact hP, hD⟩, hS.F ht⟩) hS.2.2 hdg hlks
theorem gV_vret (C : gC X cc nL own rm none D tys post) (hdg : decode cc pc = .ok (.return_, 1)) (h1 : k ≤ rm.cells) (h2 : n ≤ rm.slots) (hp : post none ws) : gV X k n ws pc lv [] := by
  obtain ⟨⟨p, l, e, R, s, m, args, below, meth, c, Q⟩, nL', D', tys', A⟩ := X
  obtain ⟨hx, hb, hml, hown, hts, hN, hK, hA, hlks, rfl, rfl, rfl, rfl, hl0, hr, hret⟩ := C
  intro H locs ls hP hD hS hl
  refine W.widen h1 h2 (hret H locs _ _ _ ?_)
  exact W.vret hx hb hr (fun t ht hW => ⟨⟨_, ws, rfl, hp, by rw [ht]; exact hP, hD⟩, hS.F ht⟩) hS.2.2 hdg hlks
theorem gV_aret {nm : String} (C : gC X cc nL own rm (some (.object nm)) D tys post) {r : Option Nat} (hdg : decode cc pc = .ok (.areturn, 1)) (h1 : k ≤ rm.cells) (h2 : n ≤ rm.slots) (hp : post (some (va_rf r)) ws) : gV X k n ws pc lv [va_rf r] := by
  obtain ⟨⟨p, l, e, R, s, m, args, below, meth, c, Q⟩, nL', D', tys', A⟩ := X
  obtain ⟨hx, hb, hml, hown, hts, hN, hK, hA, hlks, rfl, rfl, rfl, rfl, hl0, hr, hret⟩ := C
  intro H locs ls hP hD hS hl
  refine W.widen h1 h2 (hret H locs _ _ _ ?_)
  exact W.aret hx hb hr (Or.inl ⟨_, rfl⟩) (va_rf_or r) (fun t ht hW => ⟨⟨_, ws, rfl, hp, by rw [ht]; exact hP, hD⟩, hS.F ht⟩) hS.2.2 hdg hlks
end GVR
theorem gc_pre {D : va_G} {tys : List (ClassId × FieldType)} {wc wr : va_W} {A : Nat → Prop} {s : State} {H : Heap} {av : List Value} (hP : va_P D vwc (wc ++ wr) H) (hD : va_D A (wc ++ wr)) (hK : va_K D vwc tys s) (hN : ∀ w ∈ pw_nst, va_Nw w s) : PreS s H (va_Pc av (gP D tys wc H.size)) av := by
  refine ⟨gP_blind, fun U hU hW => ⟨rfl, by rw [hU], ?_, va_K.moved hW.alike hK, pw_nst_warm hW hN, ?_⟩⟩
  · rw [hU]
    intro k q hk
    exact hP k q (by rw [List.getElem?_append_left (List.getElem?_eq_some_iff.mp hk).1]; exact hk)
  · refine ⟨fun i j x y hi hj hxy => hD.1 i j x y ?_ ?_ hxy, fun _ _ _ => trivial⟩
    · rw [List.getElem?_append_left (List.getElem?_eq_some_iff.mp hi).1]; exact hi
    · rw [List.getElem?_append_left (List.getElem?_eq_some_iff.mp hj).1]; exact hj
theorem gc_words {s : State} {args : Array Value} (hts : ∀ w ∈ pw_all, w.before args s = true) {w : Cond} (h : w ∈ pw_all) : ∀ u ∈ w :: pw_all, ∀ (a' : Array Value) (U : State), s.WarmedH U.vm → u.before a' U = true := pay_in hts (pw_goodIn (pw_codeIn h))
section GVC
variable {X : gx_T} {cc : ByteArray} {nL : Nat} {own : String} {rm : Room} {rt : Option FieldType} {D : va_G} {tys : List (ClassId × FieldType)} {post : Option Value → va_W → Prop} {k n : Nat} {ws : va_W} {pc : Nat} {lv : List (Nat × Value)} {st : List Value}
variable {y : MethodName} {bytes : ByteArray} {maxL : Nat} {ret : Option FieldType} {np : Nat} {rm' : Room} {wc wr : va_W} {As rest : List Value} {b idx : Nat} {post' : Option Value → va_W → Prop}
/-- behind a call: what came back, beside the rest -/
theorem gc_back {p : Program} {l : Launch} {e : Env} {R : Room} {s : State} {m : MethodId} {args : Array Value} {below : List Frame} {meth : Method} {c : Code} {Q : State → Prop} {A : Nat → Prop} {nL : Nat} {H : Heap} {locs : List Loc} {ls : Array Slot} {mc ms : Nat} {a : Array Value}
    (hr : va_Run p l e R s m args below meth c H locs k n mc ms (F0 m pc ls st) rest (gQ post' D (va_A wc H.size) a) (va_A wc H.size)) (hP : va_P D vwc (wc ++ wr) H) (hD : va_D A (wc ++ wr)) (hS : va_S A s.heap H locs) (hA : ∀ q, s.heap.size ≤ q → A q) (hl : lv_has ls nL lv)
    (kk : ∀ r w, post' r w → gV ((p, l, e, R, s, m, args, below, meth, c, Q), (nL, D, tys, A)) (k + mc) (n + ms) (w ++ wr) (pc + 3) lv (r.toList ++ rest)) : W p l e R s m args below meth c H locs k n Q (F0 m pc ls st) := by
  intro T hT X
  obtain ⟨v, st₀, t, T', L, h0, X', hL, e1, e2, ⟨⟨r, w, hv, hp, hPw, hDw⟩, hz, hk⟩, go⟩ := hr T hT X
  cases hv
  rw [h0] at hz hk
  have hF := gj_free hD hS hA
  obtain ⟨hP2, hD2⟩ := gj_join (w1 := w) hP hD (H1 := T'.heap) (fun q h1 h2 => by rw [e1]; exact hk q h1 h2) hF (by rw [e1]; exact hPw) hDw
  have hS2 : va_S A s.heap T'.heap (locs ++ L) := ⟨Nat.le_trans hS.1 (by rw [e1]; exact hz), fun q h1 h2 => by rw [e1, hk q (Nat.lt_of_lt_of_le h1 hS.1) (fun z => h2 (hF q z))]; exact hS.2.1 q h1 h2, fun q hq => by
      rcases List.mem_append.mp hq with h | h
      · exact hS.2.2 q h
      · exact hF _ (hL q h)⟩
  obtain ⟨t2, a1, b1⟩ := kk v w hp T'.heap (locs ++ L) ls hP2 hD2 hS2 hl T' rfl X'
  exact ⟨t2, go t2 a1, b1⟩
theorem gV_callVr (C : gC X cc nL own rm rt D tys post) (hlk : gl_L own idx y) (hY : gl_Y y bytes maxL ret np) (hV : gl_V y) (hM : gM y bytes maxL ret rm' D tys wc (.ref b :: As) post') (hb0 : ∃ (q0 ci : Nat) (q : vw_C) (fs : List Value), wc[q0]? = some (b, .inr (ci, fs)) ∧ vwc[ci]? = some q ∧ q.1 = y.cls) (hn : As.length = np) (hst : st = As.reverse ++ .ref b :: rest) (hw : ws = wc ++ wr)
    (hR : rm'.frames + 1 ≤ rm.frames ∧ 8 + (maxL + 11) + rm'.locals ≤ rm.locals) (hcat : (rest.map fun v => v.category).sum ≤ 8) (h1 : k + rm'.cells ≤ rm.cells) (h2 : n + rm'.slots ≤ rm.slots) (hdg : decode cc pc = .ok (.invokevirtual idx, 3))
    (kk : ∀ r w, post' r w → gV X (k + rm'.cells) (n + rm'.slots) (w ++ wr) (pc + 3) lv (r.toList ++ rest)) : gV X k n ws pc lv st := by
  subst hw
  obtain ⟨⟨p, l, e, R, s, m, args, below, meth, c, Q⟩, nL', D', tys', A⟩ := X
  obtain ⟨hx, hb, hml, hown, hts, hN, hK, hA, hlks, rfl, rfl, rfl, rfl, hl0, hr, hret⟩ := C
  intro H locs ls hP hD hS hl
  have hpre := gc_pre (av := .ref b :: As) hP hD hK hN
  obtain ⟨q0, ci, q, fs, g1, g2, g3⟩ := hb0
  have hrecv := va_recv hK hP (q0 := q0) (ci := ci) (q := q) (fs := fs) (a := b) g2 (by rw [List.getElem?_append_left (List.getElem?_eq_some_iff.mp g1).1]; exact g1)
  rw [g3] at hrecv
  have hsig : ∀ sig, parseMethodDescriptor y.desc = some sig → np = sig.parameters.length := fun sig h => by
    have h9 := hY.2.2.2.2
    rw [h] at h9
    exact (Option.some.inj h9).symm
  have base := gc_words hts hY.1
  rcases hlk with hlk1 | ⟨host, hlk1⟩
  · exact gc_back (va_runV (C := y.cls) (b := b) (As := As) (rest := rest) ⟨hx, hb, hml, hown, hts⟩ (hM l H.size hl0) ⟨⟨rfl, rfl, hR.1, hR.2, base, List.mem_cons_self, hts _ hY.1, hts _ hY.2.1, ⟨hY.2.2.1, hY.2.2.2.1⟩, hsig, hts _ hlk1⟩, hts _ hV.1, hts _ hV.2⟩ ⟨hpre.1, hrecv, hpre.2⟩ rfl hn hl.1 hst (lv_room hcat) hdg ⟨h1, h2⟩) hP hD hS hA hl kk
  · exact gc_back (va_runVN (C := y.cls) (b := b) (host := host) (As := As) (rest := rest) ⟨hx, hb, hml, hown, hts⟩ (hM l H.size hl0) ⟨⟨⟨rfl, rfl, hR.1, hR.2, base, List.mem_cons_self⟩, hts _ hY.1, hts _ hY.2.1, ⟨hY.2.2.1, hY.2.2.2.1⟩, hsig, va_Nw.use rfl (hN _ hlk1)⟩, hts _ hV.1, hts _ hV.2⟩ ⟨hpre.1, hrecv, hpre.2⟩ rfl hn hl.1 hst (lv_room hcat) hdg ⟨h1, h2⟩) hP hD hS hA hl kk
theorem gV_callSr (C : gC X cc nL own rm rt D tys post) (hlk : gl_L own idx y) (hY : gl_Y y bytes maxL ret np) (hV : gl_S y) (hM : gM y bytes maxL ret rm' D tys wc As post') (hn : As.length = np) (hst : st = As.reverse ++ rest) (hw : ws = wc ++ wr)
    (hR : rm'.frames + 1 ≤ rm.frames ∧ 8 + (maxL + 11) + rm'.locals ≤ rm.locals) (hcat : (rest.map fun v => v.category).sum ≤ 8) (h1 : k + rm'.cells ≤ rm.cells) (h2 : n + rm'.slots ≤ rm.slots) (hdg : decode cc pc = .ok (.invokestatic idx, 3))
    (kk : ∀ r w, post' r w → gV X (k + rm'.cells) (n + rm'.slots) (w ++ wr) (pc + 3) lv (r.toList ++ rest)) : gV X k n ws pc lv st := by
  subst hw
  obtain ⟨⟨p, l, e, R, s, m, args, below, meth, c, Q⟩, nL', D', tys', A⟩ := X
  obtain ⟨hx, hb, hml, hown, hts, hN, hK, hA, hlks, rfl, rfl, rfl, rfl, hl0, hr, hret⟩ := C
  intro H locs ls hP hD hS hl
  have hpre := gc_pre (av := As) hP hD hK hN
  have hsig : ∀ sig, parseMethodDescriptor y.desc = some sig → np = sig.parameters.length := fun sig h => by
    have h9 := hY.2.2.2.2
    rw [h] at h9
    exact (Option.some.inj h9).symm
  have base := gc_words hts hY.1
  rcases hlk with hlk1 | ⟨host, hlk1⟩
  · exact gc_back (va_runS (As := As) (rest := rest) ⟨hx, hb, hml, hown, hts⟩ (hM l H.size hl0) ⟨⟨rfl, rfl, hR.1, hR.2, base, List.mem_cons_self, hts _ hY.1, hts _ hY.2.1, ⟨hY.2.2.1, hY.2.2.2.1⟩, hsig, hts _ hlk1⟩, hts _ hV⟩ hpre rfl hn hl.1 hst (lv_room hcat) hdg ⟨h1, h2⟩) hP hD hS hA hl kk
  · exact gc_back (va_runSN (host := host) (As := As) (rest := rest) ⟨hx, hb, hml, hown, hts⟩ (hM l H.size hl0) ⟨⟨⟨rfl, rfl, hR.1, hR.2, base, List.mem_cons_self⟩, hts _ hY.1, hts _ hY.2.1, ⟨hY.2.2.1, hY.2.2.2.1⟩, hsig, va_Nw.use rfl (hN _ hlk1)⟩, hts _ hV, trivial⟩ hpre rfl hn hl.1 hst (lv_room hcat) hdg ⟨h1, h2⟩) hP hD hS hA hl kk
theorem gV_callIr (C : gC X cc nL own rm rt D tys post) (hlk : gl_L own idx y) (hY : gl_Y y bytes maxL none np) (hV : gl_I y) (hM : gM y bytes maxL none rm' D tys wc (.ref b :: As) post') (hn : As.length = np) (hst : st = As.reverse ++ .ref b :: rest) (hw : ws = wc ++ wr)
    (hR : rm'.frames + 1 ≤ rm.frames ∧ 8 + (maxL + 11) + rm'.locals ≤ rm.locals) (hcat : (rest.map fun v => v.category).sum ≤ 8) (h1 : k + rm'.cells ≤ rm.cells) (h2 : n + rm'.slots ≤ rm.slots) (hdg : decode cc pc = .ok (.invokespecial idx, 3))
    (kk : ∀ r w, post' r w → gV X (k + rm'.cells) (n + rm'.slots) (w ++ wr) (pc + 3) lv (r.toList ++ rest)) : gV X k n ws pc lv st := by
  subst hw
  obtain ⟨⟨p, l, e, R, s, m, args, below, meth, c, Q⟩, nL', D', tys', A⟩ := X
  obtain ⟨hx, hb, hml, hown, hts, hN, hK, hA, hlks, rfl, rfl, rfl, rfl, hl0, hr, hret⟩ := C
  intro H locs ls hP hD hS hl
  have hpre := gc_pre (av := .ref b :: As) hP hD hK hN
  have hsig : ∀ sig, parseMethodDescriptor y.desc = some sig → np = sig.parameters.length := fun sig h => by
    have h9 := hY.2.2.2.2
    rw [h] at h9
    exact (Option.some.inj h9).symm
  have base := gc_words hts hY.1
  rcases hlk with hlk1 | ⟨host, hlk1⟩
  · exact gc_back (va_runI (b := b) (As := As) (rest := rest) ⟨hx, hb, hml, hown, hts⟩ (hM l H.size hl0) ⟨⟨rfl, rfl, hR.1, hR.2, base, List.mem_cons_self, hts _ hY.1, hts _ hY.2.1, ⟨hY.2.2.1, hY.2.2.2.1⟩, hsig, hts _ hlk1⟩, hV.1, hts _ hV.2⟩ hpre rfl hn hl.1 hst (lv_room hcat) hdg ⟨h1, h2⟩) hP hD hS hA hl kk
  · exact gc_back (va_runIN (b := b) (host := host) (As := As) (rest := rest) ⟨hx, hb, hml, hown, hts⟩ (hM l H.size hl0) ⟨⟨⟨rfl, rfl, hR.1, hR.2, base, List.mem_cons_self⟩, hts _ hY.1, hts _ hY.2.1, ⟨hY.2.2.1, hY.2.2.2.1⟩, hsig, va_Nw.use rfl (hN _ hlk1)⟩, hV.1, hts _ hV.2⟩ hpre rfl hn hl.1 hst (lv_room hcat) hdg ⟨h1, h2⟩) hP hD hS hA hl kk
/-- the whole world is the callee's -/
theorem gV_callV (C : gC X cc nL own rm rt D tys post) (hlk : gl_L own idx y) (hY : gl_Y y bytes maxL ret np) (hV : gl_V y) (hM : gM y bytes maxL ret rm' D tys ws (.ref b :: As) post') (hb0 : ∃ (q0 ci : Nat) (q : vw_C) (fs : List Value), ws[q0]? = some (b, .inr (ci, fs)) ∧ vwc[ci]? = some q ∧ q.1 = y.cls) (hn : As.length = np) (hst : st = As.reverse ++ .ref b :: rest)
    (hR : rm'.frames + 1 ≤ rm.frames ∧ 8 + (maxL + 11) + rm'.locals ≤ rm.locals) (hcat : (rest.map fun v => v.category).sum ≤ 8) (h1 : k + rm'.cells ≤ rm.cells) (h2 : n + rm'.slots ≤ rm.slots) (hdg : decode cc pc = .ok (.invokevirtual idx, 3))
    (kk : ∀ r w, post' r w → gV X (k + rm'.cells) (n + rm'.slots) w (pc + 3) lv (r.toList ++ rest)) : gV X k n ws pc lv st :=
  gV_callVr C hlk hY hV hM hb0 hn hst (List.append_nil ws).symm hR hcat h1 h2 hdg (fun r w h => gV_ws (List.append_nil w) (kk r w h))
theorem gV_callS (C : gC X cc nL own rm rt D tys post) (hlk : gl_L own idx y) (hY : gl_Y y bytes maxL ret np) (hV : gl_S y) (hM : gM y bytes maxL ret rm' D tys ws As post') (hn : As.length = np) (hst : st = As.reverse ++ rest)
    (hR : rm'.frames + 1 ≤ rm.frames ∧ 8 + (maxL + 11) + rm'.locals ≤ rm.locals) (hcat : (rest.map fun v => v.category).sum ≤ 8) (h1 : k + rm'.cells ≤ rm.cells) (h2 : n + rm'.slots ≤ rm.slots) (hdg : decode cc pc = .ok (.invokestatic idx, 3))
    (kk : ∀ r w, post' r w → gV X (k + rm'.cells) (n + rm'.slots) w (pc + 3) lv (r.toList ++ rest)) : gV X k n ws pc lv st :=
  gV_callSr C hlk hY hV hM hn hst (List.append_nil ws).symm hR hcat h1 h2 hdg (fun r w h => gV_ws (List.append_nil w) (kk r w h))
theorem gV_callI (C : gC X cc nL own rm rt D tys post) (hlk : gl_L own idx y) (hY : gl_Y y bytes maxL none np) (hV : gl_I y) (hM : gM y bytes maxL none rm' D tys ws (.ref b :: As) post') (hn : As.length = np) (hst : st = As.reverse ++ .ref b :: rest)
    (hR : rm'.frames + 1 ≤ rm.frames ∧ 8 + (maxL + 11) + rm'.locals ≤ rm.locals) (hcat : (rest.map fun v => v.category).sum ≤ 8) (h1 : k + rm'.cells ≤ rm.cells) (h2 : n + rm'.slots ≤ rm.slots) (hdg : decode cc pc = .ok (.invokespecial idx, 3))
    (kk : ∀ r w, post' r w → gV X (k + rm'.cells) (n + rm'.slots) w (pc + 3) lv (r.toList ++ rest)) : gV X k n ws pc lv st :=
  gV_callIr C hlk hY hV hM hn hst (List.append_nil ws).symm hR hcat h1 h2 hdg (fun r w h => gV_ws (List.append_nil w) (kk r w h))
/-- Object's constructor -/
theorem gV_objInit (C : gC X cc nL own rm rt D tys post) (hlk : Cond.methodLink own idx Lib.objectInit ∈ pw_all) (hi : Cond.instanceMethod Lib.objectInit ∈ pw_all) (hc : Cond.code Lib.objectInit ⟨#[0xb1]⟩ 1 none ∈ pw_all) {a : Nat} (hcat : (rest.map fun v => v.category).sum + 12 ≤ rm.locals) (hf : 1 ≤ rm.frames) (hdg : decode cc pc = .ok (.invokespecial idx, 3))
    (kk : gV X k n ws (pc + 3) lv rest) : gV X k n ws pc lv (.ref a :: rest) := by
  obtain ⟨⟨p, l, e, R, s, m, args, below, meth, c, Q⟩, nL', D', tys', A⟩ := X
  obtain ⟨hx, hb, hml, hown, hts, hN, hK, hA, hlks, rfl, rfl, rfl, rfl, hl0, hr, hret⟩ := C
  intro H locs ls hP hD hS hl
  refine W.objInit hx hb hown (hts _ hlk) (hts _ hi) (hts _ hc) rfl (by rw [hml]; exact hl.1) rfl hdg hf ?_ ?_
  · show 2 * JFrame.monitorRoom _ + _ + 12 ≤ _
    have h9 : JFrame.monitorRoom (F0 m pc ls (.ref a :: rest)) = 0 := rfl
    omega
  · exact kk H locs ls hP hD hS hl
end GVC
end
section
section GHR
variable {X : gx_T} {cc : ByteArray} {nL : Nat} {own : String} {rm : Room} {rt : Option FieldType} {D : va_G} {tys : List (ClassId × FieldType)} {post : Option Value → va_W → Prop} {k n : Nat} {ws : va_W} {pc : Nat} {lv : List (Nat × Value)} {st : List Value} {idx : Nat}
theorem gV_get (C : gC X cc nL own rm rt D tys post) {Cn : String} {T : u_T} {N : Nat} (hfl : ∀ w ∈ u_ws Cn T N, w ∈ pw_all) (q0 ci j : Nat) {a : Nat} {fs : List Value} {v : Value} (hf : gl_F own idx (T j).1 (T j).2.1 (T j).2.2.1) (he : ws[q0]? = some (a, .inr (ci, fs))) (hc : vwc[ci]? = some (Cn, T, N)) (hj : j < N) (hv : fs[j]? = some v) (hdg : decode cc pc = .ok (.getfield idx, 3))
    (kk : gV X k n ws (pc + 3) lv (v :: st)) : gV X k n ws pc lv (.ref a :: st) := by
  obtain ⟨⟨p, l, e, R, s, m, args, below, meth, c, Q⟩, nL', D', tys', A⟩ := X
  obtain ⟨hx, hb, hml, hown, hts, hN, hK, hA, hlks, rfl, rfl, rfl, rfl, hl0, hr, hret⟩ := C
  intro H locs ls hP hD hS hl
  rcases hf with hf | ⟨host, hf⟩
  · exact va_get hx hb hts hfl hown hK hP q0 he hc j hj (hts _ hf) (fun _ h => h) hv hdg (kk H locs ls hP hD hS hl)
  · exact va_getN (host := host) hx hb hts hfl hown hK hP q0 he hc j hj (va_Nw.use rfl (hN _ hf)) (fun _ h => h) hv hdg (kk H locs ls hP hD hS hl)
theorem gV_put (C : gC X cc nL own rm rt D tys post) {Cn : String} {T : u_T} {N : Nat} (hfl : ∀ w ∈ u_ws Cn T N, w ∈ pw_all) (ty0 : Nat → FieldType) (hty : ∀ k, k < N → parseFieldDescriptor (T k).2.2.1 = some (ty0 k)) (hnm : ∀ a, a < N → ∀ b, b < N → a ≠ b → (T a).2.1 ≠ (T b).2.1) (q0 ci j : Nat) {a : Nat} {fs : List Value} {v : Value} (hf : gl_F own idx (T j).1 (T j).2.1 (T j).2.2.1) (he : ws[q0]? = some (a, .inr (ci, fs))) (hc : vwc[ci]? = some (Cn, T, N)) (hj : j < N) (hfin : (T j).2.2.2 = false) {ty : FieldType} (hd : parseFieldDescriptor (T j).2.2.1 = some ty) (hn : narrow ty v = v) (hfit : fits ty v = true) (hl0 : j < fs.length) (hdg : decode cc pc = .ok (.putfield idx, 3))
    (kk : gV X k n (ws.set q0 (a, .inr (ci, fs.set j v))) (pc + 3) lv st) : gV X k n ws pc lv (v :: .ref a :: st) := by
  obtain ⟨⟨p, l, e, R, s, m, args, below, meth, c, Q⟩, nL', D', tys', A⟩ := X
  obtain ⟨hx, hb, hml, hown, hts, hN, hK, hA, hlks, rfl, rfl, rfl, rfl, hl0, hr, hret⟩ := C
  intro H locs ls hP hD hS hl
  rcases hf with hf | ⟨host, hf⟩
  · exact va_put hx hb hts hfl ty0 hty hnm hown hK hP hD hS q0 he hc j hj (hts _ hf) (fun _ h => h) hfin hd hn hfit ‹_› hdg (fun H1 locs1 hP1 hD1 hS1 => kk H1 locs1 ls hP1 hD1 hS1 hl)
  · exact va_putN (host := host) hx hb hts hfl ty0 hty hnm hown hK hP hD hS q0 he hc j hj (va_Nw.use rfl (hN _ hf)) (fun _ h => h) hfin hd hn hfit ‹_› hdg (fun H1 locs1 hP1 hD1 hS1 => kk H1 locs1 ls hP1 hD1 hS1 hl)
theorem gV_putF (C : gC X cc nL own rm rt D tys post) (hin : match X with | ((_, _, _, _, _, _, _, _, meth, _, _), _) => meth.name = "<init>") {T : u_T} {N : Nat} (hfl : ∀ w ∈ u_ws own T N, w ∈ pw_all) (ty0 : Nat → FieldType) (hty : ∀ k, k < N → parseFieldDescriptor (T k).2.2.1 = some (ty0 k)) (hnm : ∀ a, a < N → ∀ b, b < N → a ≠ b → (T a).2.1 ≠ (T b).2.1) (q0 ci j : Nat) {a : Nat} {fs : List Value} {v : Value} (hf : Cond.fieldLink own idx (T j).1 (T j).2.1 (T j).2.2.1 ∈ pw_all) (he : ws[q0]? = some (a, .inr (ci, fs))) (hc : vwc[ci]? = some (own, T, N)) (hj : j < N) (hfin : (T j).2.2.2 = true) (hdecl : (T j).1 = own) {ty : FieldType} (hd : parseFieldDescriptor (T j).2.2.1 = some ty) (hn : narrow ty v = v) (hfit : fits ty v = true) (hl0 : j < fs.length) (hdg : decode cc pc = .ok (.putfield idx, 3))
    (kk : gV X k n (ws.set q0 (a, .inr (ci, fs.set j v))) (pc + 3) lv st) : gV X k n ws pc lv (v :: .ref a :: st) := by
  obtain ⟨⟨p, l, e, R, s, m, args, below, meth, c, Q⟩, nL', D', tys', A⟩ := X
  obtain ⟨hx, hb, hml, hown, hts, hN, hK, hA, hlks, rfl, rfl, rfl, rfl, hl0, hr, hret⟩ := C
  intro H locs ls hP hD hS hl
  exact va_putF hx hb hts hfl ty0 hty hnm hown hK hP hD hS q0 he hc j hj (hts _ hf) (fun _ h => h) hfin hin hdecl hd hn hfit ‹_› hdg (fun H1 locs1 hP1 hD1 hS1 => kk H1 locs1 ls hP1 hD1 hS1 hl)
theorem gV_iald (C : gC X cc nL own rm rt D tys post) (q0 t0 : Nat) {a : Nat} {cA : ClassId} {N : Nat} {f : Nat → Int32} (ha : ws[q0]? = some (a, .inl (cA, N, .inl f))) (ht : tys[t0]? = some (cA, .int)) {i : Int32} (hin : vp_in i N) (hdg : decode cc pc = .ok (.iaload, 1)) (kk : gV X k n ws (pc + 1) lv (.int (f i.toNatClampNeg) :: st)) : gV X k n ws pc lv (.int i :: .ref a :: st) := by
  obtain ⟨⟨p, l, e, R, s, m, args, below, meth, c, Q⟩, nL', D', tys', A⟩ := X
  obtain ⟨hx, hb, hml, hown, hts, hN, hK, hA, hlks, rfl, rfl, rfl, rfl, hl0, hr, hret⟩ := C
  intro H locs ls hP hD hS hl
  exact va_iald hx hb hK hP q0 t0 ha ht hin hdg (kk H locs ls hP hD hS hl)
theorem gV_zald (C : gC X cc nL own rm rt D tys post) (q0 t0 : Nat) {a : Nat} {cA : ClassId} {N : Nat} {f : Nat → Int32} (ha : ws[q0]? = some (a, .inl (cA, N, .inl f))) (ht : tys[t0]? = some (cA, .boolean)) {i : Int32} (hin : vp_in i N) (hdg : decode cc pc = .ok (.baload, 1)) (kk : gV X k n ws (pc + 1) lv (.int (f i.toNatClampNeg) :: st)) : gV X k n ws pc lv (.int i :: .ref a :: st) := by
  obtain ⟨⟨p, l, e, R, s, m, args, below, meth, c, Q⟩, nL', D', tys', A⟩ := X
  obtain ⟨hx, hb, hml, hown, hts, hN, hK, hA, hlks, rfl, rfl, rfl, rfl, hl0, hr, hret⟩ := C
  intro H locs ls hP hD hS hl
  exact va_zald hx hb hK hP q0 t0 ha ht hin hdg (kk H locs ls hP hD hS hl)
theorem gV_aldq (C : gC X cc nL own rm rt D tys post) (q0 t0 : Nat) {a : Nat} {cA : ClassId} {Cn : String} {N : Nat} {f : Nat → Option Nat} (ha : ws[q0]? = some (a, .inl (cA, N, .inr (.inr (.inr (.inr f)))))) (ht : tys[t0]? = some (cA, .object Cn)) {i : Int32} (hin : vp_in i N) (hdg : decode cc pc = .ok (.aaload, 1)) (kk : gV X k n ws (pc + 1) lv (va_rf (f i.toNatClampNeg) :: st)) : gV X k n ws pc lv (.int i :: .ref a :: st) := by
  obtain ⟨⟨p, l, e, R, s, m, args, below, meth, c, Q⟩, nL', D', tys', A⟩ := X
  obtain ⟨hx, hb, hml, hown, hts, hN, hK, hA, hlks, rfl, rfl, rfl, rfl, hl0, hr, hret⟩ := C
  intro H locs ls hP hD hS hl
  exact va_aldq hx hb hK hP q0 t0 ha ht hin hdg (kk H locs ls hP hD hS hl)
theorem gV_iast (C : gC X cc nL own rm rt D tys post) (q0 t0 : Nat) {a : Nat} {cA : ClassId} {N : Nat} {f : Nat → Int32} (ha : ws[q0]? = some (a, .inl (cA, N, .inl f))) (ht : tys[t0]? = some (cA, .int)) {i x : Int32} (hin : vp_in i N) (hdg : decode cc pc = .ok (.iastore, 1)) (kk : gV X k n (ws.set q0 (a, .inl (cA, N, .inl (va_up f i.toNatClampNeg x)))) (pc + 1) lv st) : gV X k n ws pc lv (.int x :: .int i :: .ref a :: st) := by
  obtain ⟨⟨p, l, e, R, s, m, args, below, meth, c, Q⟩, nL', D', tys', A⟩ := X
  obtain ⟨hx, hb, hml, hown, hts, hN, hK, hA, hlks, rfl, rfl, rfl, rfl, hl0, hr, hret⟩ := C
  intro H locs ls hP hD hS hl
  exact va_iast hx hb hK hP hD hS q0 t0 ha ht hin hdg (fun H1 locs1 hP1 hD1 hS1 => kk H1 locs1 ls hP1 hD1 hS1 hl)
theorem gV_zast (C : gC X cc nL own rm rt D tys post) (q0 t0 : Nat) {a : Nat} {cA : ClassId} {N : Nat} {f : Nat → Int32} (ha : ws[q0]? = some (a, .inl (cA, N, .inl f))) (ht : tys[t0]? = some (cA, .boolean)) {i x : Int32} (hin : vp_in i N) (hx9 : x = 0 ∨ x = 1) (hdg : decode cc pc = .ok (.bastore, 1)) (kk : gV X k n (ws.set q0 (a, .inl (cA, N, .inl (va_up f i.toNatClampNeg x)))) (pc + 1) lv st) : gV X k n ws pc lv (.int x :: .int i :: .ref a :: st) := by
  obtain ⟨⟨p, l, e, R, s, m, args, below, meth, c, Q⟩, nL', D', tys', A⟩ := X
  obtain ⟨hx, hb, hml, hown, hts, hN, hK, hA, hlks, rfl, rfl, rfl, rfl, hl0, hr, hret⟩ := C
  intro H locs ls hP hD hS hl
  have h9 : vp_nar .boolean x = x := by rcases hx9 with rfl | rfl <;> rfl
  exact va_zast hx hb hK hP hD hS q0 t0 ha ht hin hdg (fun H1 locs1 hP1 hD1 hS1 => by rw [h9] at hP1 hD1; exact kk H1 locs1 ls hP1 hD1 hS1 hl)
theorem gV_astqN (C : gC X cc nL own rm rt D tys post) (q0 t0 : Nat) {a : Nat} {cA : ClassId} {Cn : String} {N : Nat} {f : Nat → Option Nat} (ha : ws[q0]? = some (a, .inl (cA, N, .inr (.inr (.inr (.inr f)))))) (ht : tys[t0]? = some (cA, .object Cn)) {i : Int32} (hin : vp_in i N) (hdg : decode cc pc = .ok (.aastore, 1)) (kk : gV X k n (ws.set q0 (a, .inl (cA, N, .inr (.inr (.inr (.inr (va_up f i.toNatClampNeg none))))))) (pc + 1) lv st) : gV X k n ws pc lv (.null :: .int i :: .ref a :: st) := by
  obtain ⟨⟨p, l, e, R, s, m, args, below, meth, c, Q⟩, nL', D', tys', A⟩ := X
  obtain ⟨hx, hb, hml, hown, hts, hN, hK, hA, hlks, rfl, rfl, rfl, rfl, hl0, hr, hret⟩ := C
  intro H locs ls hP hD hS hl
  exact va_astqN hx hb hK hP hD hS q0 t0 ha ht hin hdg (fun H1 locs1 hP1 hD1 hS1 => kk H1 locs1 ls hP1 hD1 hS1 hl)
theorem gV_astqS (C : gC X cc nL own rm rt D tys post) (q0 t0 qk ci : Nat) {a : Nat} {cA : ClassId} {r : vw_C} {N v : Nat} {vs : List Value} {f : Nat → Option Nat} (ha : ws[q0]? = some (a, .inl (cA, N, .inr (.inr (.inr (.inr f)))))) (ht : tys[t0]? = some (cA, .object r.1)) (hv : ws[qk]? = some (v, .inr (ci, vs))) (hc : vwc[ci]? = some r) {i : Int32} (hin : vp_in i N) (hdg : decode cc pc = .ok (.aastore, 1)) (kk : gV X k n (ws.set q0 (a, .inl (cA, N, .inr (.inr (.inr (.inr (va_up f i.toNatClampNeg (some v)))))))) (pc + 1) lv st) : gV X k n ws pc lv (.ref v :: .int i :: .ref a :: st) := by
  obtain ⟨⟨p, l, e, R, s, m, args, below, meth, c, Q⟩, nL', D', tys', A⟩ := X
  obtain ⟨hx, hb, hml, hown, hts, hN, hK, hA, hlks, rfl, rfl, rfl, rfl, hl0, hr, hret⟩ := C
  intro H locs ls hP hD hS hl
  exact va_astq hx hb hK hP hD hS q0 t0 qk ci ha ht hv hc hin hdg (fun H1 locs1 hP1 hD1 hS1 => kk H1 locs1 ls hP1 hD1 hS1 hl)
theorem gV_alen (C : gC X cc nL own rm rt D tys post) (q0 t0 : Nat) {a : Nat} {cA : ClassId} {x : vp_A} (ha : ws[q0]? = some (a, .inl (cA, x))) {ty : FieldType} (ht : tys[t0]? = some (cA, ty)) (hdg : decode cc pc = .ok (.arraylength, 1)) (kk : gV X k n ws (pc + 1) lv (.int (nI x.1) :: st)) : gV X k n ws pc lv (.ref a :: st) := by
  obtain ⟨⟨p, l, e, R, s, m, args, below, meth, c, Q⟩, nL', D', tys', A⟩ := X
  obtain ⟨hx, hb, hml, hown, hts, hN, hK, hA, hlks, rfl, rfl, rfl, rfl, hl0, hr, hret⟩ := C
  intro H locs ls hP hD hS hl
  exact va_alen hx hb hK hP q0 t0 ha ht rfl hdg (kk H locs ls hP hD hS hl)
theorem gV_new (C : gC X cc nL own rm rt D tys post) {Cn : String} {T : u_T} {N : Nat} (hfl : ∀ w ∈ u_ws Cn T N, w ∈ pw_all) (ty : Nat → FieldType) (hty : ∀ k, k < N → parseFieldDescriptor (T k).2.2.1 = some (ty k)) (hcl : Cond.classLink own idx Cn ∈ pw_all) (hinst : Cond.instantiable Cn N ∈ pw_all) (hini : Cond.initialized Cn ∈ pw_all) (ci : Nat) (hc : vwc[ci]? = some (Cn, T, N)) {fs : List Value} (hfs : ∀ j, j < N → defaultValue (ty j) = vp_V fs j) (hcells : k + 1 ≤ rm.cells) (hslots : n + N ≤ rm.slots) (hdg : decode cc pc = .ok (.new idx, 3))
    (kk : ∀ q : Nat, (∀ (j : Nat) (x : Nat × va_E), ws[j]? = some x → x.1 ≠ q) → gV X (k + 1) (n + N) (ws ++ [(q, .inr (ci, fs))]) (pc + 3) lv (.ref q :: st)) : gV X k n ws pc lv st := by
  obtain ⟨⟨p, l, e, R, s, m, args, below, meth, c, Q⟩, nL', D', tys', A⟩ := X
  obtain ⟨hx, hb, hml, hown, hts, hN, hK, hA, hlks, rfl, rfl, rfl, rfl, hl0, hr, hret⟩ := C
  intro H locs ls hP hD hS hl
  refine va_new (c0 := c) (ci := ci) (fs := fs) hx hb hts hfl ty hty hown (hts _ hcl) (hts _ hinst) (hts _ hini) hK hP hD hS hA hc hfs hcells hslots hdg (fun q H1 hP1 hD1 hS1 => kk q (fun j x hj he => ?_) H1 locs ls hP1 hD1 hS1 hl)
  have hl1 : j < ws.length := (List.getElem?_eq_some_iff.mp hj).1
  have e1 := hD1.1 j ws.length x (q, .inr (ci, fs)) (by rw [List.getElem?_append_left hl1]; exact hj) (by rw [List.getElem?_append_right (Nat.le_refl _), Nat.sub_self]; rfl) he
  omega
end GHR
end
section
abbrev ph_S : Type := (Nat → Int32) × (Nat → Nat → Option Nat) × (Nat → Nat → Int32) × (Nat → Nat → Int32) × List Nat
/-- the class's whole numbers: 0 hand, 1 accesses, 2 taken, 3 brought, 4 storings, 5 copies -/
def ph_I (σ : ph_S) (k : Nat) : Int32 := σ.1 k
/-- its rows of bodies: 0 of the frames, 1 of the sectors, 2 of the pages -/
def ph_R (σ : ph_S) (k j : Nat) : Option Nat := σ.2.1 k j
/-- its rows of numbers: 0 the frames' words, 1 the sectors', 2 used, 3 pageCounts -/
def ph_A (σ : ph_S) (k j : Nat) : Int32 := σ.2.2.1 k j
/-- a body's fields: 0 pageNumber, 1 frame, 2 sector, 3 holders, 4 dirty -/
def ph_B (σ : ph_S) (k a : Nat) : Int32 := σ.2.2.2.1 k a
def ph_L (σ : ph_S) : List Nat := σ.2.2.2.2
def ph_sI (σ : ph_S) (k : Nat) (v : Int32) : ph_S := (va_up σ.1 k v, σ.2)
def ph_sR (σ : ph_S) (k j : Nat) (v : Option Nat) : ph_S := (σ.1, va_up σ.2.1 k (va_up (σ.2.1 k) j v), σ.2.2)
def ph_sA (σ : ph_S) (k j : Nat) (v : Int32) : ph_S := (σ.1, σ.2.1, va_up σ.2.2.1 k (va_up (σ.2.2.1 k) j v), σ.2.2.2)
def ph_fA (σ : ph_S) (k : Nat) (f : Nat → Int32) : ph_S := (σ.1, σ.2.1, va_up σ.2.2.1 k f, σ.2.2.2)
def ph_sB (σ : ph_S) (k a : Nat) (v : Int32) : ph_S := (σ.1, σ.2.1, σ.2.2.1, va_up σ.2.2.2.1 k (va_up (σ.2.2.2.1 k) a v), σ.2.2.2.2)
def ph_nB (σ : ph_S) (q : Nat) : ph_S := (σ.1, σ.2.1, σ.2.2.1, fun k => va_up (σ.2.2.2.1 k) q 0, σ.2.2.2.2 ++ [q])
abbrev gt (ct : Nat → ClassId) : List (ClassId × FieldType) := [(ct 0, .int), (ct 1, .boolean), (ct 2, .object RX0), (ct 3, .long)]
def cw_E (σ : ph_S) (a : Nat) : va_E := .inr (0, [.int (ph_B σ 0 a), .int (ph_B σ 1 a), .int (ph_B σ 2 a), .int (ph_B σ 3 a), .int (ph_B σ 4 a)])
abbrev cw_X (ad : Nat → Nat) (ct : Nat → ClassId) (F S : Nat) (σ : ph_S) : va_W :=
  [(ad 0, .inr (2, [.ref (ad 1), .ref (ad 2), .ref (ad 7), .int (ph_I σ 0), .ref (ad 8), .ref (ad 9), .int (ph_I σ 1), .int (ph_I σ 2), .int (ph_I σ 3), .int (ph_I σ 4), .int (ph_I σ 5)])),
   (ad 1, .inr (1, [.ref (ad 3), .ref (ad 4)])), (ad 2, .inr (1, [.ref (ad 5), .ref (ad 6)])),
   (ad 3, .inl (ct 2, F, .inr (.inr (.inr (.inr (ph_R σ 0)))))), (ad 4, .inl (ct 0, 16 * F, .inl (ph_A σ 0))),
   (ad 5, .inl (ct 2, S, .inr (.inr (.inr (.inr (ph_R σ 1)))))), (ad 6, .inl (ct 0, 16 * S, .inl (ph_A σ 1))),
   (ad 7, .inl (ct 1, F, .inl (ph_A σ 2))), (ad 8, .inl (ct 0, 8, .inl (ph_A σ 3))), (ad 9, .inl (ct 2, 256, .inr (.inr (.inr (.inr (ph_R σ 2))))))]
def cw (ad : Nat → Nat) (ct : Nat → ClassId) (F S : Nat) (σ : ph_S) : va_W := cw_X ad ct F S σ ++ va_pl (ph_L σ) (cw_E σ)
section CWR
variable {X : gx_T} {cc : ByteArray} {nL : Nat} {own : String} {rm : Room} {rt : Option FieldType} {D : va_G} {post : Option Value → va_W → Prop} {k n : Nat} {ws : va_W} {pc : Nat} {lv : List (Nat × Value)} {st : List Value} {idx : Nat}
variable {ad : Nat → Nat} {ct : Nat → ClassId} {F S : Nat} {σ : ph_S}
theorem cg_frames (C : gC X cc nL own rm rt D (gt ct) post) (hf : gl_F own idx "PagerHouse" "frames" "LPagerHouse$Rows;") (hdg : decode cc pc = .ok (.getfield idx, 3)) (kk : gV X k n (cw ad ct F S σ) (pc + 3) lv (.ref (ad 1) :: st)) : gV X k n (cw ad ct F S σ) pc lv (.ref (ad 0) :: st) := gV_get C pw_fl_X2 0 2 0 hf rfl rfl (by decide) rfl hdg kk
theorem cg_sectors (C : gC X cc nL own rm rt D (gt ct) post) (hf : gl_F own idx "PagerHouse" "sectors" "LPagerHouse$Rows;") (hdg : decode cc pc = .ok (.getfield idx, 3)) (kk : gV X k n (cw ad ct F S σ) (pc + 3) lv (.ref (ad 2) :: st)) : gV X k n (cw ad ct F S σ) pc lv (.ref (ad 0) :: st) := gV_get C pw_fl_X2 0 2 1 hf rfl rfl (by decide) rfl hdg kk
theorem cg_used (C : gC X cc nL own rm rt D (gt ct) post) (hf : gl_F own idx "PagerHouse" "used" "[Z") (hdg : decode cc pc = .ok (.getfield idx, 3)) (kk : gV X k n (cw ad ct F S σ) (pc + 3) lv (.ref (ad 7) :: st)) : gV X k n (cw ad ct F S σ) pc lv (.ref (ad 0) :: st) := gV_get C pw_fl_X2 0 2 2 hf rfl rfl (by decide) rfl hdg kk
theorem cg_hand (C : gC X cc nL own rm rt D (gt ct) post) (hf : gl_F own idx "PagerHouse" "hand" "I") (hdg : decode cc pc = .ok (.getfield idx, 3)) (kk : gV X k n (cw ad ct F S σ) (pc + 3) lv (.int (ph_I σ 0) :: st)) : gV X k n (cw ad ct F S σ) pc lv (.ref (ad 0) :: st) := gV_get C pw_fl_X2 0 2 3 hf rfl rfl (by decide) rfl hdg kk
theorem cp_hand (C : gC X cc nL own rm rt D (gt ct) post) (hf : gl_F own idx "PagerHouse" "hand" "I") {v : Int32} (hdg : decode cc pc = .ok (.putfield idx, 3)) (kk : gV X k n (cw ad ct F S (ph_sI σ 0 v)) (pc + 3) lv st) : gV X k n (cw ad ct F S σ) pc lv (.int v :: .ref (ad 0) :: st) := gV_put (ty := .int) C pw_fl_X2 tyX2 tyX2_ok nmX2 0 2 3 hf rfl rfl (by decide) rfl (by decide +kernel) rfl rfl (Nat.le_of_ble_eq_true rfl) hdg kk
theorem cg_pageCounts (C : gC X cc nL own rm rt D (gt ct) post) (hf : gl_F own idx "PagerHouse" "pageCounts" "[I") (hdg : decode cc pc = .ok (.getfield idx, 3)) (kk : gV X k n (cw ad ct F S σ) (pc + 3) lv (.ref (ad 8) :: st)) : gV X k n (cw ad ct F S σ) pc lv (.ref (ad 0) :: st) := gV_get C pw_fl_X2 0 2 4 hf rfl rfl (by decide) rfl hdg kk
theorem cg_bodies (C : gC X cc nL own rm rt D (gt ct) post) (hf : gl_F own idx "PagerHouse" "bodies" "[LPagerHouse$Body;") (hdg : decode cc pc = .ok (.getfield idx, 3)) (kk : gV X k n (cw ad ct F S σ) (pc + 3) lv (.ref (ad 9) :: st)) : gV X k n (cw ad ct F S σ) pc lv (.ref (ad 0) :: st) := gV_get C pw_fl_X2 0 2 5 hf rfl rfl (by decide) rfl hdg kk
theorem cg_accesses (C : gC X cc nL own rm rt D (gt ct) post) (hf : gl_F own idx "PagerHouse" "accesses" "I") (hdg : decode cc pc = .ok (.getfield idx, 3)) (kk : gV X k n (cw ad ct F S σ) (pc + 3) lv (.int (ph_I σ 1) :: st)) : gV X k n (cw ad ct F S σ) pc lv (.ref (ad 0) :: st) := gV_get C pw_fl_X2 0 2 6 hf rfl rfl (by decide) rfl hdg kk
theorem cp_accesses (C : gC X cc nL own rm rt D (gt ct) post) (hf : gl_F own idx "PagerHouse" "accesses" "I") {v : Int32} (hdg : decode cc pc = .ok (.putfield idx, 3)) (kk : gV X k n (cw ad ct F S (ph_sI σ 1 v)) (pc + 3) lv st) : gV X k n (cw ad ct F S σ) pc lv (.int v :: .ref (ad 0) :: st) := gV_put (ty := .int) C pw_fl_X2 tyX2 tyX2_ok nmX2 0 2 6 hf rfl rfl (by decide) rfl (by decide +kernel) rfl rfl (Nat.le_of_ble_eq_true rfl) hdg kk
theorem cg_taken (C : gC X cc nL own rm rt D (gt ct) post) (hf : gl_F own idx "PagerHouse" "taken" "I") (hdg : decode cc pc = .ok (.getfield idx, 3)) (kk : gV X k n (cw ad ct F S σ) (pc + 3) lv (.int (ph_I σ 2) :: st)) : gV X k n (cw ad ct F S σ) pc lv (.ref (ad 0) :: st) := gV_get C pw_fl_X2 0 2 7 hf rfl rfl (by decide) rfl hdg kk
theorem cp_taken (C : gC X cc nL own rm rt D (gt ct) post) (hf : gl_F own idx "PagerHouse" "taken" "I") {v : Int32} (hdg : decode cc pc = .ok (.putfield idx, 3)) (kk : gV X k n (cw ad ct F S (ph_sI σ 2 v)) (pc + 3) lv st) : gV X k n (cw ad ct F S σ) pc lv (.int v :: .ref (ad 0) :: st) := gV_put (ty := .int) C pw_fl_X2 tyX2 tyX2_ok nmX2 0 2 7 hf rfl rfl (by decide) rfl (by decide +kernel) rfl rfl (Nat.le_of_ble_eq_true rfl) hdg kk
theorem cg_brought (C : gC X cc nL own rm rt D (gt ct) post) (hf : gl_F own idx "PagerHouse" "brought" "I") (hdg : decode cc pc = .ok (.getfield idx, 3)) (kk : gV X k n (cw ad ct F S σ) (pc + 3) lv (.int (ph_I σ 3) :: st)) : gV X k n (cw ad ct F S σ) pc lv (.ref (ad 0) :: st) := gV_get C pw_fl_X2 0 2 8 hf rfl rfl (by decide) rfl hdg kk
theorem cp_brought (C : gC X cc nL own rm rt D (gt ct) post) (hf : gl_F own idx "PagerHouse" "brought" "I") {v : Int32} (hdg : decode cc pc = .ok (.putfield idx, 3)) (kk : gV X k n (cw ad ct F S (ph_sI σ 3 v)) (pc + 3) lv st) : gV X k n (cw ad ct F S σ) pc lv (.int v :: .ref (ad 0) :: st) := gV_put (ty := .int) C pw_fl_X2 tyX2 tyX2_ok nmX2 0 2 8 hf rfl rfl (by decide) rfl (by decide +kernel) rfl rfl (Nat.le_of_ble_eq_true rfl) hdg kk
theorem cg_storings (C : gC X cc nL own rm rt D (gt ct) post) (hf : gl_F own idx "PagerHouse" "storings" "I") (hdg : decode cc pc = .ok (.getfield idx, 3)) (kk : gV X k n (cw ad ct F S σ) (pc + 3) lv (.int (ph_I σ 4) :: st)) : gV X k n (cw ad ct F S σ) pc lv (.ref (ad 0) :: st) := gV_get C pw_fl_X2 0 2 9 hf rfl rfl (by decide) rfl hdg kk
theorem cp_storings (C : gC X cc nL own rm rt D (gt ct) post) (hf : gl_F own idx "PagerHouse" "storings" "I") {v : Int32} (hdg : decode cc pc = .ok (.putfield idx, 3)) (kk : gV X k n (cw ad ct F S (ph_sI σ 4 v)) (pc + 3) lv st) : gV X k n (cw ad ct F S σ) pc lv (.int v :: .ref (ad 0) :: st) := gV_put (ty := .int) C pw_fl_X2 tyX2 tyX2_ok nmX2 0 2 9 hf rfl rfl (by decide) rfl (by decide +kernel) rfl rfl (Nat.le_of_ble_eq_true rfl) hdg kk
theorem cg_copies (C : gC X cc nL own rm rt D (gt ct) post) (hf : gl_F own idx "PagerHouse" "copies" "I") (hdg : decode cc pc = .ok (.getfield idx, 3)) (kk : gV X k n (cw ad ct F S σ) (pc + 3) lv (.int (ph_I σ 5) :: st)) : gV X k n (cw ad ct F S σ) pc lv (.ref (ad 0) :: st) := gV_get C pw_fl_X2 0 2 10 hf rfl rfl (by decide) rfl hdg kk
theorem cp_copies (C : gC X cc nL own rm rt D (gt ct) post) (hf : gl_F own idx "PagerHouse" "copies" "I") {v : Int32} (hdg : decode cc pc = .ok (.putfield idx, 3)) (kk : gV X k n (cw ad ct F S (ph_sI σ 5 v)) (pc + 3) lv st) : gV X k n (cw ad ct F S σ) pc lv (.int v :: .ref (ad 0) :: st) := gV_put (ty := .int) C pw_fl_X2 tyX2 tyX2_ok nmX2 0 2 10 hf rfl rfl (by decide) rfl (by decide +kernel) rfl rfl (Nat.le_of_ble_eq_true rfl) hdg kk
theorem cg_content1 (C : gC X cc nL own rm rt D (gt ct) post) (hf : gl_F own idx "PagerHouse$Rows" "content" "[LPagerHouse$Body;") (hdg : decode cc pc = .ok (.getfield idx, 3)) (kk : gV X k n (cw ad ct F S σ) (pc + 3) lv (.ref (ad 3) :: st)) : gV X k n (cw ad ct F S σ) pc lv (.ref (ad 1) :: st) := gV_get C pw_fl_X1 1 1 0 hf rfl rfl (by decide) rfl hdg kk
theorem cg_words1 (C : gC X cc nL own rm rt D (gt ct) post) (hf : gl_F own idx "PagerHouse$Rows" "words" "[I") (hdg : decode cc pc = .ok (.getfield idx, 3)) (kk : gV X k n (cw ad ct F S σ) (pc + 3) lv (.ref (ad 4) :: st)) : gV X k n (cw ad ct F S σ) pc lv (.ref (ad 1) :: st) := gV_get C pw_fl_X1 1 1 1 hf rfl rfl (by decide) rfl hdg kk
theorem cg_content2 (C : gC X cc nL own rm rt D (gt ct) post) (hf : gl_F own idx "PagerHouse$Rows" "content" "[LPagerHouse$Body;") (hdg : decode cc pc = .ok (.getfield idx, 3)) (kk : gV X k n (cw ad ct F S σ) (pc + 3) lv (.ref (ad 5) :: st)) : gV X k n (cw ad ct F S σ) pc lv (.ref (ad 2) :: st) := gV_get C pw_fl_X1 2 1 0 hf rfl rfl (by decide) rfl hdg kk
theorem cg_words2 (C : gC X cc nL own rm rt D (gt ct) post) (hf : gl_F own idx "PagerHouse$Rows" "words" "[I") (hdg : decode cc pc = .ok (.getfield idx, 3)) (kk : gV X k n (cw ad ct F S σ) (pc + 3) lv (.ref (ad 6) :: st)) : gV X k n (cw ad ct F S σ) pc lv (.ref (ad 2) :: st) := gV_get C pw_fl_X1 2 1 1 hf rfl rfl (by decide) rfl hdg kk
theorem cw_unset {w : va_W} {q0 i : Nat} {a : Nat} {e0 e1 : va_E} {p : Nat × va_E} (hq : w[q0]? = some (a, e0)) (hi : w[i]? = some p) : ∃ p', (w.set q0 (a, e1))[i]? = some p' ∧ p'.1 = p.1 := by
  have hl : q0 < w.length := (List.getElem?_eq_some_iff.mp hq).1
  by_cases h : i = q0
  · subst h
    exact ⟨(a, e1), by rw [List.getElem?_set_self hl], by rw [hq] at hi; cases hi; rfl⟩
  · exact ⟨p, by rw [List.getElem?_set_ne (Ne.symm h)]; exact hi, rfl⟩
theorem cg_b_pageNumber (C : gC X cc nL own rm rt D (gt ct) post) {a : Nat} (ha : a ∈ ph_L σ) (hf : gl_F own idx "PagerHouse$Body" "pageNumber" "I") (hdg : decode cc pc = .ok (.getfield idx, 3)) (kk : gV X k n (cw ad ct F S σ) (pc + 3) lv (.int (ph_B σ 0 a) :: st)) : gV X k n (cw ad ct F S σ) pc lv (.ref a :: st) := by
  obtain ⟨q0, hq⟩ := va_pl_get (X := cw_X ad ct F S σ) (f := cw_E σ) ha
  exact gV_get C pw_fl_X0 q0 0 0 hf hq rfl (by decide) rfl hdg kk
theorem cg_b_frame (C : gC X cc nL own rm rt D (gt ct) post) {a : Nat} (ha : a ∈ ph_L σ) (hf : gl_F own idx "PagerHouse$Body" "frame" "I") (hdg : decode cc pc = .ok (.getfield idx, 3)) (kk : gV X k n (cw ad ct F S σ) (pc + 3) lv (.int (ph_B σ 1 a) :: st)) : gV X k n (cw ad ct F S σ) pc lv (.ref a :: st) := by
  obtain ⟨q0, hq⟩ := va_pl_get (X := cw_X ad ct F S σ) (f := cw_E σ) ha
  exact gV_get C pw_fl_X0 q0 0 1 hf hq rfl (by decide) rfl hdg kk
theorem cp_b_frame (C : gC X cc nL own rm rt D (gt ct) post) {a : Nat} (ha : a ∈ ph_L σ) (hf : gl_F own idx "PagerHouse$Body" "frame" "I") {v : Int32} (hdg : decode cc pc = .ok (.putfield idx, 3)) (kk : gV X k n (cw ad ct F S (ph_sB σ 1 a v)) (pc + 3) lv st) : gV X k n (cw ad ct F S σ) pc lv (.int v :: .ref a :: st) := by
  obtain ⟨q0, hq⟩ := va_pl_get (X := cw_X ad ct F S σ) (f := cw_E σ) ha
  refine gV_put (ty := .int) C pw_fl_X0 tyX0 tyX0_ok nmX0 q0 0 1 hf hq rfl (by decide) rfl (by decide +kernel) rfl rfl (Nat.le_of_ble_eq_true rfl) hdg ?_
  obtain ⟨⟨p, l, e, R, s, m, args, below, meth, c, Q⟩, nL', D', tys', A⟩ := X
  intro H locs ls hP hD hS hl
  have hD0 : va_D A (cw_X ad ct F S σ ++ va_pl (ph_L σ) (cw_E σ)) := by
    refine ⟨fun i j p q hi hj e => ?_, fun i p hi => ?_⟩
    · obtain ⟨p', hp', ep⟩ := cw_unset hq hi
      obtain ⟨q', hq', eq⟩ := cw_unset hq hj
      exact hD.1 i j p' q' hp' hq' (by rw [ep, eq, e])
    · obtain ⟨p', hp', ep⟩ := cw_unset hq hi
      rw [← ep]; exact hD.2 i p' hp'
  have e : (cw ad ct F S σ).set q0 (a, .inr (0, [.int (ph_B σ 0 a), .int v, .int (ph_B σ 2 a), .int (ph_B σ 3 a), .int (ph_B σ 4 a)])) = cw ad ct F S (ph_sB σ 1 a v) := by
    refine (va_pl_set hD0 ha hq).trans ?_
    refine congrArg (fun l => cw_X ad ct F S σ ++ l) (va_pl_congr fun b => ?_)
    by_cases hb : b = a
    · subst hb; simp [va_up, cw_E, ph_B, ph_sB]
    · simp [va_up, cw_E, ph_B, ph_sB, hb]
  have hP' : va_P D' vwc ((cw ad ct F S σ).set q0 (a, .inr (0, [.int (ph_B σ 0 a), .int v, .int (ph_B σ 2 a), .int (ph_B σ 3 a), .int (ph_B σ 4 a)]))) H := hP
  have hD' : va_D A ((cw ad ct F S σ).set q0 (a, .inr (0, [.int (ph_B σ 0 a), .int v, .int (ph_B σ 2 a), .int (ph_B σ 3 a), .int (ph_B σ 4 a)]))) := hD
  rw [e] at hP' hD'
  exact kk H locs ls hP' hD' hS hl
theorem cg_b_sector (C : gC X cc nL own rm rt D (gt ct) post) {a : Nat} (ha : a ∈ ph_L σ) (hf : gl_F own idx "PagerHouse$Body" "sector" "I") (hdg : decode cc pc = .ok (.getfield idx, 3)) (kk : gV X k n (cw ad ct F S σ) (pc + 3) lv (.int (ph_B σ 2 a) :: st)) : gV X k n (cw ad ct F S σ) pc lv (.ref a :: st) := by
  obtain ⟨q0, hq⟩ := va_pl_get (X := cw_X ad ct F S σ) (f := cw_E σ) ha
  exact gV_get C pw_fl_X0 q0 0 2 hf hq rfl (by decide) rfl hdg kk
theorem cp_b_sector (C : gC X cc nL own rm rt D (gt ct) post) {a : Nat} (ha : a ∈ ph_L σ) (hf : gl_F own idx "PagerHouse$Body" "sector" "I") {v : Int32} (hdg : decode cc pc = .ok (.putfield idx, 3)) (kk : gV X k n (cw ad ct F S (ph_sB σ 2 a v)) (pc + 3) lv st) : gV X k n (cw ad ct F S σ) pc lv (.int v :: .ref a :: st) := by
  obtain ⟨q0, hq⟩ := va_pl_get (X := cw_X ad ct F S σ) (f := cw_E σ) ha
  refine gV_put (ty := .int) C pw_fl_X0 tyX0 tyX0_ok nmX0 q0 0 2 hf hq rfl (by decide) rfl (by decide +kernel) rfl rfl (Nat.le_of_ble_eq_true rfl) hdg ?_
  obtain ⟨⟨p, l, e, R, s, m, args, below, meth, c, Q⟩, nL', D', tys', A⟩ := X
  intro H locs ls hP hD hS hl
  have hD0 : va_D A (cw_X ad ct F S σ ++ va_pl (ph_L σ) (cw_E σ)) := by
    refine ⟨fun i j p q hi hj e => ?_, fun i p hi => ?_⟩
    · obtain ⟨p', hp', ep⟩ := cw_unset hq hi
      obtain ⟨q', hq', eq⟩ := cw_unset hq hj
      exact hD.1 i j p' q' hp' hq' (by rw [ep, eq, e])
    · obtain ⟨p', hp', ep⟩ := cw_unset hq hi
      rw [← ep]; exact hD.2 i p' hp'
  have e : (cw ad ct F S σ).set q0 (a, .inr (0, [.int (ph_B σ 0 a), .int (ph_B σ 1 a), .int v, .int (ph_B σ 3 a), .int (ph_B σ 4 a)])) = cw ad ct F S (ph_sB σ 2 a v) := by
    refine (va_pl_set hD0 ha hq).trans ?_
    refine congrArg (fun l => cw_X ad ct F S σ ++ l) (va_pl_congr fun b => ?_)
    by_cases hb : b = a
    · subst hb; simp [va_up, cw_E, ph_B, ph_sB]
    · simp [va_up, cw_E, ph_B, ph_sB, hb]
  have hP' : va_P D' vwc ((cw ad ct F S σ).set q0 (a, .inr (0, [.int (ph_B σ 0 a), .int (ph_B σ 1 a), .int v, .int (ph_B σ 3 a), .int (ph_B σ 4 a)]))) H := hP
  have hD' : va_D A ((cw ad ct F S σ).set q0 (a, .inr (0, [.int (ph_B σ 0 a), .int (ph_B σ 1 a), .int v, .int (ph_B σ 3 a), .int (ph_B σ 4 a)]))) := hD
  rw [e] at hP' hD'
  exact kk H locs ls hP' hD' hS hl
theorem cg_b_holders (C : gC X cc nL own rm rt D (gt ct) post) {a : Nat} (ha : a ∈ ph_L σ) (hf : gl_F own idx "PagerHouse$Body" "holders" "I") (hdg : decode cc pc = .ok (.getfield idx, 3)) (kk : gV X k n (cw ad ct F S σ) (pc + 3) lv (.int (ph_B σ 3 a) :: st)) : gV X k n (cw ad ct F S σ) pc lv (.ref a :: st) := by
  obtain ⟨q0, hq⟩ := va_pl_get (X := cw_X ad ct F S σ) (f := cw_E σ) ha
  exact gV_get C pw_fl_X0 q0 0 3 hf hq rfl (by decide) rfl hdg kk
theorem cp_b_holders (C : gC X cc nL own rm rt D (gt ct) post) {a : Nat} (ha : a ∈ ph_L σ) (hf : gl_F own idx "PagerHouse$Body" "holders" "I") {v : Int32} (hdg : decode cc pc = .ok (.putfield idx, 3)) (kk : gV X k n (cw ad ct F S (ph_sB σ 3 a v)) (pc + 3) lv st) : gV X k n (cw ad ct F S σ) pc lv (.int v :: .ref a :: st) := by
  obtain ⟨q0, hq⟩ := va_pl_get (X := cw_X ad ct F S σ) (f := cw_E σ) ha
  refine gV_put (ty := .int) C pw_fl_X0 tyX0 tyX0_ok nmX0 q0 0 3 hf hq rfl (by decide) rfl (by decide +kernel) rfl rfl (Nat.le_of_ble_eq_true rfl) hdg ?_
  obtain ⟨⟨p, l, e, R, s, m, args, below, meth, c, Q⟩, nL', D', tys', A⟩ := X
  intro H locs ls hP hD hS hl
  have hD0 : va_D A (cw_X ad ct F S σ ++ va_pl (ph_L σ) (cw_E σ)) := by
    refine ⟨fun i j p q hi hj e => ?_, fun i p hi => ?_⟩
    · obtain ⟨p', hp', ep⟩ := cw_unset hq hi
      obtain ⟨q', hq', eq⟩ := cw_unset hq hj
      exact hD.1 i j p' q' hp' hq' (by rw [ep, eq, e])
    · obtain ⟨p', hp', ep⟩ := cw_unset hq hi
      rw [← ep]; exact hD.2 i p' hp'
  have e : (cw ad ct F S σ).set q0 (a, .inr (0, [.int (ph_B σ 0 a), .int (ph_B σ 1 a), .int (ph_B σ 2 a), .int v, .int (ph_B σ 4 a)])) = cw ad ct F S (ph_sB σ 3 a v) := by
    refine (va_pl_set hD0 ha hq).trans ?_
    refine congrArg (fun l => cw_X ad ct F S σ ++ l) (va_pl_congr fun b => ?_)
    by_cases hb : b = a
    · subst hb; simp [va_up, cw_E, ph_B, ph_sB]
    · simp [va_up, cw_E, ph_B, ph_sB, hb]
  have hP' : va_P D' vwc ((cw ad ct F S σ).set q0 (a, .inr (0, [.int (ph_B σ 0 a), .int (ph_B σ 1 a), .int (ph_B σ 2 a), .int v, .int (ph_B σ 4 a)]))) H := hP
  have hD' : va_D A ((cw ad ct F S σ).set q0 (a, .inr (0, [.int (ph_B σ 0 a), .int (ph_B σ 1 a), .int (ph_B σ 2 a), .int v, .int (ph_B σ 4 a)]))) := hD
  rw [e] at hP' hD'
  exact kk H locs ls hP' hD' hS hl
theorem cg_b_dirty (C : gC X cc nL own rm rt D (gt ct) post) {a : Nat} (ha : a ∈ ph_L σ) (hf : gl_F own idx "PagerHouse$Body" "dirty" "Z") (hdg : decode cc pc = .ok (.getfield idx, 3)) (kk : gV X k n (cw ad ct F S σ) (pc + 3) lv (.int (ph_B σ 4 a) :: st)) : gV X k n (cw ad ct F S σ) pc lv (.ref a :: st) := by
  obtain ⟨q0, hq⟩ := va_pl_get (X := cw_X ad ct F S σ) (f := cw_E σ) ha
  exact gV_get C pw_fl_X0 q0 0 4 hf hq rfl (by decide) rfl hdg kk
theorem cp_b_dirty (C : gC X cc nL own rm rt D (gt ct) post) {a : Nat} (ha : a ∈ ph_L σ) (hf : gl_F own idx "PagerHouse$Body" "dirty" "Z") {v : Int32} (hv9 : v = 0 ∨ v = 1) (hdg : decode cc pc = .ok (.putfield idx, 3)) (kk : gV X k n (cw ad ct F S (ph_sB σ 4 a v)) (pc + 3) lv st) : gV X k n (cw ad ct F S σ) pc lv (.int v :: .ref a :: st) := by
  obtain ⟨q0, hq⟩ := va_pl_get (X := cw_X ad ct F S σ) (f := cw_E σ) ha
  refine gV_put (ty := .boolean) C pw_fl_X0 tyX0 tyX0_ok nmX0 q0 0 4 hf hq rfl (by decide) rfl (by decide +kernel) (by rcases hv9 with rfl | rfl <;> rfl) (by rcases hv9 with rfl | rfl <;> rfl) (Nat.le_of_ble_eq_true rfl) hdg ?_
  obtain ⟨⟨p, l, e, R, s, m, args, below, meth, c, Q⟩, nL', D', tys', A⟩ := X
  intro H locs ls hP hD hS hl
  have hD0 : va_D A (cw_X ad ct F S σ ++ va_pl (ph_L σ) (cw_E σ)) := by
    refine ⟨fun i j p q hi hj e => ?_, fun i p hi => ?_⟩
    · obtain ⟨p', hp', ep⟩ := cw_unset hq hi
      obtain ⟨q', hq', eq⟩ := cw_unset hq hj
      exact hD.1 i j p' q' hp' hq' (by rw [ep, eq, e])
    · obtain ⟨p', hp', ep⟩ := cw_unset hq hi
      rw [← ep]; exact hD.2 i p' hp'
  have e : (cw ad ct F S σ).set q0 (a, .inr (0, [.int (ph_B σ 0 a), .int (ph_B σ 1 a), .int (ph_B σ 2 a), .int (ph_B σ 3 a), .int v])) = cw ad ct F S (ph_sB σ 4 a v) := by
    refine (va_pl_set hD0 ha hq).trans ?_
    refine congrArg (fun l => cw_X ad ct F S σ ++ l) (va_pl_congr fun b => ?_)
    by_cases hb : b = a
    · subst hb; simp [va_up, cw_E, ph_B, ph_sB]
    · simp [va_up, cw_E, ph_B, ph_sB, hb]
  have hP' : va_P D' vwc ((cw ad ct F S σ).set q0 (a, .inr (0, [.int (ph_B σ 0 a), .int (ph_B σ 1 a), .int (ph_B σ 2 a), .int (ph_B σ 3 a), .int v]))) H := hP
  have hD' : va_D A ((cw ad ct F S σ).set q0 (a, .inr (0, [.int (ph_B σ 0 a), .int (ph_B σ 1 a), .int (ph_B σ 2 a), .int (ph_B σ 3 a), .int v]))) := hD
  rw [e] at hP' hD'
  exact kk H locs ls hP' hD' hS hl
theorem cl_fc (C : gC X cc nL own rm rt D (gt ct) post) (hdg : decode cc pc = .ok (.arraylength, 1)) (kk : gV X k n (cw ad ct F S σ) (pc + 1) lv (.int (nI (F)) :: st)) : gV X k n (cw ad ct F S σ) pc lv (.ref (ad 3) :: st) := gV_alen C 3 2 rfl rfl hdg kk
theorem ca_fc (C : gC X cc nL own rm rt D (gt ct) post) {i : Int32} (hin : vp_in i (F)) (hdg : decode cc pc = .ok (.aaload, 1)) (kk : gV X k n (cw ad ct F S σ) (pc + 1) lv (va_rf (ph_R σ 0 i.toNatClampNeg) :: st)) : gV X k n (cw ad ct F S σ) pc lv (.int i :: .ref (ad 3) :: st) := gV_aldq C 3 2 rfl rfl hin hdg kk
theorem cs_fc_n (C : gC X cc nL own rm rt D (gt ct) post) {i : Int32} (hin : vp_in i (F)) (hdg : decode cc pc = .ok (.aastore, 1)) (kk : gV X k n (cw ad ct F S (ph_sR σ 0 i.toNatClampNeg none)) (pc + 1) lv st) : gV X k n (cw ad ct F S σ) pc lv (.null :: .int i :: .ref (ad 3) :: st) := gV_astqN C 3 2 rfl rfl hin hdg kk
theorem cs_fc (C : gC X cc nL own rm rt D (gt ct) post) {i : Int32} {a : Nat} (ha : a ∈ ph_L σ) (hin : vp_in i (F)) (hdg : decode cc pc = .ok (.aastore, 1)) (kk : gV X k n (cw ad ct F S (ph_sR σ 0 i.toNatClampNeg (some a))) (pc + 1) lv st) : gV X k n (cw ad ct F S σ) pc lv (.ref a :: .int i :: .ref (ad 3) :: st) := by
  obtain ⟨q0, hq⟩ := va_pl_get (X := cw_X ad ct F S σ) (f := cw_E σ) ha
  exact gV_astqS C 3 2 q0 0 rfl rfl hq rfl hin hdg kk
theorem cl_fw (C : gC X cc nL own rm rt D (gt ct) post) (hdg : decode cc pc = .ok (.arraylength, 1)) (kk : gV X k n (cw ad ct F S σ) (pc + 1) lv (.int (nI (16 * F)) :: st)) : gV X k n (cw ad ct F S σ) pc lv (.ref (ad 4) :: st) := gV_alen C 4 0 rfl rfl hdg kk
theorem ca_fw (C : gC X cc nL own rm rt D (gt ct) post) {i : Int32} (hin : vp_in i (16 * F)) (hdg : decode cc pc = .ok (.iaload, 1)) (kk : gV X k n (cw ad ct F S σ) (pc + 1) lv (.int (ph_A σ 0 i.toNatClampNeg) :: st)) : gV X k n (cw ad ct F S σ) pc lv (.int i :: .ref (ad 4) :: st) := gV_iald C 4 0 rfl rfl hin hdg kk
theorem cs_fw (C : gC X cc nL own rm rt D (gt ct) post) {i x : Int32} (hin : vp_in i (16 * F)) (hdg : decode cc pc = .ok (.iastore, 1)) (kk : gV X k n (cw ad ct F S (ph_sA σ 0 i.toNatClampNeg x)) (pc + 1) lv st) : gV X k n (cw ad ct F S σ) pc lv (.int x :: .int i :: .ref (ad 4) :: st) := gV_iast C 4 0 rfl rfl hin hdg kk
theorem cl_sc (C : gC X cc nL own rm rt D (gt ct) post) (hdg : decode cc pc = .ok (.arraylength, 1)) (kk : gV X k n (cw ad ct F S σ) (pc + 1) lv (.int (nI (S)) :: st)) : gV X k n (cw ad ct F S σ) pc lv (.ref (ad 5) :: st) := gV_alen C 5 2 rfl rfl hdg kk
theorem ca_sc (C : gC X cc nL own rm rt D (gt ct) post) {i : Int32} (hin : vp_in i (S)) (hdg : decode cc pc = .ok (.aaload, 1)) (kk : gV X k n (cw ad ct F S σ) (pc + 1) lv (va_rf (ph_R σ 1 i.toNatClampNeg) :: st)) : gV X k n (cw ad ct F S σ) pc lv (.int i :: .ref (ad 5) :: st) := gV_aldq C 5 2 rfl rfl hin hdg kk
theorem cs_sc_n (C : gC X cc nL own rm rt D (gt ct) post) {i : Int32} (hin : vp_in i (S)) (hdg : decode cc pc = .ok (.aastore, 1)) (kk : gV X k n (cw ad ct F S (ph_sR σ 1 i.toNatClampNeg none)) (pc + 1) lv st) : gV X k n (cw ad ct F S σ) pc lv (.null :: .int i :: .ref (ad 5) :: st) := gV_astqN C 5 2 rfl rfl hin hdg kk
theorem cs_sc (C : gC X cc nL own rm rt D (gt ct) post) {i : Int32} {a : Nat} (ha : a ∈ ph_L σ) (hin : vp_in i (S)) (hdg : decode cc pc = .ok (.aastore, 1)) (kk : gV X k n (cw ad ct F S (ph_sR σ 1 i.toNatClampNeg (some a))) (pc + 1) lv st) : gV X k n (cw ad ct F S σ) pc lv (.ref a :: .int i :: .ref (ad 5) :: st) := by
  obtain ⟨q0, hq⟩ := va_pl_get (X := cw_X ad ct F S σ) (f := cw_E σ) ha
  exact gV_astqS C 5 2 q0 0 rfl rfl hq rfl hin hdg kk
theorem cl_sw (C : gC X cc nL own rm rt D (gt ct) post) (hdg : decode cc pc = .ok (.arraylength, 1)) (kk : gV X k n (cw ad ct F S σ) (pc + 1) lv (.int (nI (16 * S)) :: st)) : gV X k n (cw ad ct F S σ) pc lv (.ref (ad 6) :: st) := gV_alen C 6 0 rfl rfl hdg kk
theorem ca_sw (C : gC X cc nL own rm rt D (gt ct) post) {i : Int32} (hin : vp_in i (16 * S)) (hdg : decode cc pc = .ok (.iaload, 1)) (kk : gV X k n (cw ad ct F S σ) (pc + 1) lv (.int (ph_A σ 1 i.toNatClampNeg) :: st)) : gV X k n (cw ad ct F S σ) pc lv (.int i :: .ref (ad 6) :: st) := gV_iald C 6 0 rfl rfl hin hdg kk
theorem cs_sw (C : gC X cc nL own rm rt D (gt ct) post) {i x : Int32} (hin : vp_in i (16 * S)) (hdg : decode cc pc = .ok (.iastore, 1)) (kk : gV X k n (cw ad ct F S (ph_sA σ 1 i.toNatClampNeg x)) (pc + 1) lv st) : gV X k n (cw ad ct F S σ) pc lv (.int x :: .int i :: .ref (ad 6) :: st) := gV_iast C 6 0 rfl rfl hin hdg kk
theorem cl_us (C : gC X cc nL own rm rt D (gt ct) post) (hdg : decode cc pc = .ok (.arraylength, 1)) (kk : gV X k n (cw ad ct F S σ) (pc + 1) lv (.int (nI (F)) :: st)) : gV X k n (cw ad ct F S σ) pc lv (.ref (ad 7) :: st) := gV_alen C 7 1 rfl rfl hdg kk
theorem ca_us (C : gC X cc nL own rm rt D (gt ct) post) {i : Int32} (hin : vp_in i (F)) (hdg : decode cc pc = .ok (.baload, 1)) (kk : gV X k n (cw ad ct F S σ) (pc + 1) lv (.int (ph_A σ 2 i.toNatClampNeg) :: st)) : gV X k n (cw ad ct F S σ) pc lv (.int i :: .ref (ad 7) :: st) := gV_zald C 7 1 rfl rfl hin hdg kk
theorem cs_us (C : gC X cc nL own rm rt D (gt ct) post) {i x : Int32} (hin : vp_in i (F)) (hv9 : x = 0 ∨ x = 1) (hdg : decode cc pc = .ok (.bastore, 1)) (kk : gV X k n (cw ad ct F S (ph_sA σ 2 i.toNatClampNeg x)) (pc + 1) lv st) : gV X k n (cw ad ct F S σ) pc lv (.int x :: .int i :: .ref (ad 7) :: st) := gV_zast C 7 1 rfl rfl hin hv9 hdg kk
theorem cl_pn (C : gC X cc nL own rm rt D (gt ct) post) (hdg : decode cc pc = .ok (.arraylength, 1)) (kk : gV X k n (cw ad ct F S σ) (pc + 1) lv (.int (nI (8)) :: st)) : gV X k n (cw ad ct F S σ) pc lv (.ref (ad 8) :: st) := gV_alen C 8 0 rfl rfl hdg kk
theorem ca_pn (C : gC X cc nL own rm rt D (gt ct) post) {i : Int32} (hin : vp_in i (8)) (hdg : decode cc pc = .ok (.iaload, 1)) (kk : gV X k n (cw ad ct F S σ) (pc + 1) lv (.int (ph_A σ 3 i.toNatClampNeg) :: st)) : gV X k n (cw ad ct F S σ) pc lv (.int i :: .ref (ad 8) :: st) := gV_iald C 8 0 rfl rfl hin hdg kk
theorem cs_pn (C : gC X cc nL own rm rt D (gt ct) post) {i x : Int32} (hin : vp_in i (8)) (hdg : decode cc pc = .ok (.iastore, 1)) (kk : gV X k n (cw ad ct F S (ph_sA σ 3 i.toNatClampNeg x)) (pc + 1) lv st) : gV X k n (cw ad ct F S σ) pc lv (.int x :: .int i :: .ref (ad 8) :: st) := gV_iast C 8 0 rfl rfl hin hdg kk
theorem cl_bo (C : gC X cc nL own rm rt D (gt ct) post) (hdg : decode cc pc = .ok (.arraylength, 1)) (kk : gV X k n (cw ad ct F S σ) (pc + 1) lv (.int (nI (256)) :: st)) : gV X k n (cw ad ct F S σ) pc lv (.ref (ad 9) :: st) := gV_alen C 9 2 rfl rfl hdg kk
theorem ca_bo (C : gC X cc nL own rm rt D (gt ct) post) {i : Int32} (hin : vp_in i (256)) (hdg : decode cc pc = .ok (.aaload, 1)) (kk : gV X k n (cw ad ct F S σ) (pc + 1) lv (va_rf (ph_R σ 2 i.toNatClampNeg) :: st)) : gV X k n (cw ad ct F S σ) pc lv (.int i :: .ref (ad 9) :: st) := gV_aldq C 9 2 rfl rfl hin hdg kk
theorem cs_bo_n (C : gC X cc nL own rm rt D (gt ct) post) {i : Int32} (hin : vp_in i (256)) (hdg : decode cc pc = .ok (.aastore, 1)) (kk : gV X k n (cw ad ct F S (ph_sR σ 2 i.toNatClampNeg none)) (pc + 1) lv st) : gV X k n (cw ad ct F S σ) pc lv (.null :: .int i :: .ref (ad 9) :: st) := gV_astqN C 9 2 rfl rfl hin hdg kk
theorem cs_bo (C : gC X cc nL own rm rt D (gt ct) post) {i : Int32} {a : Nat} (ha : a ∈ ph_L σ) (hin : vp_in i (256)) (hdg : decode cc pc = .ok (.aastore, 1)) (kk : gV X k n (cw ad ct F S (ph_sR σ 2 i.toNatClampNeg (some a))) (pc + 1) lv st) : gV X k n (cw ad ct F S σ) pc lv (.ref a :: .int i :: .ref (ad 9) :: st) := by
  obtain ⟨q0, hq⟩ := va_pl_get (X := cw_X ad ct F S σ) (f := cw_E σ) ha
  exact gV_astqS C 9 2 q0 0 rfl rfl hq rfl hin hdg kk
end CWR
end
section
abbrev pm_S : Type := (Nat → Int32) × (Nat → Nat → Int32)
/-- the reference's whole numbers: 0 thrown, 1 frames, 2 sectors, 3 hand, 4 asked, 5 taken, 6 brought, 7 stores, 8 copies -/
def pm_I (μ : pm_S) (k : Nat) : Int32 := μ.1 k
/-- its rows: 0 pages, 1 bodyOf, 2 is, 3 frameOf, 4 sectorOf, 5 dirty, 6 inFrame, 7 inSector, 8 used -/
def pm_A (μ : pm_S) (k j : Nat) : Int32 := μ.2 k j
def pm_sI (μ : pm_S) (k : Nat) (v : Int32) : pm_S := (va_up μ.1 k v, μ.2)
def pm_sA (μ : pm_S) (k j : Nat) (v : Int32) : pm_S := (μ.1, va_up μ.2 k (va_up (μ.2 k) j v))
def mw (o : Nat → Nat) (ct : Nat → ClassId) (μ : pm_S) : va_W :=
  [(o 0, .inr (3, [.int (pm_I μ 0), .int (pm_I μ 1), .int (pm_I μ 2), .ref (o 1), .ref (o 2), .ref (o 3), .ref (o 4), .ref (o 5), .ref (o 6), .ref (o 7), .ref (o 8), .ref (o 9), .int (pm_I μ 3), .int (pm_I μ 4), .int (pm_I μ 5), .int (pm_I μ 6), .int (pm_I μ 7), .int (pm_I μ 8)])),
   (o 1, .inl (ct 0, 8, .inl (pm_A μ 0))), (o 2, .inl (ct 0, 256, .inl (pm_A μ 1))), (o 3, .inl (ct 1, 300, .inl (pm_A μ 2))), (o 4, .inl (ct 0, 300, .inl (pm_A μ 3))), (o 5, .inl (ct 0, 300, .inl (pm_A μ 4))), (o 6, .inl (ct 1, 300, .inl (pm_A μ 5))), (o 7, .inl (ct 0, 256, .inl (pm_A μ 6))), (o 8, .inl (ct 0, 1024, .inl (pm_A μ 7))), (o 9, .inl (ct 1, 16, .inl (pm_A μ 8)))]
section MWR
variable {X : gx_T} {cc : ByteArray} {nL : Nat} {own : String} {rm : Room} {rt : Option FieldType} {D : va_G} {post : Option Value → va_W → Prop} {k n : Nat} {ws : va_W} {pc : Nat} {lv : List (Nat × Value)} {st : List Value} {idx : Nat}
variable {o : Nat → Nat} {ct : Nat → ClassId} {μ : pm_S}
theorem mg_thrown (C : gC X cc nL own rm rt D (gt ct) post) (hf : gl_F own idx "PagerHouseModel" "thrown" "I") (hdg : decode cc pc = .ok (.getfield idx, 3)) (kk : gV X k n (mw o ct μ) (pc + 3) lv (.int (pm_I μ 0) :: st)) : gV X k n (mw o ct μ) pc lv (.ref (o 0) :: st) := gV_get C pw_fl_X3 0 3 0 hf rfl rfl (by decide) rfl hdg kk
theorem mp_thrown (C : gC X cc nL own rm rt D (gt ct) post) (hf : gl_F own idx "PagerHouseModel" "thrown" "I") {v : Int32} (hdg : decode cc pc = .ok (.putfield idx, 3)) (kk : gV X k n (mw o ct (pm_sI μ 0 v)) (pc + 3) lv st) : gV X k n (mw o ct μ) pc lv (.int v :: .ref (o 0) :: st) := gV_put (ty := .int) C pw_fl_X3 tyX3 tyX3_ok nmX3 0 3 0 hf rfl rfl (by decide) rfl (by decide +kernel) rfl rfl (Nat.le_of_ble_eq_true rfl) hdg kk
theorem mg_frames (C : gC X cc nL own rm rt D (gt ct) post) (hf : gl_F own idx "PagerHouseModel" "frames" "I") (hdg : decode cc pc = .ok (.getfield idx, 3)) (kk : gV X k n (mw o ct μ) (pc + 3) lv (.int (pm_I μ 1) :: st)) : gV X k n (mw o ct μ) pc lv (.ref (o 0) :: st) := gV_get C pw_fl_X3 0 3 1 hf rfl rfl (by decide) rfl hdg kk
theorem mg_sectors (C : gC X cc nL own rm rt D (gt ct) post) (hf : gl_F own idx "PagerHouseModel" "sectors" "I") (hdg : decode cc pc = .ok (.getfield idx, 3)) (kk : gV X k n (mw o ct μ) (pc + 3) lv (.int (pm_I μ 2) :: st)) : gV X k n (mw o ct μ) pc lv (.ref (o 0) :: st) := gV_get C pw_fl_X3 0 3 2 hf rfl rfl (by decide) rfl hdg kk
theorem mg_pages (C : gC X cc nL own rm rt D (gt ct) post) (hf : gl_F own idx "PagerHouseModel" "pages" "[I") (hdg : decode cc pc = .ok (.getfield idx, 3)) (kk : gV X k n (mw o ct μ) (pc + 3) lv (.ref (o 1) :: st)) : gV X k n (mw o ct μ) pc lv (.ref (o 0) :: st) := gV_get C pw_fl_X3 0 3 3 hf rfl rfl (by decide) rfl hdg kk
theorem mg_bodyOf (C : gC X cc nL own rm rt D (gt ct) post) (hf : gl_F own idx "PagerHouseModel" "bodyOf" "[I") (hdg : decode cc pc = .ok (.getfield idx, 3)) (kk : gV X k n (mw o ct μ) (pc + 3) lv (.ref (o 2) :: st)) : gV X k n (mw o ct μ) pc lv (.ref (o 0) :: st) := gV_get C pw_fl_X3 0 3 4 hf rfl rfl (by decide) rfl hdg kk
theorem mg_is (C : gC X cc nL own rm rt D (gt ct) post) (hf : gl_F own idx "PagerHouseModel" "is" "[Z") (hdg : decode cc pc = .ok (.getfield idx, 3)) (kk : gV X k n (mw o ct μ) (pc + 3) lv (.ref (o 3) :: st)) : gV X k n (mw o ct μ) pc lv (.ref (o 0) :: st) := gV_get C pw_fl_X3 0 3 5 hf rfl rfl (by decide) rfl hdg kk
theorem mg_frameOf (C : gC X cc nL own rm rt D (gt ct) post) (hf : gl_F own idx "PagerHouseModel" "frameOf" "[I") (hdg : decode cc pc = .ok (.getfield idx, 3)) (kk : gV X k n (mw o ct μ) (pc + 3) lv (.ref (o 4) :: st)) : gV X k n (mw o ct μ) pc lv (.ref (o 0) :: st) := gV_get C pw_fl_X3 0 3 6 hf rfl rfl (by decide) rfl hdg kk
theorem mg_sectorOf (C : gC X cc nL own rm rt D (gt ct) post) (hf : gl_F own idx "PagerHouseModel" "sectorOf" "[I") (hdg : decode cc pc = .ok (.getfield idx, 3)) (kk : gV X k n (mw o ct μ) (pc + 3) lv (.ref (o 5) :: st)) : gV X k n (mw o ct μ) pc lv (.ref (o 0) :: st) := gV_get C pw_fl_X3 0 3 7 hf rfl rfl (by decide) rfl hdg kk
theorem mg_dirty (C : gC X cc nL own rm rt D (gt ct) post) (hf : gl_F own idx "PagerHouseModel" "dirty" "[Z") (hdg : decode cc pc = .ok (.getfield idx, 3)) (kk : gV X k n (mw o ct μ) (pc + 3) lv (.ref (o 6) :: st)) : gV X k n (mw o ct μ) pc lv (.ref (o 0) :: st) := gV_get C pw_fl_X3 0 3 8 hf rfl rfl (by decide) rfl hdg kk
theorem mg_inFrame (C : gC X cc nL own rm rt D (gt ct) post) (hf : gl_F own idx "PagerHouseModel" "inFrame" "[I") (hdg : decode cc pc = .ok (.getfield idx, 3)) (kk : gV X k n (mw o ct μ) (pc + 3) lv (.ref (o 7) :: st)) : gV X k n (mw o ct μ) pc lv (.ref (o 0) :: st) := gV_get C pw_fl_X3 0 3 9 hf rfl rfl (by decide) rfl hdg kk
theorem mg_inSector (C : gC X cc nL own rm rt D (gt ct) post) (hf : gl_F own idx "PagerHouseModel" "inSector" "[I") (hdg : decode cc pc = .ok (.getfield idx, 3)) (kk : gV X k n (mw o ct μ) (pc + 3) lv (.ref (o 8) :: st)) : gV X k n (mw o ct μ) pc lv (.ref (o 0) :: st) := gV_get C pw_fl_X3 0 3 10 hf rfl rfl (by decide) rfl hdg kk
theorem mg_used (C : gC X cc nL own rm rt D (gt ct) post) (hf : gl_F own idx "PagerHouseModel" "used" "[Z") (hdg : decode cc pc = .ok (.getfield idx, 3)) (kk : gV X k n (mw o ct μ) (pc + 3) lv (.ref (o 9) :: st)) : gV X k n (mw o ct μ) pc lv (.ref (o 0) :: st) := gV_get C pw_fl_X3 0 3 11 hf rfl rfl (by decide) rfl hdg kk
theorem mg_hand (C : gC X cc nL own rm rt D (gt ct) post) (hf : gl_F own idx "PagerHouseModel" "hand" "I") (hdg : decode cc pc = .ok (.getfield idx, 3)) (kk : gV X k n (mw o ct μ) (pc + 3) lv (.int (pm_I μ 3) :: st)) : gV X k n (mw o ct μ) pc lv (.ref (o 0) :: st) := gV_get C pw_fl_X3 0 3 12 hf rfl rfl (by decide) rfl hdg kk
theorem mp_hand (C : gC X cc nL own rm rt D (gt ct) post) (hf : gl_F own idx "PagerHouseModel" "hand" "I") {v : Int32} (hdg : decode cc pc = .ok (.putfield idx, 3)) (kk : gV X k n (mw o ct (pm_sI μ 3 v)) (pc + 3) lv st) : gV X k n (mw o ct μ) pc lv (.int v :: .ref (o 0) :: st) := gV_put (ty := .int) C pw_fl_X3 tyX3 tyX3_ok nmX3 0 3 12 hf rfl rfl (by decide) rfl (by decide +kernel) rfl rfl (Nat.le_of_ble_eq_true rfl) hdg kk
theorem mg_asked (C : gC X cc nL own rm rt D (gt ct) post) (hf : gl_F own idx "PagerHouseModel" "asked" "I") (hdg : decode cc pc = .ok (.getfield idx, 3)) (kk : gV X k n (mw o ct μ) (pc + 3) lv (.int (pm_I μ 4) :: st)) : gV X k n (mw o ct μ) pc lv (.ref (o 0) :: st) := gV_get C pw_fl_X3 0 3 13 hf rfl rfl (by decide) rfl hdg kk
theorem mp_asked (C : gC X cc nL own rm rt D (gt ct) post) (hf : gl_F own idx "PagerHouseModel" "asked" "I") {v : Int32} (hdg : decode cc pc = .ok (.putfield idx, 3)) (kk : gV X k n (mw o ct (pm_sI μ 4 v)) (pc + 3) lv st) : gV X k n (mw o ct μ) pc lv (.int v :: .ref (o 0) :: st) := gV_put (ty := .int) C pw_fl_X3 tyX3 tyX3_ok nmX3 0 3 13 hf rfl rfl (by decide) rfl (by decide +kernel) rfl rfl (Nat.le_of_ble_eq_true rfl) hdg kk
theorem mg_taken (C : gC X cc nL own rm rt D (gt ct) post) (hf : gl_F own idx "PagerHouseModel" "taken" "I") (hdg : decode cc pc = .ok (.getfield idx, 3)) (kk : gV X k n (mw o ct μ) (pc + 3) lv (.int (pm_I μ 5) :: st)) : gV X k n (mw o ct μ) pc lv (.ref (o 0) :: st) := gV_get C pw_fl_X3 0 3 14 hf rfl rfl (by decide) rfl hdg kk
theorem mp_taken (C : gC X cc nL own rm rt D (gt ct) post) (hf : gl_F own idx "PagerHouseModel" "taken" "I") {v : Int32} (hdg : decode cc pc = .ok (.putfield idx, 3)) (kk : gV X k n (mw o ct (pm_sI μ 5 v)) (pc + 3) lv st) : gV X k n (mw o ct μ) pc lv (.int v :: .ref (o 0) :: st) := gV_put (ty := .int) C pw_fl_X3 tyX3 tyX3_ok nmX3 0 3 14 hf rfl rfl (by decide) rfl (by decide +kernel) rfl rfl (Nat.le_of_ble_eq_true rfl) hdg kk
theorem mg_brought (C : gC X cc nL own rm rt D (gt ct) post) (hf : gl_F own idx "PagerHouseModel" "brought" "I") (hdg : decode cc pc = .ok (.getfield idx, 3)) (kk : gV X k n (mw o ct μ) (pc + 3) lv (.int (pm_I μ 6) :: st)) : gV X k n (mw o ct μ) pc lv (.ref (o 0) :: st) := gV_get C pw_fl_X3 0 3 15 hf rfl rfl (by decide) rfl hdg kk
theorem mp_brought (C : gC X cc nL own rm rt D (gt ct) post) (hf : gl_F own idx "PagerHouseModel" "brought" "I") {v : Int32} (hdg : decode cc pc = .ok (.putfield idx, 3)) (kk : gV X k n (mw o ct (pm_sI μ 6 v)) (pc + 3) lv st) : gV X k n (mw o ct μ) pc lv (.int v :: .ref (o 0) :: st) := gV_put (ty := .int) C pw_fl_X3 tyX3 tyX3_ok nmX3 0 3 15 hf rfl rfl (by decide) rfl (by decide +kernel) rfl rfl (Nat.le_of_ble_eq_true rfl) hdg kk
theorem mg_stores (C : gC X cc nL own rm rt D (gt ct) post) (hf : gl_F own idx "PagerHouseModel" "stores" "I") (hdg : decode cc pc = .ok (.getfield idx, 3)) (kk : gV X k n (mw o ct μ) (pc + 3) lv (.int (pm_I μ 7) :: st)) : gV X k n (mw o ct μ) pc lv (.ref (o 0) :: st) := gV_get C pw_fl_X3 0 3 16 hf rfl rfl (by decide) rfl hdg kk
theorem mp_stores (C : gC X cc nL own rm rt D (gt ct) post) (hf : gl_F own idx "PagerHouseModel" "stores" "I") {v : Int32} (hdg : decode cc pc = .ok (.putfield idx, 3)) (kk : gV X k n (mw o ct (pm_sI μ 7 v)) (pc + 3) lv st) : gV X k n (mw o ct μ) pc lv (.int v :: .ref (o 0) :: st) := gV_put (ty := .int) C pw_fl_X3 tyX3 tyX3_ok nmX3 0 3 16 hf rfl rfl (by decide) rfl (by decide +kernel) rfl rfl (Nat.le_of_ble_eq_true rfl) hdg kk
theorem mg_copies (C : gC X cc nL own rm rt D (gt ct) post) (hf : gl_F own idx "PagerHouseModel" "copies" "I") (hdg : decode cc pc = .ok (.getfield idx, 3)) (kk : gV X k n (mw o ct μ) (pc + 3) lv (.int (pm_I μ 8) :: st)) : gV X k n (mw o ct μ) pc lv (.ref (o 0) :: st) := gV_get C pw_fl_X3 0 3 17 hf rfl rfl (by decide) rfl hdg kk
theorem mp_copies (C : gC X cc nL own rm rt D (gt ct) post) (hf : gl_F own idx "PagerHouseModel" "copies" "I") {v : Int32} (hdg : decode cc pc = .ok (.putfield idx, 3)) (kk : gV X k n (mw o ct (pm_sI μ 8 v)) (pc + 3) lv st) : gV X k n (mw o ct μ) pc lv (.int v :: .ref (o 0) :: st) := gV_put (ty := .int) C pw_fl_X3 tyX3 tyX3_ok nmX3 0 3 17 hf rfl rfl (by decide) rfl (by decide +kernel) rfl rfl (Nat.le_of_ble_eq_true rfl) hdg kk
theorem ma_pages (C : gC X cc nL own rm rt D (gt ct) post) {i : Int32} (hin : vp_in i 8) (hdg : decode cc pc = .ok (.iaload, 1)) (kk : gV X k n (mw o ct μ) (pc + 1) lv (.int (pm_A μ 0 i.toNatClampNeg) :: st)) : gV X k n (mw o ct μ) pc lv (.int i :: .ref (o 1) :: st) := gV_iald C 1 0 rfl rfl hin hdg kk
theorem ms_pages (C : gC X cc nL own rm rt D (gt ct) post) {i x : Int32} (hin : vp_in i 8) (hdg : decode cc pc = .ok (.iastore, 1)) (kk : gV X k n (mw o ct (pm_sA μ 0 i.toNatClampNeg x)) (pc + 1) lv st) : gV X k n (mw o ct μ) pc lv (.int x :: .int i :: .ref (o 1) :: st) := gV_iast C 1 0 rfl rfl hin hdg kk
theorem ma_bodyOf (C : gC X cc nL own rm rt D (gt ct) post) {i : Int32} (hin : vp_in i 256) (hdg : decode cc pc = .ok (.iaload, 1)) (kk : gV X k n (mw o ct μ) (pc + 1) lv (.int (pm_A μ 1 i.toNatClampNeg) :: st)) : gV X k n (mw o ct μ) pc lv (.int i :: .ref (o 2) :: st) := gV_iald C 2 0 rfl rfl hin hdg kk
theorem ms_bodyOf (C : gC X cc nL own rm rt D (gt ct) post) {i x : Int32} (hin : vp_in i 256) (hdg : decode cc pc = .ok (.iastore, 1)) (kk : gV X k n (mw o ct (pm_sA μ 1 i.toNatClampNeg x)) (pc + 1) lv st) : gV X k n (mw o ct μ) pc lv (.int x :: .int i :: .ref (o 2) :: st) := gV_iast C 2 0 rfl rfl hin hdg kk
theorem ma_is (C : gC X cc nL own rm rt D (gt ct) post) {i : Int32} (hin : vp_in i 300) (hdg : decode cc pc = .ok (.baload, 1)) (kk : gV X k n (mw o ct μ) (pc + 1) lv (.int (pm_A μ 2 i.toNatClampNeg) :: st)) : gV X k n (mw o ct μ) pc lv (.int i :: .ref (o 3) :: st) := gV_zald C 3 1 rfl rfl hin hdg kk
theorem ms_is (C : gC X cc nL own rm rt D (gt ct) post) {i x : Int32} (hin : vp_in i 300) (hv9 : x = 0 ∨ x = 1) (hdg : decode cc pc = .ok (.bastore, 1)) (kk : gV X k n (mw o ct (pm_sA μ 2 i.toNatClampNeg x)) (pc + 1) lv st) : gV X k n (mw o ct μ) pc lv (.int x :: .int i :: .ref (o 3) :: st) := gV_zast C 3 1 rfl rfl hin hv9 hdg kk
theorem ma_frameOf (C : gC X cc nL own rm rt D (gt ct) post) {i : Int32} (hin : vp_in i 300) (hdg : decode cc pc = .ok (.iaload, 1)) (kk : gV X k n (mw o ct μ) (pc + 1) lv (.int (pm_A μ 3 i.toNatClampNeg) :: st)) : gV X k n (mw o ct μ) pc lv (.int i :: .ref (o 4) :: st) := gV_iald C 4 0 rfl rfl hin hdg kk
theorem ms_frameOf (C : gC X cc nL own rm rt D (gt ct) post) {i x : Int32} (hin : vp_in i 300) (hdg : decode cc pc = .ok (.iastore, 1)) (kk : gV X k n (mw o ct (pm_sA μ 3 i.toNatClampNeg x)) (pc + 1) lv st) : gV X k n (mw o ct μ) pc lv (.int x :: .int i :: .ref (o 4) :: st) := gV_iast C 4 0 rfl rfl hin hdg kk
theorem ma_sectorOf (C : gC X cc nL own rm rt D (gt ct) post) {i : Int32} (hin : vp_in i 300) (hdg : decode cc pc = .ok (.iaload, 1)) (kk : gV X k n (mw o ct μ) (pc + 1) lv (.int (pm_A μ 4 i.toNatClampNeg) :: st)) : gV X k n (mw o ct μ) pc lv (.int i :: .ref (o 5) :: st) := gV_iald C 5 0 rfl rfl hin hdg kk
theorem ms_sectorOf (C : gC X cc nL own rm rt D (gt ct) post) {i x : Int32} (hin : vp_in i 300) (hdg : decode cc pc = .ok (.iastore, 1)) (kk : gV X k n (mw o ct (pm_sA μ 4 i.toNatClampNeg x)) (pc + 1) lv st) : gV X k n (mw o ct μ) pc lv (.int x :: .int i :: .ref (o 5) :: st) := gV_iast C 5 0 rfl rfl hin hdg kk
theorem ma_dirty (C : gC X cc nL own rm rt D (gt ct) post) {i : Int32} (hin : vp_in i 300) (hdg : decode cc pc = .ok (.baload, 1)) (kk : gV X k n (mw o ct μ) (pc + 1) lv (.int (pm_A μ 5 i.toNatClampNeg) :: st)) : gV X k n (mw o ct μ) pc lv (.int i :: .ref (o 6) :: st) := gV_zald C 6 1 rfl rfl hin hdg kk
theorem ms_dirty (C : gC X cc nL own rm rt D (gt ct) post) {i x : Int32} (hin : vp_in i 300) (hv9 : x = 0 ∨ x = 1) (hdg : decode cc pc = .ok (.bastore, 1)) (kk : gV X k n (mw o ct (pm_sA μ 5 i.toNatClampNeg x)) (pc + 1) lv st) : gV X k n (mw o ct μ) pc lv (.int x :: .int i :: .ref (o 6) :: st) := gV_zast C 6 1 rfl rfl hin hv9 hdg kk
theorem ma_inFrame (C : gC X cc nL own rm rt D (gt ct) post) {i : Int32} (hin : vp_in i 256) (hdg : decode cc pc = .ok (.iaload, 1)) (kk : gV X k n (mw o ct μ) (pc + 1) lv (.int (pm_A μ 6 i.toNatClampNeg) :: st)) : gV X k n (mw o ct μ) pc lv (.int i :: .ref (o 7) :: st) := gV_iald C 7 0 rfl rfl hin hdg kk
theorem ms_inFrame (C : gC X cc nL own rm rt D (gt ct) post) {i x : Int32} (hin : vp_in i 256) (hdg : decode cc pc = .ok (.iastore, 1)) (kk : gV X k n (mw o ct (pm_sA μ 6 i.toNatClampNeg x)) (pc + 1) lv st) : gV X k n (mw o ct μ) pc lv (.int x :: .int i :: .ref (o 7) :: st) := gV_iast C 7 0 rfl rfl hin hdg kk
theorem ma_inSector (C : gC X cc nL own rm rt D (gt ct) post) {i : Int32} (hin : vp_in i 1024) (hdg : decode cc pc = .ok (.iaload, 1)) (kk : gV X k n (mw o ct μ) (pc + 1) lv (.int (pm_A μ 7 i.toNatClampNeg) :: st)) : gV X k n (mw o ct μ) pc lv (.int i :: .ref (o 8) :: st) := gV_iald C 8 0 rfl rfl hin hdg kk
theorem ms_inSector (C : gC X cc nL own rm rt D (gt ct) post) {i x : Int32} (hin : vp_in i 1024) (hdg : decode cc pc = .ok (.iastore, 1)) (kk : gV X k n (mw o ct (pm_sA μ 7 i.toNatClampNeg x)) (pc + 1) lv st) : gV X k n (mw o ct μ) pc lv (.int x :: .int i :: .ref (o 8) :: st) := gV_iast C 8 0 rfl rfl hin hdg kk
theorem ma_used (C : gC X cc nL own rm rt D (gt ct) post) {i : Int32} (hin : vp_in i 16) (hdg : decode cc pc = .ok (.baload, 1)) (kk : gV X k n (mw o ct μ) (pc + 1) lv (.int (pm_A μ 8 i.toNatClampNeg) :: st)) : gV X k n (mw o ct μ) pc lv (.int i :: .ref (o 9) :: st) := gV_zald C 9 1 rfl rfl hin hdg kk
theorem ms_used (C : gC X cc nL own rm rt D (gt ct) post) {i x : Int32} (hin : vp_in i 16) (hv9 : x = 0 ∨ x = 1) (hdg : decode cc pc = .ok (.bastore, 1)) (kk : gV X k n (mw o ct (pm_sA μ 8 i.toNatClampNeg x)) (pc + 1) lv st) : gV X k n (mw o ct μ) pc lv (.int x :: .int i :: .ref (o 9) :: st) := gV_zast C 9 1 rfl rfl hin hv9 hdg kk
end MWR
end
section
theorem gM_in {y : MethodName} {bytes : ByteArray} {maxL : Nat} {rt : Option FieldType} {rm : Room} {D : va_G} {tys : List (ClassId × FieldType)} {ws : va_W} {av : List Value} {post : Option Value → va_W → Prop} (own : String) (ho : y.cls = own)
    (hy : plainName own = true) (hav : (lg_sl av).length ≤ maxL) (h : ∀ X : gx_T, gC X bytes maxL own rm rt D tys post → gV X 0 0 ws 0 (lv_args 0 av) []) : gM y bytes maxL rt rm D tys ws av post := by
  subst ho
  exact gM_intro hy hav h
/-- what every state of the class keeps to -/
def ph_ok (F S : Nat) (σ : ph_S) : Prop :=
  (2 ≤ F ∧ F ≤ 16 ∧ S ≤ 64) ∧ (∀ k j a, ph_R σ k j = some a → a ∈ ph_L σ) ∧
  (∀ a, a ∈ ph_L σ → (ph_B σ 1 a = -1 ∨ ∃ f, f < F ∧ ph_B σ 1 a = nI f) ∧ (ph_B σ 2 a = -1 ∨ ∃ f, f < S ∧ ph_B σ 2 a = nI f) ∧ (∃ g, g < 32 ∧ ph_B σ 0 a = nI g) ∧ (ph_B σ 4 a = 0 ∨ ph_B σ 4 a = 1)) ∧
  (∃ h, h < F ∧ ph_I σ 0 = nI h) ∧ (∀ p, p < 8 → ∃ m, m ≤ 32 ∧ ph_A σ 3 p = nI m) ∧ (∀ f, ph_A σ 2 f = 0 ∨ ph_A σ 2 f = 1)
theorem ph_ok.F2 {F S : Nat} {σ : ph_S} (h : ph_ok F S σ) : 2 ≤ F := h.1.1
theorem ph_ok.F16 {F S : Nat} {σ : ph_S} (h : ph_ok F S σ) : F ≤ 16 := h.1.2.1
theorem ph_ok.S64 {F S : Nat} {σ : ph_S} (h : ph_ok F S σ) : S ≤ 64 := h.1.2.2
theorem ph_ok.refs {F S : Nat} {σ : ph_S} (h : ph_ok F S σ) : ∀ k j a, ph_R σ k j = some a → a ∈ ph_L σ := h.2.1
theorem ph_ok.fr {F S : Nat} {σ : ph_S} (h : ph_ok F S σ) {a : Nat} (ha : a ∈ ph_L σ) : ph_B σ 1 a = -1 ∨ ∃ f, f < F ∧ ph_B σ 1 a = nI f := (h.2.2.1 a ha).1
theorem ph_ok.se {F S : Nat} {σ : ph_S} (h : ph_ok F S σ) {a : Nat} (ha : a ∈ ph_L σ) : ph_B σ 2 a = -1 ∨ ∃ f, f < S ∧ ph_B σ 2 a = nI f := (h.2.2.1 a ha).2.1
theorem ph_ok.pg {F S : Nat} {σ : ph_S} (h : ph_ok F S σ) {a : Nat} (ha : a ∈ ph_L σ) : ∃ g, g < 32 ∧ ph_B σ 0 a = nI g := (h.2.2.1 a ha).2.2.1
theorem ph_ok.di {F S : Nat} {σ : ph_S} (h : ph_ok F S σ) {a : Nat} (ha : a ∈ ph_L σ) : ph_B σ 4 a = 0 ∨ ph_B σ 4 a = 1 := (h.2.2.1 a ha).2.2.2
theorem ph_ok.hand {F S : Nat} {σ : ph_S} (h : ph_ok F S σ) : ∃ j, j < F ∧ ph_I σ 0 = nI j := h.2.2.2.1
theorem ph_ok.pn {F S : Nat} {σ : ph_S} (h : ph_ok F S σ) {p : Nat} (hp : p < 8) : ∃ m, m ≤ 32 ∧ ph_A σ 3 p = nI m := h.2.2.2.2.1 p hp
theorem ph_ok.us {F S : Nat} {σ : ph_S} (h : ph_ok F S σ) (f : Nat) : ph_A σ 2 f = 0 ∨ ph_A σ 2 f = 1 := h.2.2.2.2.2 f
/-- an index by the two tests that stand ahead of it -/
theorem ix_cmp {x : Int32} {N : Nat} (hN : N < 2 ^ 31) (h1 : ¬ x < 0) (h2 : ¬ nI N ≤ x) : vp_in x N := by
  obtain ⟨j, hj, rfl⟩ := nI_of h1
  refine vp_in_nI (Nat.lt_of_not_le fun h => h2 (nI_le h hj)) hN
/-- how many of the first n -/
def ph_cN (f : Nat → Bool) : Nat → Nat
  | 0 => 0
  | n + 1 => ph_cN f n + (if f n = true then 1 else 0)
theorem ph_cN_le (f : Nat → Bool) : ∀ n, ph_cN f n ≤ n
  | 0 => Nat.le_refl 0
  | n + 1 => by
    have := ph_cN_le f n
    unfold ph_cN
    split <;> omega
theorem ph_cN_t {f : Nat → Bool} {n : Nat} (h : f n = true) : ph_cN f (n + 1) = ph_cN f n + 1 := by simp [ph_cN, h]
theorem ph_cN_f {f : Nat → Bool} {n : Nat} (h : f n = false) : ph_cN f (n + 1) = ph_cN f n := by simp [ph_cN, h]
def ph_has (N : Nat) (r : Int32) : Int32 := if r < 0 then 0 else if nI N ≤ r then 0 else 1
def ph_lfG (f : Nat → Option Nat) : Nat → Nat → Int32
  | 0, _ => -1
  | d + 1, i => match f i with
    | none => nI i
    | some _ => ph_lfG f d (i + 1)
def ph_lf (f : Nat → Option Nat) (N : Nat) : Int32 := ph_lfG f N 0
def ph_cf (f : Nat → Option Nat) (N : Nat) : Nat := ph_cN (fun i => (f i).isNone) N
def ph_lpG (σ : ph_S) : Nat → Nat → Int32
  | 0, _ => -1
  | d + 1, i => if ph_A σ 3 i = 0 then nI i else ph_lpG σ d (i + 1)
def ph_lp (σ : ph_S) : Int32 := ph_lpG σ 8 0
def ph_hp (σ : ph_S) (p : Int32) : Int32 := if p < 0 then 0 else if 8 ≤ p then 0 else if ph_A σ 3 p.toNatClampNeg ≤ 0 then 0 else 1
def ph_hg (σ : ph_S) (p g : Int32) : Int32 := if ph_hp σ p = 0 then 0 else if g < 0 then 0 else if ph_A σ 3 p.toNatClampNeg ≤ g then 0 else 1
theorem ph_hp_in {σ : ph_S} {p : Int32} (h : ¬ ph_hp σ p = 0) : ¬ p < 0 ∧ ¬ 8 ≤ p ∧ ¬ ph_A σ 3 p.toNatClampNeg ≤ 0 := by
  unfold ph_hp at h
  split at h
  · exact absurd rfl h
  · split at h
    · exact absurd rfl h
    · split at h
      · exact absurd rfl h
      · exact ⟨by assumption, by assumption, by assumption⟩
theorem ph_hp_vin {σ : ph_S} {p : Int32} (h : ¬ ph_hp σ p = 0) : vp_in p 8 := ix_cmp (N := 8) (by decide) (ph_hp_in h).1 (ph_hp_in h).2.1
theorem ph_hp_01 (σ : ph_S) (p : Int32) : ph_hp σ p = 0 ∨ ph_hp σ p = 1 := by
  unfold ph_hp
  split
  · exact Or.inl rfl
  · split
    · exact Or.inl rfl
    · split
      · exact Or.inl rfl
      · exact Or.inr rfl
def ph_tr (σ : ph_S) (r : Option Nat) : Int32 := match r with
  | none => 0
  | some a => if ph_B σ 1 a = -1 then 1 else 0
def ph_tw (σ : ph_S) (r : Option Nat) : Int32 := match r with
  | none => 1
  | some a => if ph_B σ 3 a ≤ 1 then ph_tr σ (some a) + 0 else ph_tr σ (some a) + 1
def ph_bh (F : Nat) (f : Int32) : Int32 := if nI F ≤ f + 1 then 0 else f + 1
abbrev rm_X1_has : Room := { frames := 0, cells := 0, slots := 0, locals := 0 }
set_option maxHeartbeats 4000000 in
set_option maxRecDepth 100000 in
/-- Rows.has -/
theorem c_has1 {D : va_G} {ad : Nat → Nat} {ct : Nat → ClassId} {F S : Nat} {σ : ph_S} (r : Int32) : gM yX1_has cX1_has 2 (some .boolean) rm_X1_has D (gt ct) (cw ad ct F S σ) [.ref (ad 1), .int r] (fun v w => v = some (.int (ph_has F r)) ∧ w = cw ad ct F S σ) := by
  refine gM_in RX1 rfl (by decide) (Nat.le_of_ble_eq_true rfl) (fun X C => ?_)
  refine gV_iload_n (pc := 0) C dX1_has_0 1 rfl rfl ?_
  refine gV_if_lt (pc := 1) C 17 dX1_has_1 (by decide) (fun c_1 => ?_) (fun c_1 => ?_)
  · skip
    refine gV_iconst (pc := 17) (v := 0) C dX1_has_17 (by decide) ?_
    refine gV_zret (pc := 18) C dX1_has_18 (by decide) (by decide) (by decide) ?_
    exact ⟨by rw [ph_has, if_pos c_1], rfl⟩
  · skip
    refine gV_iload_n (pc := 4) C dX1_has_4 1 rfl rfl ?_
    refine gV_aload_n (pc := 5) (x := ad 1) C dX1_has_5 0 rfl rfl ?_
    refine cg_content1 (pc := 6) C fl_X1_11 dX1_has_6 ?_
    refine cl_fc (pc := 9) C dX1_has_9 ?_
    refine gV_icmp_ge (pc := 10) C 17 dX1_has_10 (by decide) (fun c_2 => ?_) (fun c_2 => ?_)
    · skip
      refine gV_iconst (pc := 17) (v := 0) C dX1_has_17 (by decide) ?_
      refine gV_zret (pc := 18) C dX1_has_18 (by decide) (by decide) (by decide) ?_
      exact ⟨by rw [ph_has, if_neg c_1, if_pos c_2], rfl⟩
    · skip
      refine gV_iconst (pc := 13) (v := 1) C dX1_has_13 (by decide) ?_
      refine gV_goto (pc := 14) C 18 dX1_has_14 (by decide) ?_
      refine gV_zret (pc := 18) C dX1_has_18 (by decide) (by decide) (by decide) ?_
      exact ⟨by rw [ph_has, if_neg c_1, if_neg c_2], rfl⟩
set_option maxHeartbeats 4000000 in
set_option maxRecDepth 100000 in
/-- Rows.has -/
theorem c_has2 {D : va_G} {ad : Nat → Nat} {ct : Nat → ClassId} {F S : Nat} {σ : ph_S} (r : Int32) : gM yX1_has cX1_has 2 (some .boolean) rm_X1_has D (gt ct) (cw ad ct F S σ) [.ref (ad 2), .int r] (fun v w => v = some (.int (ph_has S r)) ∧ w = cw ad ct F S σ) := by
  refine gM_in RX1 rfl (by decide) (Nat.le_of_ble_eq_true rfl) (fun X C => ?_)
  refine gV_iload_n (pc := 0) C dX1_has_0 1 rfl rfl ?_
  refine gV_if_lt (pc := 1) C 17 dX1_has_1 (by decide) (fun c_1 => ?_) (fun c_1 => ?_)
  · skip
    refine gV_iconst (pc := 17) (v := 0) C dX1_has_17 (by decide) ?_
    refine gV_zret (pc := 18) C dX1_has_18 (by decide) (by decide) (by decide) ?_
    exact ⟨by rw [ph_has, if_pos c_1], rfl⟩
  · skip
    refine gV_iload_n (pc := 4) C dX1_has_4 1 rfl rfl ?_
    refine gV_aload_n (pc := 5) (x := ad 2) C dX1_has_5 0 rfl rfl ?_
    refine cg_content2 (pc := 6) C fl_X1_11 dX1_has_6 ?_
    refine cl_sc (pc := 9) C dX1_has_9 ?_
    refine gV_icmp_ge (pc := 10) C 17 dX1_has_10 (by decide) (fun c_2 => ?_) (fun c_2 => ?_)
    · skip
      refine gV_iconst (pc := 17) (v := 0) C dX1_has_17 (by decide) ?_
      refine gV_zret (pc := 18) C dX1_has_18 (by decide) (by decide) (by decide) ?_
      exact ⟨by rw [ph_has, if_neg c_1, if_pos c_2], rfl⟩
    · skip
      refine gV_iconst (pc := 13) (v := 1) C dX1_has_13 (by decide) ?_
      refine gV_goto (pc := 14) C 18 dX1_has_14 (by decide) ?_
      refine gV_zret (pc := 18) C dX1_has_18 (by decide) (by decide) (by decide) ?_
      exact ⟨by rw [ph_has, if_neg c_1, if_neg c_2], rfl⟩
abbrev rm_X1_leastFree : Room := { frames := 0, cells := 0, slots := 0, locals := 0 }
abbrev rm_X1_countFree : Room := { frames := 0, cells := 0, slots := 0, locals := 0 }
set_option maxHeartbeats 4000000 in
set_option maxRecDepth 100000 in
theorem lp_leastFree1 {X : gx_T} {D : va_G} {ad : Nat → Nat} {ct : Nat → ClassId} {F S : Nat} {σ : ph_S} (hN : F ≤ 64) (C : gC X cX1_leastFree 2 RX1 rm_X1_leastFree (some .int) D (gt ct) (fun v w => v = some (.int (ph_lf (ph_R σ 0) F)) ∧ w = cw ad ct F S σ)) : ∀ d i : Nat, i + d = F → ph_lfG (ph_R σ 0) d i = ph_lf (ph_R σ 0) F → gV X 0 0 (cw ad ct F S σ) 2 [(1, .int (nI i)), (0, .ref (ad 1))] [] := by
  intro d
  induction d with
  | zero =>
    intro i hi hr
    refine gV_iload_n (pc := 2) C dX1_leastFree_2 0 rfl rfl ?_
    refine gV_aload_n (pc := 3) (x := ad 1) C dX1_leastFree_3 1 rfl rfl ?_
    refine cg_content1 (pc := 4) C fl_X1_11 dX1_leastFree_4 ?_
    refine cl_fc (pc := 7) C dX1_leastFree_7 ?_
    refine gV_icmp_ge (pc := 8) C 28 dX1_leastFree_8 (by decide) (fun c_1 => ?_) (fun c_1 => ?_)
    · skip
      refine gV_iconst (pc := 28) (v := (-1)) C dX1_leastFree_28 (by decide) ?_
      refine gV_iret (pc := 29) C dX1_leastFree_29 (by decide) (by decide) ?_
      exact ⟨by rw [← hr]; rfl, rfl⟩
    · exact absurd (nI_le (by omega) (by omega)) c_1
  | succ d ih =>
    intro i hi hr
    refine gV_iload_n (pc := 2) C dX1_leastFree_2 0 rfl rfl ?_
    refine gV_aload_n (pc := 3) (x := ad 1) C dX1_leastFree_3 1 rfl rfl ?_
    refine cg_content1 (pc := 4) C fl_X1_11 dX1_leastFree_4 ?_
    refine cl_fc (pc := 7) C dX1_leastFree_7 ?_
    refine gV_icmp_ge (pc := 8) C 28 dX1_leastFree_8 (by decide) (fun c_1 => ?_) (fun c_1 => ?_)
    · exact absurd c_1 (nI_ge (by omega) (by omega))
    · skip
      refine gV_aload_n (pc := 11) (x := ad 1) C dX1_leastFree_11 1 rfl rfl ?_
      refine cg_content1 (pc := 12) C fl_X1_11 dX1_leastFree_12 ?_
      refine gV_iload_n (pc := 15) C dX1_leastFree_15 0 rfl rfl ?_
      refine ca_fc (pc := 16) C (vp_in_nI (by omega) (by omega)) dX1_leastFree_16 ?_
      rw [nI_clamp (by omega)]
      cases er_2 : ph_R σ 0 i with
      | none =>
        refine gV_ifnonnull (pc := 17) (r := none) C 22 dX1_leastFree_17 (by decide) (fun _ h => nomatch h) (fun _ => ?_)
        refine gV_iload_n (pc := 20) C dX1_leastFree_20 0 rfl rfl ?_
        refine gV_iret (pc := 21) C dX1_leastFree_21 (by decide) (by decide) ?_
        exact ⟨by rw [← hr, ph_lfG, er_2], rfl⟩
      | some a_2 =>
        refine gV_ifnonnull (pc := 17) (r := some a_2) C 22 dX1_leastFree_17 (by decide) (fun _ _ => ?_) (fun h => nomatch h)
        refine gV_iinc (pc := 22) (v := nI (i + 1)) (lv' := [(1, .int (nI (i + 1))), (0, .ref (ad 1))]) C dX1_leastFree_22 0 rfl (nI_1 _) (by decide) rfl ?_
        refine gV_goto (pc := 25) C 2 dX1_leastFree_25 (by decide) ?_
        exact ih (i + 1) (by omega) (by rw [← hr, ph_lfG, er_2])
set_option maxHeartbeats 4000000 in
set_option maxRecDepth 100000 in
/-- Rows.leastFree -/
theorem c_leastFree1 {D : va_G} {ad : Nat → Nat} {ct : Nat → ClassId} {F S : Nat} {σ : ph_S} (hN : F ≤ 64) : gM yX1_leastFree cX1_leastFree 2 (some .int) rm_X1_leastFree D (gt ct) (cw ad ct F S σ) [.ref (ad 1)] (fun v w => v = some (.int (ph_lf (ph_R σ 0) F)) ∧ w = cw ad ct F S σ) := by
  refine gM_in RX1 rfl (by decide) (Nat.le_of_ble_eq_true rfl) (fun X C => ?_)
  refine gV_iconst (pc := 0) (v := 0) C dX1_leastFree_0 (by decide) ?_
  refine gV_istore_n (pc := 1) (lv' := [(1, .int 0), (0, .ref (ad 1))]) C dX1_leastFree_1 rfl (by decide) rfl ?_
  exact lp_leastFree1 hN C F 0 (Nat.zero_add _) rfl
set_option maxHeartbeats 4000000 in
set_option maxRecDepth 100000 in
theorem lp_countFree1 {X : gx_T} {D : va_G} {ad : Nat → Nat} {ct : Nat → ClassId} {F S : Nat} {σ : ph_S} (hN : F ≤ 64) (C : gC X cX1_countFree 3 RX1 rm_X1_countFree (some .int) D (gt ct) (fun v w => v = some (.int (nI (ph_cf (ph_R σ 0) F))) ∧ w = cw ad ct F S σ)) : ∀ d i : Nat, i + d = F → gV X 0 0 (cw ad ct F S σ) 4 [(2, .int (nI i)), (1, .int (nI (ph_cN (fun i => (ph_R σ 0 i).isNone) i))), (0, .ref (ad 1))] [] := by
  intro d
  induction d with
  | zero =>
    intro i hi
    have e : i = F := by omega
    rw [e]
    refine gV_iload_n (pc := 4) C dX1_countFree_4 0 rfl rfl ?_
    refine gV_aload_n (pc := 5) (x := ad 1) C dX1_countFree_5 2 rfl rfl ?_
    refine cg_content1 (pc := 6) C fl_X1_11 dX1_countFree_6 ?_
    refine cl_fc (pc := 9) C dX1_countFree_9 ?_
    refine gV_icmp_ge (pc := 10) C 31 dX1_countFree_10 (by decide) (fun c_1 => ?_) (fun c_1 => ?_)
    · skip
      refine gV_iload_n (pc := 31) C dX1_countFree_31 1 rfl rfl ?_
      refine gV_iret (pc := 32) C dX1_countFree_32 (by decide) (by decide) ?_
      exact ⟨rfl, rfl⟩
    · exact absurd (nI_le (by omega) (by omega)) c_1
  | succ d ih =>
    intro i hi
    refine gV_iload_n (pc := 4) C dX1_countFree_4 0 rfl rfl ?_
    refine gV_aload_n (pc := 5) (x := ad 1) C dX1_countFree_5 2 rfl rfl ?_
    refine cg_content1 (pc := 6) C fl_X1_11 dX1_countFree_6 ?_
    refine cl_fc (pc := 9) C dX1_countFree_9 ?_
    refine gV_icmp_ge (pc := 10) C 31 dX1_countFree_10 (by decide) (fun c_1 => ?_) (fun c_1 => ?_)
    · exact absurd c_1 (nI_ge (by omega) (by omega))
    · skip
      refine gV_aload_n (pc := 13) (x := ad 1) C dX1_countFree_13 2 rfl rfl ?_
      refine cg_content1 (pc := 14) C fl_X1_11 dX1_countFree_14 ?_
      refine gV_iload_n (pc := 17) C dX1_countFree_17 0 rfl rfl ?_
      refine ca_fc (pc := 18) C (vp_in_nI (by omega) (by omega)) dX1_countFree_18 ?_
      rw [nI_clamp (by omega)]
      cases er_2 : ph_R σ 0 i with
      | none =>
        refine gV_ifnonnull (pc := 19) (r := none) C 25 dX1_countFree_19 (by decide) (fun _ h => nomatch h) (fun _ => ?_)
        refine gV_iinc (pc := 22) (v := nI (ph_cN (fun i => (ph_R σ 0 i).isNone) i + 1)) (lv' := [(1, .int (nI (ph_cN (fun i => (ph_R σ 0 i).isNone) i + 1))), (2, .int (nI i)), (0, .ref (ad 1))]) C dX1_countFree_22 1 rfl (nI_1 _) (by decide) rfl ?_
        refine gV_iinc (pc := 25) (v := nI (i + 1)) (lv' := [(2, .int (nI (i + 1))), (1, .int (nI (ph_cN (fun i => (ph_R σ 0 i).isNone) i + 1))), (0, .ref (ad 1))]) C dX1_countFree_25 1 rfl (nI_1 _) (by decide) rfl ?_
        refine gV_goto (pc := 28) C 4 dX1_countFree_28 (by decide) ?_
        refine gV_lv [0, 1, 2] rfl ?_
        have hh := ih (i + 1) (by omega)
        rw [ph_cN_t (f := fun i => (ph_R σ 0 i).isNone) (n := i) (by simp [er_2])] at hh
        exact hh
      | some a_2 =>
        refine gV_ifnonnull (pc := 19) (r := some a_2) C 25 dX1_countFree_19 (by decide) (fun _ _ => ?_) (fun h => nomatch h)
        refine gV_iinc (pc := 25) (v := nI (i + 1)) (lv' := [(2, .int (nI (i + 1))), (1, .int (nI (ph_cN (fun i => (ph_R σ 0 i).isNone) i))), (0, .ref (ad 1))]) C dX1_countFree_25 0 rfl (nI_1 _) (by decide) rfl ?_
        refine gV_goto (pc := 28) C 4 dX1_countFree_28 (by decide) ?_
        refine gV_lv [0, 1, 2] rfl ?_
        have hh := ih (i + 1) (by omega)
        rw [ph_cN_f (f := fun i => (ph_R σ 0 i).isNone) (n := i) (by simp [er_2])] at hh
        exact hh
set_option maxHeartbeats 4000000 in
set_option maxRecDepth 100000 in
/-- Rows.countFree -/
theorem c_countFree1 {D : va_G} {ad : Nat → Nat} {ct : Nat → ClassId} {F S : Nat} {σ : ph_S} (hN : F ≤ 64) : gM yX1_countFree cX1_countFree 3 (some .int) rm_X1_countFree D (gt ct) (cw ad ct F S σ) [.ref (ad 1)] (fun v w => v = some (.int (nI (ph_cf (ph_R σ 0) F))) ∧ w = cw ad ct F S σ) := by
  refine gM_in RX1 rfl (by decide) (Nat.le_of_ble_eq_true rfl) (fun X C => ?_)
  refine gV_iconst (pc := 0) (v := 0) C dX1_countFree_0 (by decide) ?_
  refine gV_istore_n (pc := 1) (lv' := [(1, .int 0), (0, .ref (ad 1))]) C dX1_countFree_1 rfl (by decide) rfl ?_
  refine gV_iconst (pc := 2) (v := 0) C dX1_countFree_2 (by decide) ?_
  refine gV_istore_n (pc := 3) (lv' := [(2, .int 0), (1, .int 0), (0, .ref (ad 1))]) C dX1_countFree_3 rfl (by decide) rfl ?_
  exact lp_countFree1 hN C F 0 (Nat.zero_add _)
set_option maxHeartbeats 4000000 in
set_option maxRecDepth 100000 in
theorem lp_leastFree2 {X : gx_T} {D : va_G} {ad : Nat → Nat} {ct : Nat → ClassId} {F S : Nat} {σ : ph_S} (hN : S ≤ 64) (C : gC X cX1_leastFree 2 RX1 rm_X1_leastFree (some .int) D (gt ct) (fun v w => v = some (.int (ph_lf (ph_R σ 1) S)) ∧ w = cw ad ct F S σ)) : ∀ d i : Nat, i + d = S → ph_lfG (ph_R σ 1) d i = ph_lf (ph_R σ 1) S → gV X 0 0 (cw ad ct F S σ) 2 [(1, .int (nI i)), (0, .ref (ad 2))] [] := by
  intro d
  induction d with
  | zero =>
    intro i hi hr
    refine gV_iload_n (pc := 2) C dX1_leastFree_2 0 rfl rfl ?_
    refine gV_aload_n (pc := 3) (x := ad 2) C dX1_leastFree_3 1 rfl rfl ?_
    refine cg_content2 (pc := 4) C fl_X1_11 dX1_leastFree_4 ?_
    refine cl_sc (pc := 7) C dX1_leastFree_7 ?_
    refine gV_icmp_ge (pc := 8) C 28 dX1_leastFree_8 (by decide) (fun c_1 => ?_) (fun c_1 => ?_)
    · skip
      refine gV_iconst (pc := 28) (v := (-1)) C dX1_leastFree_28 (by decide) ?_
      refine gV_iret (pc := 29) C dX1_leastFree_29 (by decide) (by decide) ?_
      exact ⟨by rw [← hr]; rfl, rfl⟩
    · exact absurd (nI_le (by omega) (by omega)) c_1
  | succ d ih =>
    intro i hi hr
    refine gV_iload_n (pc := 2) C dX1_leastFree_2 0 rfl rfl ?_
    refine gV_aload_n (pc := 3) (x := ad 2) C dX1_leastFree_3 1 rfl rfl ?_
    refine cg_content2 (pc := 4) C fl_X1_11 dX1_leastFree_4 ?_
    refine cl_sc (pc := 7) C dX1_leastFree_7 ?_
    refine gV_icmp_ge (pc := 8) C 28 dX1_leastFree_8 (by decide) (fun c_1 => ?_) (fun c_1 => ?_)
    · exact absurd c_1 (nI_ge (by omega) (by omega))
    · skip
      refine gV_aload_n (pc := 11) (x := ad 2) C dX1_leastFree_11 1 rfl rfl ?_
      refine cg_content2 (pc := 12) C fl_X1_11 dX1_leastFree_12 ?_
      refine gV_iload_n (pc := 15) C dX1_leastFree_15 0 rfl rfl ?_
      refine ca_sc (pc := 16) C (vp_in_nI (by omega) (by omega)) dX1_leastFree_16 ?_
      rw [nI_clamp (by omega)]
      cases er_2 : ph_R σ 1 i with
      | none =>
        refine gV_ifnonnull (pc := 17) (r := none) C 22 dX1_leastFree_17 (by decide) (fun _ h => nomatch h) (fun _ => ?_)
        refine gV_iload_n (pc := 20) C dX1_leastFree_20 0 rfl rfl ?_
        refine gV_iret (pc := 21) C dX1_leastFree_21 (by decide) (by decide) ?_
        exact ⟨by rw [← hr, ph_lfG, er_2], rfl⟩
      | some a_2 =>
        refine gV_ifnonnull (pc := 17) (r := some a_2) C 22 dX1_leastFree_17 (by decide) (fun _ _ => ?_) (fun h => nomatch h)
        refine gV_iinc (pc := 22) (v := nI (i + 1)) (lv' := [(1, .int (nI (i + 1))), (0, .ref (ad 2))]) C dX1_leastFree_22 0 rfl (nI_1 _) (by decide) rfl ?_
        refine gV_goto (pc := 25) C 2 dX1_leastFree_25 (by decide) ?_
        exact ih (i + 1) (by omega) (by rw [← hr, ph_lfG, er_2])
set_option maxHeartbeats 4000000 in
set_option maxRecDepth 100000 in
/-- Rows.leastFree -/
theorem c_leastFree2 {D : va_G} {ad : Nat → Nat} {ct : Nat → ClassId} {F S : Nat} {σ : ph_S} (hN : S ≤ 64) : gM yX1_leastFree cX1_leastFree 2 (some .int) rm_X1_leastFree D (gt ct) (cw ad ct F S σ) [.ref (ad 2)] (fun v w => v = some (.int (ph_lf (ph_R σ 1) S)) ∧ w = cw ad ct F S σ) := by
  refine gM_in RX1 rfl (by decide) (Nat.le_of_ble_eq_true rfl) (fun X C => ?_)
  refine gV_iconst (pc := 0) (v := 0) C dX1_leastFree_0 (by decide) ?_
  refine gV_istore_n (pc := 1) (lv' := [(1, .int 0), (0, .ref (ad 2))]) C dX1_leastFree_1 rfl (by decide) rfl ?_
  exact lp_leastFree2 hN C S 0 (Nat.zero_add _) rfl
set_option maxHeartbeats 4000000 in
set_option maxRecDepth 100000 in
theorem lp_countFree2 {X : gx_T} {D : va_G} {ad : Nat → Nat} {ct : Nat → ClassId} {F S : Nat} {σ : ph_S} (hN : S ≤ 64) (C : gC X cX1_countFree 3 RX1 rm_X1_countFree (some .int) D (gt ct) (fun v w => v = some (.int (nI (ph_cf (ph_R σ 1) S))) ∧ w = cw ad ct F S σ)) : ∀ d i : Nat, i + d = S → gV X 0 0 (cw ad ct F S σ) 4 [(2, .int (nI i)), (1, .int (nI (ph_cN (fun i => (ph_R σ 1 i).isNone) i))), (0, .ref (ad 2))] [] := by
  intro d
  induction d with
  | zero =>
    intro i hi
    have e : i = S := by omega
    rw [e]
    refine gV_iload_n (pc := 4) C dX1_countFree_4 0 rfl rfl ?_
    refine gV_aload_n (pc := 5) (x := ad 2) C dX1_countFree_5 2 rfl rfl ?_
    refine cg_content2 (pc := 6) C fl_X1_11 dX1_countFree_6 ?_
    refine cl_sc (pc := 9) C dX1_countFree_9 ?_
    refine gV_icmp_ge (pc := 10) C 31 dX1_countFree_10 (by decide) (fun c_1 => ?_) (fun c_1 => ?_)
    · skip
      refine gV_iload_n (pc := 31) C dX1_countFree_31 1 rfl rfl ?_
      refine gV_iret (pc := 32) C dX1_countFree_32 (by decide) (by decide) ?_
      exact ⟨rfl, rfl⟩
    · exact absurd (nI_le (by omega) (by omega)) c_1
  | succ d ih =>
    intro i hi
    refine gV_iload_n (pc := 4) C dX1_countFree_4 0 rfl rfl ?_
    refine gV_aload_n (pc := 5) (x := ad 2) C dX1_countFree_5 2 rfl rfl ?_
    refine cg_content2 (pc := 6) C fl_X1_11 dX1_countFree_6 ?_
    refine cl_sc (pc := 9) C dX1_countFree_9 ?_
    refine gV_icmp_ge (pc := 10) C 31 dX1_countFree_10 (by decide) (fun c_1 => ?_) (fun c_1 => ?_)
    · exact absurd c_1 (nI_ge (by omega) (by omega))
    · skip
      refine gV_aload_n (pc := 13) (x := ad 2) C dX1_countFree_13 2 rfl rfl ?_
      refine cg_content2 (pc := 14) C fl_X1_11 dX1_countFree_14 ?_
      refine gV_iload_n (pc := 17) C dX1_countFree_17 0 rfl rfl ?_
      refine ca_sc (pc := 18) C (vp_in_nI (by omega) (by omega)) dX1_countFree_18 ?_
      rw [nI_clamp (by omega)]
      cases er_2 : ph_R σ 1 i with
      | none =>
        refine gV_ifnonnull (pc := 19) (r := none) C 25 dX1_countFree_19 (by decide) (fun _ h => nomatch h) (fun _ => ?_)
        refine gV_iinc (pc := 22) (v := nI (ph_cN (fun i => (ph_R σ 1 i).isNone) i + 1)) (lv' := [(1, .int (nI (ph_cN (fun i => (ph_R σ 1 i).isNone) i + 1))), (2, .int (nI i)), (0, .ref (ad 2))]) C dX1_countFree_22 1 rfl (nI_1 _) (by decide) rfl ?_
        refine gV_iinc (pc := 25) (v := nI (i + 1)) (lv' := [(2, .int (nI (i + 1))), (1, .int (nI (ph_cN (fun i => (ph_R σ 1 i).isNone) i + 1))), (0, .ref (ad 2))]) C dX1_countFree_25 1 rfl (nI_1 _) (by decide) rfl ?_
        refine gV_goto (pc := 28) C 4 dX1_countFree_28 (by decide) ?_
        refine gV_lv [0, 1, 2] rfl ?_
        have hh := ih (i + 1) (by omega)
        rw [ph_cN_t (f := fun i => (ph_R σ 1 i).isNone) (n := i) (by simp [er_2])] at hh
        exact hh
      | some a_2 =>
        refine gV_ifnonnull (pc := 19) (r := some a_2) C 25 dX1_countFree_19 (by decide) (fun _ _ => ?_) (fun h => nomatch h)
        refine gV_iinc (pc := 25) (v := nI (i + 1)) (lv' := [(2, .int (nI (i + 1))), (1, .int (nI (ph_cN (fun i => (ph_R σ 1 i).isNone) i))), (0, .ref (ad 2))]) C dX1_countFree_25 0 rfl (nI_1 _) (by decide) rfl ?_
        refine gV_goto (pc := 28) C 4 dX1_countFree_28 (by decide) ?_
        refine gV_lv [0, 1, 2] rfl ?_
        have hh := ih (i + 1) (by omega)
        rw [ph_cN_f (f := fun i => (ph_R σ 1 i).isNone) (n := i) (by simp [er_2])] at hh
        exact hh
set_option maxHeartbeats 4000000 in
set_option maxRecDepth 100000 in
/-- Rows.countFree -/
theorem c_countFree2 {D : va_G} {ad : Nat → Nat} {ct : Nat → ClassId} {F S : Nat} {σ : ph_S} (hN : S ≤ 64) : gM yX1_countFree cX1_countFree 3 (some .int) rm_X1_countFree D (gt ct) (cw ad ct F S σ) [.ref (ad 2)] (fun v w => v = some (.int (nI (ph_cf (ph_R σ 1) S))) ∧ w = cw ad ct F S σ) := by
  refine gM_in RX1 rfl (by decide) (Nat.le_of_ble_eq_true rfl) (fun X C => ?_)
  refine gV_iconst (pc := 0) (v := 0) C dX1_countFree_0 (by decide) ?_
  refine gV_istore_n (pc := 1) (lv' := [(1, .int 0), (0, .ref (ad 2))]) C dX1_countFree_1 rfl (by decide) rfl ?_
  refine gV_iconst (pc := 2) (v := 0) C dX1_countFree_2 (by decide) ?_
  refine gV_istore_n (pc := 3) (lv' := [(2, .int 0), (1, .int 0), (0, .ref (ad 2))]) C dX1_countFree_3 rfl (by decide) rfl ?_
  exact lp_countFree2 hN C S 0 (Nat.zero_add _)
end
section
def ph_cp (σ : ph_S) : Int32 := nI (ph_cN (fun p => decide (¬ ph_hp σ (nI p) = 0)) 8)
def ph_cbB (σ : ph_S) (s : Nat) : Bool := match ph_R σ 1 s with
  | none => false
  | some a => decide (ph_B σ 1 a = -1)
def ph_cb (F S : Nat) (σ : ph_S) : Int32 := nI (F - ph_cf (ph_R σ 0) F + ph_cN (ph_cbB σ) S)
def ph_cdB (σ : ph_S) (f : Nat) : Bool := match ph_R σ 0 f with
  | none => false
  | some a => decide (¬ ph_B σ 4 a = 0)
def ph_cd (F : Nat) (σ : ph_S) : Int32 := nI (ph_cN (ph_cdB σ) F)
def ph_csB (σ : ph_S) (f : Nat) : Bool := match ph_R σ 0 f with
  | none => false
  | some a => decide (ph_B σ 2 a = -1)
def ph_cs (F : Nat) (σ : ph_S) : Int32 := nI (ph_cN (ph_csB σ) F)
def ph_lhG (σ : ph_S) (a : Nat) : Nat → Nat → Int32
  | 0, _ => -1
  | d + 1, i => if ph_R σ 2 ((nI i * 32 + ph_B σ 0 a).toNatClampNeg) = some a then nI i else ph_lhG σ a d (i + 1)
def ph_lh (σ : ph_S) (a : Nat) : Int32 := ph_lhG σ a 8 0
theorem slot_eq (p g : Nat) : nI p * 32 + nI g = nI (p * 32 + g) := by
  rw [show (32 : Int32) = nI 32 from rfl, pk_mul, nI_add]
theorem slot_in {p g : Nat} (hp : p < 8) (hg : g < 32) : vp_in (nI p * 32 + nI g) 256 := by
  rw [slot_eq]
  exact vp_in_nI (by omega) (by decide)
abbrev rm_X2_leastFreeProcess : Room := { frames := 0, cells := 0, slots := 0, locals := 0 }
set_option maxHeartbeats 4000000 in
set_option maxRecDepth 100000 in
theorem lp_leastFreeProcess {X : gx_T} {D : va_G} {ad : Nat → Nat} {ct : Nat → ClassId} {F S : Nat} {σ : ph_S} (C : gC X cX2_leastFreeProcess 2 RX2 rm_X2_leastFreeProcess (some .int) D (gt ct) (fun v w => v = some (.int (ph_lp σ)) ∧ w = cw ad ct F S σ)) : ∀ d i : Nat, i + d = 8 → ph_lpG σ d i = ph_lp σ → gV X 0 0 (cw ad ct F S σ) 2 [(1, .int (nI i)), (0, .ref (ad 0))] [] := by
  intro d
  induction d with
  | zero =>
    intro i hi hr
    refine gV_iload_n (pc := 2) C dX2_leastFreeProcess_2 0 rfl rfl ?_
    refine gV_bipush (pc := 3) (v := 8) C dX2_leastFreeProcess_3 (by decide) ?_
    refine gV_icmp_ge (pc := 5) C 25 dX2_leastFreeProcess_5 (by decide) (fun c_1 => ?_) (fun c_1 => ?_)
    · skip
      refine gV_iconst (pc := 25) (v := (-1)) C dX2_leastFreeProcess_25 (by decide) ?_
      refine gV_iret (pc := 26) C dX2_leastFreeProcess_26 (by decide) (by decide) ?_
      exact ⟨by rw [← hr]; rfl, rfl⟩
    · exact absurd (nI_le (a := 8) (b := i) (by omega) (by omega)) c_1
  | succ d ih =>
    intro i hi hr
    refine gV_iload_n (pc := 2) C dX2_leastFreeProcess_2 0 rfl rfl ?_
    refine gV_bipush (pc := 3) (v := 8) C dX2_leastFreeProcess_3 (by decide) ?_
    refine gV_icmp_ge (pc := 5) C 25 dX2_leastFreeProcess_5 (by decide) (fun c_1 => ?_) (fun c_1 => ?_)
    · exact absurd c_1 (nI_ge (a := i) (b := 8) (by omega) (by omega))
    · skip
      refine gV_aload_n (pc := 8) (x := ad 0) C dX2_leastFreeProcess_8 1 rfl rfl ?_
      refine cg_pageCounts (pc := 9) C fl_X2_34 dX2_leastFreeProcess_9 ?_
      refine gV_iload_n (pc := 12) C dX2_leastFreeProcess_12 0 rfl rfl ?_
      refine ca_pn (pc := 13) C (vp_in_nI (by omega) (by omega)) dX2_leastFreeProcess_13 ?_
      rw [nI_clamp (by omega)]
      refine gV_if_ne (pc := 14) C 19 dX2_leastFreeProcess_14 (by decide) (fun c_2 => ?_) (fun c_2 => ?_)
      · skip
        refine gV_iinc (pc := 19) (v := nI (i + 1)) (lv' := [(1, .int (nI (i + 1))), (0, .ref (ad 0))]) C dX2_leastFreeProcess_19 0 rfl (nI_1 _) (by decide) rfl ?_
        refine gV_goto (pc := 22) C 2 dX2_leastFreeProcess_22 (by decide) ?_
        exact ih (i + 1) (by omega) (by rw [← hr, ph_lpG, if_neg c_2])
      · skip
        refine gV_iload_n (pc := 17) C dX2_leastFreeProcess_17 0 rfl rfl ?_
        refine gV_iret (pc := 18) C dX2_leastFreeProcess_18 (by decide) (by decide) ?_
        exact ⟨by rw [← hr, ph_lpG, if_pos c_2], rfl⟩
set_option maxHeartbeats 4000000 in
set_option maxRecDepth 100000 in
/-- leastFreeProcess -/
theorem c_leastFreeProcess {D : va_G} {ad : Nat → Nat} {ct : Nat → ClassId} {F S : Nat} {σ : ph_S}  : gM yX2_leastFreeProcess cX2_leastFreeProcess 2 (some .int) rm_X2_leastFreeProcess D (gt ct) (cw ad ct F S σ) [.ref (ad 0)] (fun v w => v = some (.int (ph_lp σ)) ∧ w = cw ad ct F S σ) := by
  refine gM_in RX2 rfl (by decide) (Nat.le_of_ble_eq_true rfl) (fun X C => ?_)
  refine gV_iconst (pc := 0) (v := 0) C dX2_leastFreeProcess_0 (by decide) ?_
  refine gV_istore_n (pc := 1) (lv' := [(1, .int 0), (0, .ref (ad 0))]) C dX2_leastFreeProcess_1 rfl (by decide) rfl ?_
  exact lp_leastFreeProcess C 8 0 rfl rfl
abbrev rm_X2_hasProcess : Room := { frames := 0, cells := 0, slots := 0, locals := 0 }
set_option maxHeartbeats 4000000 in
set_option maxRecDepth 100000 in
/-- hasProcess -/
theorem c_hasProcess {D : va_G} {ad : Nat → Nat} {ct : Nat → ClassId} {F S : Nat} {σ : ph_S} (p : Int32) : gM yX2_hasProcess cX2_hasProcess 2 (some .boolean) rm_X2_hasProcess D (gt ct) (cw ad ct F S σ) [.ref (ad 0), .int p] (fun v w => v = some (.int (ph_hp σ p)) ∧ w = cw ad ct F S σ) := by
  refine gM_in RX2 rfl (by decide) (Nat.le_of_ble_eq_true rfl) (fun X C => ?_)
  refine gV_iload_n (pc := 0) C dX2_hasProcess_0 1 rfl rfl ?_
  refine gV_if_lt (pc := 1) C 23 dX2_hasProcess_1 (by decide) (fun c_1 => ?_) (fun c_1 => ?_)
  · skip
    refine gV_iconst (pc := 23) (v := 0) C dX2_hasProcess_23 (by decide) ?_
    refine gV_zret (pc := 24) C dX2_hasProcess_24 (by decide) (by decide) (by decide) ?_
    exact ⟨by rw [ph_hp, if_pos c_1], rfl⟩
  · skip
    refine gV_iload_n (pc := 4) C dX2_hasProcess_4 1 rfl rfl ?_
    refine gV_bipush (pc := 5) (v := 8) C dX2_hasProcess_5 (by decide) ?_
    refine gV_icmp_ge (pc := 7) C 23 dX2_hasProcess_7 (by decide) (fun c_2 => ?_) (fun c_2 => ?_)
    · skip
      refine gV_iconst (pc := 23) (v := 0) C dX2_hasProcess_23 (by decide) ?_
      refine gV_zret (pc := 24) C dX2_hasProcess_24 (by decide) (by decide) (by decide) ?_
      exact ⟨by rw [ph_hp, if_neg c_1, if_pos c_2], rfl⟩
    · skip
      refine gV_aload_n (pc := 10) (x := ad 0) C dX2_hasProcess_10 0 rfl rfl ?_
      refine cg_pageCounts (pc := 11) C fl_X2_34 dX2_hasProcess_11 ?_
      refine gV_iload_n (pc := 14) C dX2_hasProcess_14 1 rfl rfl ?_
      refine ca_pn (pc := 15) C (ix_cmp (N := 8) (by decide) c_1 c_2) dX2_hasProcess_15 ?_
      refine gV_if_le (pc := 16) C 23 dX2_hasProcess_16 (by decide) (fun c_3 => ?_) (fun c_3 => ?_)
      · skip
        refine gV_iconst (pc := 23) (v := 0) C dX2_hasProcess_23 (by decide) ?_
        refine gV_zret (pc := 24) C dX2_hasProcess_24 (by decide) (by decide) (by decide) ?_
        exact ⟨by rw [ph_hp, if_neg c_1, if_neg c_2, if_pos c_3], rfl⟩
      · skip
        refine gV_iconst (pc := 19) (v := 1) C dX2_hasProcess_19 (by decide) ?_
        refine gV_goto (pc := 20) C 24 dX2_hasProcess_20 (by decide) ?_
        refine gV_zret (pc := 24) C dX2_hasProcess_24 (by decide) (by decide) (by decide) ?_
        exact ⟨by rw [ph_hp, if_neg c_1, if_neg c_2, if_neg c_3], rfl⟩
abbrev rm_X2_hasPage : Room := { frames := 1, cells := 0, slots := 0, locals := 21 }
set_option maxHeartbeats 4000000 in
set_option maxRecDepth 100000 in
/-- hasPage -/
theorem c_hasPage {D : va_G} {ad : Nat → Nat} {ct : Nat → ClassId} {F S : Nat} {σ : ph_S} (p g : Int32) : gM yX2_hasPage cX2_hasPage 3 (some .boolean) rm_X2_hasPage D (gt ct) (cw ad ct F S σ) [.ref (ad 0), .int p, .int g] (fun v w => v = some (.int (ph_hg σ p g)) ∧ w = cw ad ct F S σ) := by
  refine gM_in RX2 rfl (by decide) (Nat.le_of_ble_eq_true rfl) (fun X C => ?_)
  refine gV_aload_n (pc := 0) (x := ad 0) C dX2_hasPage_0 0 rfl rfl ?_
  refine gV_iload_n (pc := 1) C dX2_hasPage_1 1 rfl rfl ?_
  refine gV_callV (pc := 2) (As := [.int p]) (rest := []) C ml_X2_48 gy_X2_hasProcess gv_X2_hasProcess (c_hasProcess _) ⟨0, 2, _, _, rfl, rfl, rfl⟩ rfl rfl ⟨by decide, by decide⟩ (Nat.le_of_ble_eq_true rfl) (by decide) (by decide) dX2_hasPage_2 ?_
  rintro _ _ ⟨rfl, rfl⟩
  refine gV_if_eq (pc := 5) C 26 dX2_hasPage_5 (by decide) (fun c_1 => ?_) (fun c_1 => ?_)
  · skip
    refine gV_iconst (pc := 26) (v := 0) C dX2_hasPage_26 (by decide) ?_
    refine gV_zret (pc := 27) C dX2_hasPage_27 (by decide) (by decide) (by decide) ?_
    exact ⟨by rw [ph_hg, if_pos c_1], rfl⟩
  · skip
    refine gV_iload_n (pc := 8) C dX2_hasPage_8 2 rfl rfl ?_
    refine gV_if_lt (pc := 9) C 26 dX2_hasPage_9 (by decide) (fun c_2 => ?_) (fun c_2 => ?_)
    · skip
      refine gV_iconst (pc := 26) (v := 0) C dX2_hasPage_26 (by decide) ?_
      refine gV_zret (pc := 27) C dX2_hasPage_27 (by decide) (by decide) (by decide) ?_
      exact ⟨by rw [ph_hg, if_neg c_1, if_pos c_2], rfl⟩
    · skip
      refine gV_iload_n (pc := 12) C dX2_hasPage_12 2 rfl rfl ?_
      refine gV_aload_n (pc := 13) (x := ad 0) C dX2_hasPage_13 0 rfl rfl ?_
      refine cg_pageCounts (pc := 14) C fl_X2_34 dX2_hasPage_14 ?_
      refine gV_iload_n (pc := 17) C dX2_hasPage_17 1 rfl rfl ?_
      refine ca_pn (pc := 18) C (ph_hp_vin c_1) dX2_hasPage_18 ?_
      refine gV_icmp_ge (pc := 19) C 26 dX2_hasPage_19 (by decide) (fun c_3 => ?_) (fun c_3 => ?_)
      · skip
        refine gV_iconst (pc := 26) (v := 0) C dX2_hasPage_26 (by decide) ?_
        refine gV_zret (pc := 27) C dX2_hasPage_27 (by decide) (by decide) (by decide) ?_
        exact ⟨by rw [ph_hg, if_neg c_1, if_neg c_2, if_pos c_3], rfl⟩
      · skip
        refine gV_iconst (pc := 22) (v := 1) C dX2_hasPage_22 (by decide) ?_
        refine gV_goto (pc := 23) C 27 dX2_hasPage_23 (by decide) ?_
        refine gV_zret (pc := 27) C dX2_hasPage_27 (by decide) (by decide) (by decide) ?_
        exact ⟨by rw [ph_hg, if_neg c_1, if_neg c_2, if_neg c_3], rfl⟩
abbrev rm_X2_slot : Room := { frames := 0, cells := 0, slots := 0, locals := 0 }
set_option maxHeartbeats 4000000 in
set_option maxRecDepth 100000 in
/-- slot -/
theorem c_slot {D : va_G} {ad : Nat → Nat} {ct : Nat → ClassId} {F S : Nat} {σ : ph_S} (p g : Int32) : gM yX2_slot cX2_slot 2 (some .int) rm_X2_slot D (gt ct) (cw ad ct F S σ) [.int p, .int g] (fun v w => v = some (.int (p * 32 + g)) ∧ w = cw ad ct F S σ) := by
  refine gM_in RX2 rfl (by decide) (Nat.le_of_ble_eq_true rfl) (fun X C => ?_)
  refine gV_iload_n (pc := 0) C dX2_slot_0 0 rfl rfl ?_
  refine gV_bipush (pc := 1) (v := 32) C dX2_slot_1 (by decide) ?_
  refine gV_imul (pc := 3) C dX2_slot_3 ?_
  refine gV_iload_n (pc := 4) C dX2_slot_4 1 rfl rfl ?_
  refine gV_iadd (pc := 5) C dX2_slot_5 ?_
  refine gV_iret (pc := 6) C dX2_slot_6 (by decide) (by decide) ?_
  exact ⟨rfl, rfl⟩
abbrev rm_X2_takesToRead : Room := { frames := 0, cells := 0, slots := 0, locals := 0 }
set_option maxHeartbeats 4000000 in
set_option maxRecDepth 100000 in
theorem c_takesToRead {D : va_G} {ad : Nat → Nat} {ct : Nat → ClassId} {F S : Nat} {σ : ph_S} (r : Option Nat) (hok : ph_ok F S σ) (hr : ∀ a, r = some a → a ∈ ph_L σ) : gM yX2_takesToRead cX2_takesToRead 1 (some .int) rm_X2_takesToRead D (gt ct) (cw ad ct F S σ) [va_rf r] (fun v w => v = some (.int (ph_tr σ r)) ∧ w = cw ad ct F S σ) := by
  cases r with
  | none =>
    refine gM_in RX2 rfl (by decide) (Nat.le_of_ble_eq_true rfl) (fun X C => ?_)
    refine gV_aloadq_n (pc := 0) (r := none) C dX2_takesToRead_0 0 rfl rfl ?_
    refine gV_ifnull (pc := 1) (r := none) C 16 dX2_takesToRead_1 (by decide) (fun _ => ?_) (fun _ h => nomatch h)
    refine gV_iconst (pc := 16) (v := 0) C dX2_takesToRead_16 (by decide) ?_
    refine gV_iret (pc := 17) C dX2_takesToRead_17 (by decide) (by decide) ?_
    exact ⟨rfl, rfl⟩
  | some a =>
    have m_a := hr a rfl
    refine gM_in RX2 rfl (by decide) (Nat.le_of_ble_eq_true rfl) (fun X C => ?_)
    refine gV_aload_n (pc := 0) (x := a) C dX2_takesToRead_0 0 rfl rfl ?_
    refine gV_ifnull (pc := 1) (r := some a) C 16 dX2_takesToRead_1 (by decide) (fun h => nomatch h) (fun _ _ => ?_)
    refine gV_aload_n (pc := 4) (x := a) C dX2_takesToRead_4 0 rfl rfl ?_
    refine cg_b_frame (pc := 5) (σ := σ) C m_a fl_X2_76 dX2_takesToRead_5 ?_
    refine gV_iconst (pc := 8) (v := (-1)) C dX2_takesToRead_8 (by decide) ?_
    refine gV_icmp_ne (pc := 9) C 16 dX2_takesToRead_9 (by decide) (fun c_1 => ?_) (fun c_1 => ?_)
    · skip
      refine gV_iconst (pc := 16) (v := 0) C dX2_takesToRead_16 (by decide) ?_
      refine gV_iret (pc := 17) C dX2_takesToRead_17 (by decide) (by decide) ?_
      exact ⟨by simp only [ph_tr]; rw [if_neg c_1], rfl⟩
    · skip
      refine gV_iconst (pc := 12) (v := 1) C dX2_takesToRead_12 (by decide) ?_
      refine gV_goto (pc := 13) C 17 dX2_takesToRead_13 (by decide) ?_
      refine gV_iret (pc := 17) C dX2_takesToRead_17 (by decide) (by decide) ?_
      exact ⟨by simp only [ph_tr]; rw [if_pos c_1], rfl⟩
abbrev rm_X2_takesToWrite : Room := { frames := 1, cells := 0, slots := 0, locals := 20 }
set_option maxHeartbeats 4000000 in
set_option maxRecDepth 100000 in
theorem c_takesToWrite {D : va_G} {ad : Nat → Nat} {ct : Nat → ClassId} {F S : Nat} {σ : ph_S} (r : Option Nat) (hok : ph_ok F S σ) (hr : ∀ a, r = some a → a ∈ ph_L σ) : gM yX2_takesToWrite cX2_takesToWrite 1 (some .int) rm_X2_takesToWrite D (gt ct) (cw ad ct F S σ) [va_rf r] (fun v w => v = some (.int (ph_tw σ r)) ∧ w = cw ad ct F S σ) := by
  cases r with
  | none =>
    refine gM_in RX2 rfl (by decide) (Nat.le_of_ble_eq_true rfl) (fun X C => ?_)
    refine gV_aloadq_n (pc := 0) (r := none) C dX2_takesToWrite_0 0 rfl rfl ?_
    refine gV_ifnonnull (pc := 1) (r := none) C 6 dX2_takesToWrite_1 (by decide) (fun _ h => nomatch h) (fun _ => ?_)
    refine gV_iconst (pc := 4) (v := 1) C dX2_takesToWrite_4 (by decide) ?_
    refine gV_iret (pc := 5) C dX2_takesToWrite_5 (by decide) (by decide) ?_
    exact ⟨rfl, rfl⟩
  | some a =>
    have m_a := hr a rfl
    refine gM_in RX2 rfl (by decide) (Nat.le_of_ble_eq_true rfl) (fun X C => ?_)
    refine gV_aload_n (pc := 0) (x := a) C dX2_takesToWrite_0 0 rfl rfl ?_
    refine gV_ifnonnull (pc := 1) (r := some a) C 6 dX2_takesToWrite_1 (by decide) (fun _ _ => ?_) (fun h => nomatch h)
    refine gV_aload_n (pc := 6) (x := a) C dX2_takesToWrite_6 0 rfl rfl ?_
    refine gV_callS (pc := 7) (As := [.ref a]) (rest := []) C ml_X2_66 gy_X2_takesToRead gs_X2_takesToRead (c_takesToRead (some a) hok hr)  rfl rfl ⟨by decide, by decide⟩ (Nat.le_of_ble_eq_true rfl) (by decide) (by decide) dX2_takesToWrite_7 ?_
    rintro _ _ ⟨rfl, rfl⟩
    refine gV_aload_n (pc := 10) (x := a) C dX2_takesToWrite_10 0 rfl rfl ?_
    refine cg_b_holders (pc := 11) (σ := σ) C m_a fl_X2_55 dX2_takesToWrite_11 ?_
    refine gV_iconst (pc := 14) (v := 1) C dX2_takesToWrite_14 (by decide) ?_
    refine gV_icmp_le (pc := 15) C 22 dX2_takesToWrite_15 (by decide) (fun c_1 => ?_) (fun c_1 => ?_)
    · skip
      refine gV_iconst (pc := 22) (v := 0) C dX2_takesToWrite_22 (by decide) ?_
      refine gV_iadd (pc := 23) C dX2_takesToWrite_23 ?_
      refine gV_iret (pc := 24) C dX2_takesToWrite_24 (by decide) (by decide) ?_
      exact ⟨by simp only [ph_tw]; rw [if_pos c_1], rfl⟩
    · skip
      refine gV_iconst (pc := 18) (v := 1) C dX2_takesToWrite_18 (by decide) ?_
      refine gV_goto (pc := 19) C 23 dX2_takesToWrite_19 (by decide) ?_
      refine gV_iadd (pc := 23) C dX2_takesToWrite_23 ?_
      refine gV_iret (pc := 24) C dX2_takesToWrite_24 (by decide) (by decide) ?_
      exact ⟨by simp only [ph_tw]; rw [if_neg c_1], rfl⟩
abbrev rm_X2_behind : Room := { frames := 0, cells := 0, slots := 0, locals := 0 }
set_option maxHeartbeats 4000000 in
set_option maxRecDepth 100000 in
/-- behind -/
theorem c_behind {D : va_G} {ad : Nat → Nat} {ct : Nat → ClassId} {F S : Nat} {σ : ph_S} (f : Int32) : gM yX2_behind cX2_behind 2 (some .int) rm_X2_behind D (gt ct) (cw ad ct F S σ) [.ref (ad 0), .int f] (fun v w => v = some (.int (ph_bh F f)) ∧ w = cw ad ct F S σ) := by
  refine gM_in RX2 rfl (by decide) (Nat.le_of_ble_eq_true rfl) (fun X C => ?_)
  refine gV_iload_n (pc := 0) C dX2_behind_0 1 rfl rfl ?_
  refine gV_iconst (pc := 1) (v := 1) C dX2_behind_1 (by decide) ?_
  refine gV_iadd (pc := 2) C dX2_behind_2 ?_
  refine gV_aload_n (pc := 3) (x := ad 0) C dX2_behind_3 0 rfl rfl ?_
  refine cg_used (pc := 4) C fl_X2_30 dX2_behind_4 ?_
  refine cl_us (pc := 7) C dX2_behind_7 ?_
  refine gV_icmp_ge (pc := 8) C 17 dX2_behind_8 (by decide) (fun c_1 => ?_) (fun c_1 => ?_)
  · skip
    refine gV_iconst (pc := 17) (v := 0) C dX2_behind_17 (by decide) ?_
    refine gV_iret (pc := 18) C dX2_behind_18 (by decide) (by decide) ?_
    exact ⟨by rw [ph_bh, if_pos c_1], rfl⟩
  · skip
    refine gV_iload_n (pc := 11) C dX2_behind_11 1 rfl rfl ?_
    refine gV_iconst (pc := 12) (v := 1) C dX2_behind_12 (by decide) ?_
    refine gV_iadd (pc := 13) C dX2_behind_13 ?_
    refine gV_goto (pc := 14) C 18 dX2_behind_14 (by decide) ?_
    refine gV_iret (pc := 18) C dX2_behind_18 (by decide) (by decide) ?_
    exact ⟨by rw [ph_bh, if_neg c_1], rfl⟩
end
section
abbrev rm_X2_countProcesses : Room := { frames := 1, cells := 0, slots := 0, locals := 21 }
set_option maxHeartbeats 4000000 in
set_option maxRecDepth 100000 in
theorem lp_countProcesses {X : gx_T} {D : va_G} {ad : Nat → Nat} {ct : Nat → ClassId} {F S : Nat} {σ : ph_S}  (C : gC X cX2_countProcesses 3 RX2 rm_X2_countProcesses (some .int) D (gt ct) (fun v w => v = some (.int (ph_cp σ)) ∧ w = cw ad ct F S σ)) : ∀ d i : Nat, i + d = 8 → gV X 0 0 (cw ad ct F S σ) 4 [(2, .int (nI i)), (1, .int (nI (ph_cN (fun p => decide (¬ ph_hp σ (nI p) = 0)) i))), (0, .ref (ad 0))] [] := by
  intro d
  induction d with
  | zero =>
    intro i hi
    have e : i = 8 := by omega
    rw [e]
    refine gV_iload_n (pc := 4) C dX2_countProcesses_4 0 rfl rfl ?_
    refine gV_bipush (pc := 5) (v := 8) C dX2_countProcesses_5 (by decide) ?_
    refine gV_icmp_ge (pc := 7) C 27 dX2_countProcesses_7 (by decide) (fun c_1 => ?_) (fun c_1 => ?_)
    · skip
      refine gV_iload_n (pc := 27) C dX2_countProcesses_27 1 rfl rfl ?_
      refine gV_iret (pc := 28) C dX2_countProcesses_28 (by decide) (by decide) ?_
      exact ⟨rfl, rfl⟩
    · exact absurd (nI_le (a := 8) (b := 8) (by omega) (by omega)) c_1
  | succ d ih =>
    intro i hi
    refine gV_iload_n (pc := 4) C dX2_countProcesses_4 0 rfl rfl ?_
    refine gV_bipush (pc := 5) (v := 8) C dX2_countProcesses_5 (by decide) ?_
    refine gV_icmp_ge (pc := 7) C 27 dX2_countProcesses_7 (by decide) (fun c_1 => ?_) (fun c_1 => ?_)
    · exact absurd c_1 (nI_ge (a := i) (b := 8) (by omega) (by omega))
    · skip
      refine gV_aload_n (pc := 10) (x := ad 0) C dX2_countProcesses_10 2 rfl rfl ?_
      refine gV_iload_n (pc := 11) C dX2_countProcesses_11 0 rfl rfl ?_
      refine gV_callV (pc := 12) (As := [.int (nI i)]) (rest := []) C ml_X2_48 gy_X2_hasProcess gv_X2_hasProcess (c_hasProcess _) ⟨0, 2, _, _, rfl, rfl, rfl⟩ rfl rfl ⟨by decide, by decide⟩ (Nat.le_of_ble_eq_true rfl) (by decide) (by decide) dX2_countProcesses_12 ?_
      rintro _ _ ⟨rfl, rfl⟩
      refine gV_if_eq (pc := 15) C 21 dX2_countProcesses_15 (by decide) (fun c_2 => ?_) (fun c_2 => ?_)
      · skip
        refine gV_iinc (pc := 21) (v := nI (i + 1)) (lv' := [(2, .int (nI (i + 1))), (1, .int (nI (ph_cN (fun p => decide (¬ ph_hp σ (nI p) = 0)) i))), (0, .ref (ad 0))]) C dX2_countProcesses_21 0 rfl (nI_1 _) (by decide) rfl ?_
        refine gV_goto (pc := 24) C 4 dX2_countProcesses_24 (by decide) ?_
        refine gV_lv [0, 1, 2] rfl ?_
        have hh := ih (i + 1) (by omega)
        rw [ph_cN_f (f := (fun p => decide (¬ ph_hp σ (nI p) = 0))) (n := i) (by simp [c_2])] at hh
        exact hh
      · skip
        refine gV_iinc (pc := 18) (v := nI (ph_cN (fun p => decide (¬ ph_hp σ (nI p) = 0)) i + 1)) (lv' := [(1, .int (nI (ph_cN (fun p => decide (¬ ph_hp σ (nI p) = 0)) i + 1))), (2, .int (nI i)), (0, .ref (ad 0))]) C dX2_countProcesses_18 1 rfl (nI_1 _) (by decide) rfl ?_
        refine gV_iinc (pc := 21) (v := nI (i + 1)) (lv' := [(2, .int (nI (i + 1))), (1, .int (nI (ph_cN (fun p => decide (¬ ph_hp σ (nI p) = 0)) i + 1))), (0, .ref (ad 0))]) C dX2_countProcesses_21 1 rfl (nI_1 _) (by decide) rfl ?_
        refine gV_goto (pc := 24) C 4 dX2_countProcesses_24 (by decide) ?_
        refine gV_lv [0, 1, 2] rfl ?_
        have hh := ih (i + 1) (by omega)
        rw [ph_cN_t (f := (fun p => decide (¬ ph_hp σ (nI p) = 0))) (n := i) (by simp [c_2])] at hh
        exact hh
set_option maxHeartbeats 4000000 in
set_option maxRecDepth 100000 in
/-- countProcesses -/
theorem c_countProcesses {D : va_G} {ad : Nat → Nat} {ct : Nat → ClassId} {F S : Nat} {σ : ph_S}  : gM yX2_countProcesses cX2_countProcesses 3 (some .int) rm_X2_countProcesses D (gt ct) (cw ad ct F S σ) [.ref (ad 0)] (fun v w => v = some (.int (ph_cp σ)) ∧ w = cw ad ct F S σ) := by
  refine gM_in RX2 rfl (by decide) (Nat.le_of_ble_eq_true rfl) (fun X C => ?_)
  refine gV_iconst (pc := 0) (v := 0) C dX2_countProcesses_0 (by decide) ?_
  refine gV_istore_n (pc := 1) (lv' := [(1, .int 0), (0, .ref (ad 0))]) C dX2_countProcesses_1 rfl (by decide) rfl ?_
  refine gV_iconst (pc := 2) (v := 0) C dX2_countProcesses_2 (by decide) ?_
  refine gV_istore_n (pc := 3) (lv' := [(2, .int 0), (1, .int 0), (0, .ref (ad 0))]) C dX2_countProcesses_3 rfl (by decide) rfl ?_
  exact lp_countProcesses  C 8 0 (Nat.zero_add _)
abbrev rm_X2_countBodies : Room := { frames := 1, cells := 0, slots := 0, locals := 22 }
set_option maxHeartbeats 4000000 in
set_option maxRecDepth 100000 in
theorem lp_countBodies {X : gx_T} {D : va_G} {ad : Nat → Nat} {ct : Nat → ClassId} {F S : Nat} {σ : ph_S} (hok : ph_ok F S σ) (C : gC X cX2_countBodies 4 RX2 rm_X2_countBodies (some .int) D (gt ct) (fun v w => v = some (.int (ph_cb F S σ)) ∧ w = cw ad ct F S σ)) : ∀ d i : Nat, i + d = S → gV X 0 0 (cw ad ct F S σ) 19 [(2, .int (nI i)), (1, .int (nI (F - ph_cf (ph_R σ 0) F + ph_cN (ph_cbB σ) i))), (0, .ref (ad 0))] [] := by
  have hF := hok.F16
  have hS := hok.S64
  intro d
  induction d with
  | zero =>
    intro i hi
    have e : i = S := by omega
    rw [e]
    refine gV_iload_n (pc := 19) C dX2_countBodies_19 0 rfl rfl ?_
    refine gV_aload_n (pc := 20) (x := ad 0) C dX2_countBodies_20 2 rfl rfl ?_
    refine cg_sectors (pc := 21) C fl_X2_27 dX2_countBodies_21 ?_
    refine cg_content2 (pc := 24) C fl_X2_111 dX2_countBodies_24 ?_
    refine cl_sc (pc := 27) C dX2_countBodies_27 ?_
    refine gV_icmp_ge (pc := 28) C 62 dX2_countBodies_28 (by decide) (fun c_1 => ?_) (fun c_1 => ?_)
    · skip
      refine gV_iload_n (pc := 62) C dX2_countBodies_62 1 rfl rfl ?_
      refine gV_iret (pc := 63) C dX2_countBodies_63 (by decide) (by decide) ?_
      exact ⟨rfl, rfl⟩
    · exact absurd (nI_le (a := S) (b := S) (by omega) (by omega)) c_1
  | succ d ih =>
    intro i hi
    refine gV_iload_n (pc := 19) C dX2_countBodies_19 0 rfl rfl ?_
    refine gV_aload_n (pc := 20) (x := ad 0) C dX2_countBodies_20 2 rfl rfl ?_
    refine cg_sectors (pc := 21) C fl_X2_27 dX2_countBodies_21 ?_
    refine cg_content2 (pc := 24) C fl_X2_111 dX2_countBodies_24 ?_
    refine cl_sc (pc := 27) C dX2_countBodies_27 ?_
    refine gV_icmp_ge (pc := 28) C 62 dX2_countBodies_28 (by decide) (fun c_1 => ?_) (fun c_1 => ?_)
    · exact absurd c_1 (nI_ge (a := i) (b := S) (by omega) (by omega))
    · skip
      refine gV_aload_n (pc := 31) (x := ad 0) C dX2_countBodies_31 2 rfl rfl ?_
      refine cg_sectors (pc := 32) C fl_X2_27 dX2_countBodies_32 ?_
      refine cg_content2 (pc := 35) C fl_X2_111 dX2_countBodies_35 ?_
      refine gV_iload_n (pc := 38) C dX2_countBodies_38 0 rfl rfl ?_
      refine ca_sc (pc := 39) C (vp_in_nI (by omega) (by omega)) dX2_countBodies_39 ?_
      rw [nI_clamp (by omega)]
      cases er_2 : ph_R σ 1 i with
      | none =>
        refine gV_astoreq_n (pc := 40) (r := none) (lv' := [(3, .null), (2, .int (nI i)), (1, .int (nI (F - ph_cf (ph_R σ 0) F + ph_cN (ph_cbB σ) i))), (0, .ref (ad 0))]) C dX2_countBodies_40 rfl (by decide) rfl ?_
        refine gV_aloadq_n (pc := 41) (r := none) C dX2_countBodies_41 0 rfl rfl ?_
        refine gV_ifnull (pc := 42) (r := none) C 56 dX2_countBodies_42 (by decide) (fun _ => ?_) (fun _ h => nomatch h)
        refine gV_iinc (pc := 56) (v := nI (i + 1)) (lv' := [(2, .int (nI (i + 1))), (3, .null), (1, .int (nI (F - ph_cf (ph_R σ 0) F + ph_cN (ph_cbB σ) i))), (0, .ref (ad 0))]) C dX2_countBodies_56 1 rfl (nI_1 _) (by decide) rfl ?_
        refine gV_goto (pc := 59) C 19 dX2_countBodies_59 (by decide) ?_
        refine gV_lv [0, 2, 3] rfl ?_
        have hh := ih (i + 1) (by omega)
        rw [ph_cN_f (f := (ph_cbB σ)) (n := i) (by simp [ph_cbB, er_2])] at hh
        exact hh
      | some a_2 =>
        have m_2 : a_2 ∈ ph_L σ := hok.refs _ _ _ er_2
        refine gV_astore_n (pc := 40) (x := a_2) (lv' := [(3, .ref a_2), (2, .int (nI i)), (1, .int (nI (F - ph_cf (ph_R σ 0) F + ph_cN (ph_cbB σ) i))), (0, .ref (ad 0))]) C dX2_countBodies_40 rfl (by decide) rfl ?_
        refine gV_aload_n (pc := 41) (x := a_2) C dX2_countBodies_41 0 rfl rfl ?_
        refine gV_ifnull (pc := 42) (r := some a_2) C 56 dX2_countBodies_42 (by decide) (fun h => nomatch h) (fun _ _ => ?_)
        refine gV_aload_n (pc := 45) (x := a_2) C dX2_countBodies_45 0 rfl rfl ?_
        refine cg_b_frame (pc := 46) (σ := σ) C m_2 fl_X2_76 dX2_countBodies_46 ?_
        refine gV_iconst (pc := 49) (v := (-1)) C dX2_countBodies_49 (by decide) ?_
        refine gV_icmp_ne (pc := 50) C 56 dX2_countBodies_50 (by decide) (fun c_3 => ?_) (fun c_3 => ?_)
        · skip
          refine gV_iinc (pc := 56) (v := nI (i + 1)) (lv' := [(2, .int (nI (i + 1))), (3, .ref a_2), (1, .int (nI (F - ph_cf (ph_R σ 0) F + ph_cN (ph_cbB σ) i))), (0, .ref (ad 0))]) C dX2_countBodies_56 1 rfl (nI_1 _) (by decide) rfl ?_
          refine gV_goto (pc := 59) C 19 dX2_countBodies_59 (by decide) ?_
          refine gV_lv [0, 2, 3] rfl ?_
          have hh := ih (i + 1) (by omega)
          rw [ph_cN_f (f := (ph_cbB σ)) (n := i) (by simp [ph_cbB, er_2, c_3])] at hh
          exact hh
        · skip
          refine gV_iinc (pc := 53) (v := nI (F - ph_cf (ph_R σ 0) F + ph_cN (ph_cbB σ) i + 1)) (lv' := [(1, .int (nI (F - ph_cf (ph_R σ 0) F + ph_cN (ph_cbB σ) i + 1))), (3, .ref a_2), (2, .int (nI i)), (0, .ref (ad 0))]) C dX2_countBodies_53 2 rfl (nI_1 _) (by decide) rfl ?_
          refine gV_iinc (pc := 56) (v := nI (i + 1)) (lv' := [(2, .int (nI (i + 1))), (1, .int (nI (F - ph_cf (ph_R σ 0) F + ph_cN (ph_cbB σ) i + 1))), (3, .ref a_2), (0, .ref (ad 0))]) C dX2_countBodies_56 2 rfl (nI_1 _) (by decide) rfl ?_
          refine gV_goto (pc := 59) C 19 dX2_countBodies_59 (by decide) ?_
          refine gV_lv [0, 1, 3] rfl ?_
          have hh := ih (i + 1) (by omega)
          rw [ph_cN_t (f := (ph_cbB σ)) (n := i) (by simp [ph_cbB, er_2, c_3])] at hh
          exact hh
set_option maxHeartbeats 4000000 in
set_option maxRecDepth 100000 in
/-- countBodies -/
theorem c_countBodies {D : va_G} {ad : Nat → Nat} {ct : Nat → ClassId} {F S : Nat} {σ : ph_S} (hok : ph_ok F S σ) : gM yX2_countBodies cX2_countBodies 4 (some .int) rm_X2_countBodies D (gt ct) (cw ad ct F S σ) [.ref (ad 0)] (fun v w => v = some (.int (ph_cb F S σ)) ∧ w = cw ad ct F S σ) := by
  refine gM_in RX2 rfl (by decide) (Nat.le_of_ble_eq_true rfl) (fun X C => ?_)
  have hF := hok.F16
  have hS := hok.S64
  refine gV_aload_n (pc := 0) (x := ad 0) C dX2_countBodies_0 0 rfl rfl ?_
  refine cg_frames (pc := 1) C fl_X2_23 dX2_countBodies_1 ?_
  refine cg_content1 (pc := 4) C fl_X2_111 dX2_countBodies_4 ?_
  refine cl_fc (pc := 7) C dX2_countBodies_7 ?_
  refine gV_aload_n (pc := 8) (x := ad 0) C dX2_countBodies_8 0 rfl rfl ?_
  refine cg_frames (pc := 9) C fl_X2_23 dX2_countBodies_9 ?_
  refine gV_callV (pc := 12) (As := []) (rest := [.int (nI F)]) C ml_X2_108 gy_X1_countFree gv_X1_countFree (c_countFree1 (by omega)) ⟨1, 1, _, _, rfl, rfl, rfl⟩ rfl rfl ⟨by decide, by decide⟩ (Nat.le_of_ble_eq_true rfl) (by decide) (by decide) dX2_countBodies_12 ?_
  rintro _ _ ⟨rfl, rfl⟩
  refine gV_isub (pc := 15) C dX2_countBodies_15 ?_
  rw [pk_sub (show ph_cf (ph_R σ 0) F ≤ F from ph_cN_le _ _)]
  refine gV_istore_n (pc := 16) (lv' := [(1, .int (nI (F - ph_cf (ph_R σ 0) F))), (0, .ref (ad 0))]) C dX2_countBodies_16 rfl (by decide) rfl ?_
  refine gV_iconst (pc := 17) (v := 0) C dX2_countBodies_17 (by decide) ?_
  refine gV_istore_n (pc := 18) (lv' := [(2, .int 0), (1, .int (nI (F - ph_cf (ph_R σ 0) F))), (0, .ref (ad 0))]) C dX2_countBodies_18 rfl (by decide) rfl ?_
  exact lp_countBodies hok C S 0 (Nat.zero_add _)
abbrev rm_X2_countDirty : Room := { frames := 0, cells := 0, slots := 0, locals := 0 }
set_option maxHeartbeats 4000000 in
set_option maxRecDepth 100000 in
theorem lp_countDirty {X : gx_T} {D : va_G} {ad : Nat → Nat} {ct : Nat → ClassId} {F S : Nat} {σ : ph_S} (hok : ph_ok F S σ) (C : gC X cX2_countDirty 4 RX2 rm_X2_countDirty (some .int) D (gt ct) (fun v w => v = some (.int (ph_cd F σ)) ∧ w = cw ad ct F S σ)) : ∀ d i : Nat, i + d = F → gV X 0 0 (cw ad ct F S σ) 4 [(2, .int (nI i)), (1, .int (nI (ph_cN (ph_cdB σ) i))), (0, .ref (ad 0))] [] := by
  have hF := hok.F16
  have hS := hok.S64
  intro d
  induction d with
  | zero =>
    intro i hi
    have e : i = F := by omega
    rw [e]
    refine gV_iload_n (pc := 4) C dX2_countDirty_4 0 rfl rfl ?_
    refine gV_aload_n (pc := 5) (x := ad 0) C dX2_countDirty_5 2 rfl rfl ?_
    refine cg_frames (pc := 6) C fl_X2_23 dX2_countDirty_6 ?_
    refine cg_content1 (pc := 9) C fl_X2_111 dX2_countDirty_9 ?_
    refine cl_fc (pc := 12) C dX2_countDirty_12 ?_
    refine gV_icmp_ge (pc := 13) C 46 dX2_countDirty_13 (by decide) (fun c_1 => ?_) (fun c_1 => ?_)
    · skip
      refine gV_iload_n (pc := 46) C dX2_countDirty_46 1 rfl rfl ?_
      refine gV_iret (pc := 47) C dX2_countDirty_47 (by decide) (by decide) ?_
      exact ⟨rfl, rfl⟩
    · exact absurd (nI_le (a := F) (b := F) (by omega) (by omega)) c_1
  | succ d ih =>
    intro i hi
    refine gV_iload_n (pc := 4) C dX2_countDirty_4 0 rfl rfl ?_
    refine gV_aload_n (pc := 5) (x := ad 0) C dX2_countDirty_5 2 rfl rfl ?_
    refine cg_frames (pc := 6) C fl_X2_23 dX2_countDirty_6 ?_
    refine cg_content1 (pc := 9) C fl_X2_111 dX2_countDirty_9 ?_
    refine cl_fc (pc := 12) C dX2_countDirty_12 ?_
    refine gV_icmp_ge (pc := 13) C 46 dX2_countDirty_13 (by decide) (fun c_1 => ?_) (fun c_1 => ?_)
    · exact absurd c_1 (nI_ge (a := i) (b := F) (by omega) (by omega))
    · skip
      refine gV_aload_n (pc := 16) (x := ad 0) C dX2_countDirty_16 2 rfl rfl ?_
      refine cg_frames (pc := 17) C fl_X2_23 dX2_countDirty_17 ?_
      refine cg_content1 (pc := 20) C fl_X2_111 dX2_countDirty_20 ?_
      refine gV_iload_n (pc := 23) C dX2_countDirty_23 0 rfl rfl ?_
      refine ca_fc (pc := 24) C (vp_in_nI (by omega) (by omega)) dX2_countDirty_24 ?_
      rw [nI_clamp (by omega)]
      cases er_2 : ph_R σ 0 i with
      | none =>
        refine gV_astoreq_n (pc := 25) (r := none) (lv' := [(3, .null), (2, .int (nI i)), (1, .int (nI (ph_cN (ph_cdB σ) i))), (0, .ref (ad 0))]) C dX2_countDirty_25 rfl (by decide) rfl ?_
        refine gV_aloadq_n (pc := 26) (r := none) C dX2_countDirty_26 0 rfl rfl ?_
        refine gV_ifnull (pc := 27) (r := none) C 40 dX2_countDirty_27 (by decide) (fun _ => ?_) (fun _ h => nomatch h)
        refine gV_iinc (pc := 40) (v := nI (i + 1)) (lv' := [(2, .int (nI (i + 1))), (3, .null), (1, .int (nI (ph_cN (ph_cdB σ) i))), (0, .ref (ad 0))]) C dX2_countDirty_40 1 rfl (nI_1 _) (by decide) rfl ?_
        refine gV_goto (pc := 43) C 4 dX2_countDirty_43 (by decide) ?_
        refine gV_lv [0, 2, 3] rfl ?_
        have hh := ih (i + 1) (by omega)
        rw [ph_cN_f (f := (ph_cdB σ)) (n := i) (by simp [ph_cdB, er_2])] at hh
        exact hh
      | some a_2 =>
        have m_2 : a_2 ∈ ph_L σ := hok.refs _ _ _ er_2
        refine gV_astore_n (pc := 25) (x := a_2) (lv' := [(3, .ref a_2), (2, .int (nI i)), (1, .int (nI (ph_cN (ph_cdB σ) i))), (0, .ref (ad 0))]) C dX2_countDirty_25 rfl (by decide) rfl ?_
        refine gV_aload_n (pc := 26) (x := a_2) C dX2_countDirty_26 0 rfl rfl ?_
        refine gV_ifnull (pc := 27) (r := some a_2) C 40 dX2_countDirty_27 (by decide) (fun h => nomatch h) (fun _ _ => ?_)
        refine gV_aload_n (pc := 30) (x := a_2) C dX2_countDirty_30 0 rfl rfl ?_
        refine cg_b_dirty (pc := 31) (σ := σ) C m_2 fl_X2_97 dX2_countDirty_31 ?_
        refine gV_if_eq (pc := 34) C 40 dX2_countDirty_34 (by decide) (fun c_3 => ?_) (fun c_3 => ?_)
        · skip
          refine gV_iinc (pc := 40) (v := nI (i + 1)) (lv' := [(2, .int (nI (i + 1))), (3, .ref a_2), (1, .int (nI (ph_cN (ph_cdB σ) i))), (0, .ref (ad 0))]) C dX2_countDirty_40 1 rfl (nI_1 _) (by decide) rfl ?_
          refine gV_goto (pc := 43) C 4 dX2_countDirty_43 (by decide) ?_
          refine gV_lv [0, 2, 3] rfl ?_
          have hh := ih (i + 1) (by omega)
          rw [ph_cN_f (f := (ph_cdB σ)) (n := i) (by simp [ph_cdB, er_2, c_3])] at hh
          exact hh
        · skip
          refine gV_iinc (pc := 37) (v := nI (ph_cN (ph_cdB σ) i + 1)) (lv' := [(1, .int (nI (ph_cN (ph_cdB σ) i + 1))), (3, .ref a_2), (2, .int (nI i)), (0, .ref (ad 0))]) C dX2_countDirty_37 2 rfl (nI_1 _) (by decide) rfl ?_
          refine gV_iinc (pc := 40) (v := nI (i + 1)) (lv' := [(2, .int (nI (i + 1))), (1, .int (nI (ph_cN (ph_cdB σ) i + 1))), (3, .ref a_2), (0, .ref (ad 0))]) C dX2_countDirty_40 2 rfl (nI_1 _) (by decide) rfl ?_
          refine gV_goto (pc := 43) C 4 dX2_countDirty_43 (by decide) ?_
          refine gV_lv [0, 1, 3] rfl ?_
          have hh := ih (i + 1) (by omega)
          rw [ph_cN_t (f := (ph_cdB σ)) (n := i) (by simp [ph_cdB, er_2, c_3])] at hh
          exact hh
set_option maxHeartbeats 4000000 in
set_option maxRecDepth 100000 in
/-- countDirty -/
theorem c_countDirty {D : va_G} {ad : Nat → Nat} {ct : Nat → ClassId} {F S : Nat} {σ : ph_S} (hok : ph_ok F S σ) : gM yX2_countDirty cX2_countDirty 4 (some .int) rm_X2_countDirty D (gt ct) (cw ad ct F S σ) [.ref (ad 0)] (fun v w => v = some (.int (ph_cd F σ)) ∧ w = cw ad ct F S σ) := by
  refine gM_in RX2 rfl (by decide) (Nat.le_of_ble_eq_true rfl) (fun X C => ?_)
  have hF := hok.F16
  have hS := hok.S64
  refine gV_iconst (pc := 0) (v := 0) C dX2_countDirty_0 (by decide) ?_
  refine gV_istore_n (pc := 1) (lv' := [(1, .int 0), (0, .ref (ad 0))]) C dX2_countDirty_1 rfl (by decide) rfl ?_
  refine gV_iconst (pc := 2) (v := 0) C dX2_countDirty_2 (by decide) ?_
  refine gV_istore_n (pc := 3) (lv' := [(2, .int 0), (1, .int 0), (0, .ref (ad 0))]) C dX2_countDirty_3 rfl (by decide) rfl ?_
  exact lp_countDirty hok C F 0 (Nat.zero_add _)
abbrev rm_X2_countWithoutSector : Room := { frames := 0, cells := 0, slots := 0, locals := 0 }
set_option maxHeartbeats 4000000 in
set_option maxRecDepth 100000 in
theorem lp_countWithoutSector {X : gx_T} {D : va_G} {ad : Nat → Nat} {ct : Nat → ClassId} {F S : Nat} {σ : ph_S} (hok : ph_ok F S σ) (C : gC X cX2_countWithoutSector 4 RX2 rm_X2_countWithoutSector (some .int) D (gt ct) (fun v w => v = some (.int (ph_cs F σ)) ∧ w = cw ad ct F S σ)) : ∀ d i : Nat, i + d = F → gV X 0 0 (cw ad ct F S σ) 4 [(2, .int (nI i)), (1, .int (nI (ph_cN (ph_csB σ) i))), (0, .ref (ad 0))] [] := by
  have hF := hok.F16
  have hS := hok.S64
  intro d
  induction d with
  | zero =>
    intro i hi
    have e : i = F := by omega
    rw [e]
    refine gV_iload_n (pc := 4) C dX2_countWithoutSector_4 0 rfl rfl ?_
    refine gV_aload_n (pc := 5) (x := ad 0) C dX2_countWithoutSector_5 2 rfl rfl ?_
    refine cg_frames (pc := 6) C fl_X2_23 dX2_countWithoutSector_6 ?_
    refine cg_content1 (pc := 9) C fl_X2_111 dX2_countWithoutSector_9 ?_
    refine cl_fc (pc := 12) C dX2_countWithoutSector_12 ?_
    refine gV_icmp_ge (pc := 13) C 47 dX2_countWithoutSector_13 (by decide) (fun c_1 => ?_) (fun c_1 => ?_)
    · skip
      refine gV_iload_n (pc := 47) C dX2_countWithoutSector_47 1 rfl rfl ?_
      refine gV_iret (pc := 48) C dX2_countWithoutSector_48 (by decide) (by decide) ?_
      exact ⟨rfl, rfl⟩
    · exact absurd (nI_le (a := F) (b := F) (by omega) (by omega)) c_1
  | succ d ih =>
    intro i hi
    refine gV_iload_n (pc := 4) C dX2_countWithoutSector_4 0 rfl rfl ?_
    refine gV_aload_n (pc := 5) (x := ad 0) C dX2_countWithoutSector_5 2 rfl rfl ?_
    refine cg_frames (pc := 6) C fl_X2_23 dX2_countWithoutSector_6 ?_
    refine cg_content1 (pc := 9) C fl_X2_111 dX2_countWithoutSector_9 ?_
    refine cl_fc (pc := 12) C dX2_countWithoutSector_12 ?_
    refine gV_icmp_ge (pc := 13) C 47 dX2_countWithoutSector_13 (by decide) (fun c_1 => ?_) (fun c_1 => ?_)
    · exact absurd c_1 (nI_ge (a := i) (b := F) (by omega) (by omega))
    · skip
      refine gV_aload_n (pc := 16) (x := ad 0) C dX2_countWithoutSector_16 2 rfl rfl ?_
      refine cg_frames (pc := 17) C fl_X2_23 dX2_countWithoutSector_17 ?_
      refine cg_content1 (pc := 20) C fl_X2_111 dX2_countWithoutSector_20 ?_
      refine gV_iload_n (pc := 23) C dX2_countWithoutSector_23 0 rfl rfl ?_
      refine ca_fc (pc := 24) C (vp_in_nI (by omega) (by omega)) dX2_countWithoutSector_24 ?_
      rw [nI_clamp (by omega)]
      cases er_2 : ph_R σ 0 i with
      | none =>
        refine gV_astoreq_n (pc := 25) (r := none) (lv' := [(3, .null), (2, .int (nI i)), (1, .int (nI (ph_cN (ph_csB σ) i))), (0, .ref (ad 0))]) C dX2_countWithoutSector_25 rfl (by decide) rfl ?_
        refine gV_aloadq_n (pc := 26) (r := none) C dX2_countWithoutSector_26 0 rfl rfl ?_
        refine gV_ifnull (pc := 27) (r := none) C 41 dX2_countWithoutSector_27 (by decide) (fun _ => ?_) (fun _ h => nomatch h)
        refine gV_iinc (pc := 41) (v := nI (i + 1)) (lv' := [(2, .int (nI (i + 1))), (3, .null), (1, .int (nI (ph_cN (ph_csB σ) i))), (0, .ref (ad 0))]) C dX2_countWithoutSector_41 1 rfl (nI_1 _) (by decide) rfl ?_
        refine gV_goto (pc := 44) C 4 dX2_countWithoutSector_44 (by decide) ?_
        refine gV_lv [0, 2, 3] rfl ?_
        have hh := ih (i + 1) (by omega)
        rw [ph_cN_f (f := (ph_csB σ)) (n := i) (by simp [ph_csB, er_2])] at hh
        exact hh
      | some a_2 =>
        have m_2 : a_2 ∈ ph_L σ := hok.refs _ _ _ er_2
        refine gV_astore_n (pc := 25) (x := a_2) (lv' := [(3, .ref a_2), (2, .int (nI i)), (1, .int (nI (ph_cN (ph_csB σ) i))), (0, .ref (ad 0))]) C dX2_countWithoutSector_25 rfl (by decide) rfl ?_
        refine gV_aload_n (pc := 26) (x := a_2) C dX2_countWithoutSector_26 0 rfl rfl ?_
        refine gV_ifnull (pc := 27) (r := some a_2) C 41 dX2_countWithoutSector_27 (by decide) (fun h => nomatch h) (fun _ _ => ?_)
        refine gV_aload_n (pc := 30) (x := a_2) C dX2_countWithoutSector_30 0 rfl rfl ?_
        refine cg_b_sector (pc := 31) (σ := σ) C m_2 fl_X2_118 dX2_countWithoutSector_31 ?_
        refine gV_iconst (pc := 34) (v := (-1)) C dX2_countWithoutSector_34 (by decide) ?_
        refine gV_icmp_ne (pc := 35) C 41 dX2_countWithoutSector_35 (by decide) (fun c_3 => ?_) (fun c_3 => ?_)
        · skip
          refine gV_iinc (pc := 41) (v := nI (i + 1)) (lv' := [(2, .int (nI (i + 1))), (3, .ref a_2), (1, .int (nI (ph_cN (ph_csB σ) i))), (0, .ref (ad 0))]) C dX2_countWithoutSector_41 1 rfl (nI_1 _) (by decide) rfl ?_
          refine gV_goto (pc := 44) C 4 dX2_countWithoutSector_44 (by decide) ?_
          refine gV_lv [0, 2, 3] rfl ?_
          have hh := ih (i + 1) (by omega)
          rw [ph_cN_f (f := (ph_csB σ)) (n := i) (by simp [ph_csB, er_2, c_3])] at hh
          exact hh
        · skip
          refine gV_iinc (pc := 38) (v := nI (ph_cN (ph_csB σ) i + 1)) (lv' := [(1, .int (nI (ph_cN (ph_csB σ) i + 1))), (3, .ref a_2), (2, .int (nI i)), (0, .ref (ad 0))]) C dX2_countWithoutSector_38 2 rfl (nI_1 _) (by decide) rfl ?_
          refine gV_iinc (pc := 41) (v := nI (i + 1)) (lv' := [(2, .int (nI (i + 1))), (1, .int (nI (ph_cN (ph_csB σ) i + 1))), (3, .ref a_2), (0, .ref (ad 0))]) C dX2_countWithoutSector_41 2 rfl (nI_1 _) (by decide) rfl ?_
          refine gV_goto (pc := 44) C 4 dX2_countWithoutSector_44 (by decide) ?_
          refine gV_lv [0, 1, 3] rfl ?_
          have hh := ih (i + 1) (by omega)
          rw [ph_cN_t (f := (ph_csB σ)) (n := i) (by simp [ph_csB, er_2, c_3])] at hh
          exact hh
set_option maxHeartbeats 4000000 in
set_option maxRecDepth 100000 in
/-- countWithoutSector -/
theorem c_countWithoutSector {D : va_G} {ad : Nat → Nat} {ct : Nat → ClassId} {F S : Nat} {σ : ph_S} (hok : ph_ok F S σ) : gM yX2_countWithoutSector cX2_countWithoutSector 4 (some .int) rm_X2_countWithoutSector D (gt ct) (cw ad ct F S σ) [.ref (ad 0)] (fun v w => v = some (.int (ph_cs F σ)) ∧ w = cw ad ct F S σ) := by
  refine gM_in RX2 rfl (by decide) (Nat.le_of_ble_eq_true rfl) (fun X C => ?_)
  have hF := hok.F16
  have hS := hok.S64
  refine gV_iconst (pc := 0) (v := 0) C dX2_countWithoutSector_0 (by decide) ?_
  refine gV_istore_n (pc := 1) (lv' := [(1, .int 0), (0, .ref (ad 0))]) C dX2_countWithoutSector_1 rfl (by decide) rfl ?_
  refine gV_iconst (pc := 2) (v := 0) C dX2_countWithoutSector_2 (by decide) ?_
  refine gV_istore_n (pc := 3) (lv' := [(2, .int 0), (1, .int 0), (0, .ref (ad 0))]) C dX2_countWithoutSector_3 rfl (by decide) rfl ?_
  exact lp_countWithoutSector hok C F 0 (Nat.zero_add _)
abbrev rm_X2_leastHolder : Room := { frames := 1, cells := 0, slots := 0, locals := 21 }
set_option maxHeartbeats 4000000 in
set_option maxRecDepth 100000 in
theorem lp_leastHolder {X : gx_T} {D : va_G} {ad : Nat → Nat} {ct : Nat → ClassId} {F S : Nat} {σ : ph_S} {a : Nat} (hok : ph_ok F S σ) (m_a : a ∈ ph_L σ) (C : gC X cX2_leastHolder 3 RX2 rm_X2_leastHolder (some .int) D (gt ct) (fun v w => v = some (.int (ph_lh σ a)) ∧ w = cw ad ct F S σ)) : ∀ d i : Nat, i + d = 8 → ph_lhG σ a d i = ph_lh σ a → gV X 0 0 (cw ad ct F S σ) 2 [(2, .int (nI i)), (0, .ref (ad 0)), (1, .ref a)] [] := by
  obtain ⟨g, hg, eg⟩ := hok.pg m_a
  intro d
  induction d with
  | zero =>
    intro i hi hr
    refine gV_iload_n (pc := 2) C dX2_leastHolder_2 0 rfl rfl ?_
    refine gV_bipush (pc := 3) (v := 8) C dX2_leastHolder_3 (by decide) ?_
    refine gV_icmp_ge (pc := 5) C 33 dX2_leastHolder_5 (by decide) (fun c_1 => ?_) (fun c_1 => ?_)
    · skip
      refine gV_iconst (pc := 33) (v := (-1)) C dX2_leastHolder_33 (by decide) ?_
      refine gV_iret (pc := 34) C dX2_leastHolder_34 (by decide) (by decide) ?_
      exact ⟨by rw [← hr]; rfl, rfl⟩
    · exact absurd (nI_le (a := 8) (b := i) (by omega) (by omega)) c_1
  | succ d ih =>
    intro i hi hr
    have hin : vp_in (nI i * 32 + ph_B σ 0 a) 256 := by rw [eg]; exact slot_in (by omega) hg
    refine gV_iload_n (pc := 2) C dX2_leastHolder_2 0 rfl rfl ?_
    refine gV_bipush (pc := 3) (v := 8) C dX2_leastHolder_3 (by decide) ?_
    refine gV_icmp_ge (pc := 5) C 33 dX2_leastHolder_5 (by decide) (fun c_1 => ?_) (fun c_1 => ?_)
    · exact absurd c_1 (nI_ge (a := i) (b := 8) (by omega) (by omega))
    · skip
      refine gV_aload_n (pc := 8) (x := ad 0) C dX2_leastHolder_8 1 rfl rfl ?_
      refine cg_bodies (pc := 9) C fl_X2_40 dX2_leastHolder_9 ?_
      refine gV_iload_n (pc := 12) C dX2_leastHolder_12 0 rfl rfl ?_
      refine gV_aload_n (pc := 13) (x := a) C dX2_leastHolder_13 2 rfl rfl ?_
      refine cg_b_pageNumber (pc := 14) (σ := σ) C m_a fl_X2_127 dX2_leastHolder_14 ?_
      refine gV_callS (pc := 17) (As := [.int (nI i), .int (ph_B σ 0 a)]) (rest := [.ref (ad 9)]) C ml_X2_52 gy_X2_slot gs_X2_slot (c_slot _ _)  rfl rfl ⟨by decide, by decide⟩ (Nat.le_of_ble_eq_true rfl) (by decide) (by decide) dX2_leastHolder_17 ?_
      rintro _ _ ⟨rfl, rfl⟩
      refine ca_bo (pc := 20) C hin dX2_leastHolder_20 ?_
      refine gV_aload_n (pc := 21) (x := a) C dX2_leastHolder_21 2 rfl rfl ?_
      refine gV_acmp_ne (pc := 22) (rx := ph_R σ 2 (((nI i) * 32 + (ph_B σ 0 a)).toNatClampNeg)) (ry := some a) C 27 dX2_leastHolder_22 (by decide) (fun c_3 => ?_) (fun c_3 => ?_)
      · skip
        refine gV_iinc (pc := 27) (v := nI (i + 1)) (lv' := [(2, .int (nI (i + 1))), (0, .ref (ad 0)), (1, .ref a)]) C dX2_leastHolder_27 0 rfl (nI_1 _) (by decide) rfl ?_
        refine gV_goto (pc := 30) C 2 dX2_leastHolder_30 (by decide) ?_
        refine gV_lv [0, 1, 2] rfl ?_
        exact ih (i + 1) (by omega) (by rw [← hr, ph_lhG, if_neg c_3])
      · skip
        refine gV_iload_n (pc := 25) C dX2_leastHolder_25 0 rfl rfl ?_
        refine gV_iret (pc := 26) C dX2_leastHolder_26 (by decide) (by decide) ?_
        exact ⟨by rw [← hr, ph_lhG, if_pos c_3], rfl⟩
set_option maxHeartbeats 4000000 in
set_option maxRecDepth 100000 in
/-- leastHolder -/
theorem c_leastHolder {D : va_G} {ad : Nat → Nat} {ct : Nat → ClassId} {F S : Nat} {σ : ph_S} {a : Nat} (hok : ph_ok F S σ) (m_a : a ∈ ph_L σ) : gM yX2_leastHolder cX2_leastHolder 3 (some .int) rm_X2_leastHolder D (gt ct) (cw ad ct F S σ) [.ref (ad 0), .ref a] (fun v w => v = some (.int (ph_lh σ a)) ∧ w = cw ad ct F S σ) := by
  refine gM_in RX2 rfl (by decide) (Nat.le_of_ble_eq_true rfl) (fun X C => ?_)
  refine gV_iconst (pc := 0) (v := 0) C dX2_leastHolder_0 (by decide) ?_
  refine gV_istore_n (pc := 1) (lv' := [(2, .int 0), (0, .ref (ad 0)), (1, .ref a)]) C dX2_leastHolder_1 rfl (by decide) rfl ?_
  exact lp_leastHolder hok m_a C 8 0 rfl rfl
end
section
section OKS
variable {F S : Nat} {σ : ph_S}
theorem ph_L_sI (k : Nat) (v : Int32) : ph_L (ph_sI σ k v) = ph_L σ := rfl
theorem up_if {α : Type} (f : Nat → α) (k : Nat) (v : α) (j : Nat) : va_up f k v j = if j = k then v else f j := rfl
theorem R_sR (k j : Nat) (v : Option Nat) (k' j' : Nat) : ph_R (ph_sR σ k j v) k' j' = if k' = k ∧ j' = j then v else ph_R σ k' j' := by
  simp only [ph_R, ph_sR, va_up]
  by_cases h : k' = k
  · subst h
    by_cases h2 : j' = j <;> simp [h2, va_up]
  · simp [h]
theorem A_sA (k j : Nat) (v : Int32) (k' j' : Nat) : ph_A (ph_sA σ k j v) k' j' = if k' = k ∧ j' = j then v else ph_A σ k' j' := by
  simp only [ph_A, ph_sA, va_up]
  by_cases h : k' = k
  · subst h
    by_cases h2 : j' = j <;> simp [h2, va_up]
  · simp [h]
theorem B_sB (k j : Nat) (v : Int32) (k' j' : Nat) : ph_B (ph_sB σ k j v) k' j' = if k' = k ∧ j' = j then v else ph_B σ k' j' := by
  simp only [ph_B, ph_sB, va_up]
  by_cases h : k' = k
  · subst h
    by_cases h2 : j' = j <;> simp [h2, va_up]
  · simp [h]
theorem I_sI (k : Nat) (v : Int32) (k' : Nat) : ph_I (ph_sI σ k v) k' = if k' = k then v else ph_I σ k' := rfl
theorem A_fA (k : Nat) (f : Nat → Int32) (k' j : Nat) : ph_A (ph_fA σ k f) k' j = if k' = k then f j else ph_A σ k' j := by
  simp only [ph_A, ph_fA, va_up]
  by_cases h : k' = k <;> simp [h]
theorem ok_sI (h : ph_ok F S σ) {k : Nat} (v : Int32) (hk : k ≠ 0) : ph_ok F S (ph_sI σ k v) := by
  obtain ⟨h1, h2, h3, h4, h5, h6⟩ := h
  refine ⟨h1, h2, h3, ?_, h5, h6⟩
  rw [I_sI, if_neg (Ne.symm hk)]
  exact h4
theorem ok_hand (h : ph_ok F S σ) {v : Int32} (hv : ∃ j, j < F ∧ v = nI j) : ph_ok F S (ph_sI σ 0 v) := by
  obtain ⟨h1, h2, h3, h4, h5, h6⟩ := h
  exact ⟨h1, h2, h3, hv, h5, h6⟩
theorem ok_sRn (h : ph_ok F S σ) (k j : Nat) : ph_ok F S (ph_sR σ k j none) := by
  obtain ⟨h1, h2, h3, h4, h5, h6⟩ := h
  refine ⟨h1, fun k' j' a he => ?_, h3, h4, h5, h6⟩
  rw [R_sR] at he
  split at he
  · cases he
  · exact h2 _ _ _ he
theorem ok_sR (h : ph_ok F S σ) (k j : Nat) {a : Nat} (ha : a ∈ ph_L σ) : ph_ok F S (ph_sR σ k j (some a)) := by
  obtain ⟨h1, h2, h3, h4, h5, h6⟩ := h
  refine ⟨h1, fun k' j' b he => ?_, h3, h4, h5, h6⟩
  rw [R_sR] at he
  split at he
  · cases he; exact ha
  · exact h2 _ _ _ he
theorem ok_us (h : ph_ok F S σ) (j : Nat) {v : Int32} (hv : v = 0 ∨ v = 1) : ph_ok F S (ph_sA σ 2 j v) := by
  obtain ⟨h1, h2, h3, h4, h5, h6⟩ := h
  refine ⟨h1, h2, h3, h4, fun p hp => ?_, fun f => ?_⟩
  · rw [A_sA, if_neg (by omega)]; exact h5 p hp
  · rw [A_sA]
    split
    · exact hv
    · exact h6 f
theorem ok_pn (h : ph_ok F S σ) (j : Nat) {v : Int32} (hv : ∃ m, m ≤ 32 ∧ v = nI m) : ph_ok F S (ph_sA σ 3 j v) := by
  obtain ⟨h1, h2, h3, h4, h5, h6⟩ := h
  refine ⟨h1, h2, h3, h4, fun p hp => ?_, fun f => ?_⟩
  · rw [A_sA]
    split
    · exact hv
    · exact h5 p hp
  · rw [A_sA, if_neg (by omega)]; exact h6 f
theorem ok_sA (h : ph_ok F S σ) {k : Nat} (hk : k < 2) (j : Nat) (v : Int32) : ph_ok F S (ph_sA σ k j v) := by
  obtain ⟨h1, h2, h3, h4, h5, h6⟩ := h
  refine ⟨h1, h2, h3, h4, fun p hp => ?_, fun f => ?_⟩
  · rw [A_sA, if_neg (by omega)]; exact h5 p hp
  · rw [A_sA, if_neg (by omega)]; exact h6 f
theorem ok_fA (h : ph_ok F S σ) {k : Nat} (hk : k < 2) (f : Nat → Int32) : ph_ok F S (ph_fA σ k f) := by
  obtain ⟨h1, h2, h3, h4, h5, h6⟩ := h
  refine ⟨h1, h2, h3, h4, fun p hp => ?_, fun f => ?_⟩
  · rw [A_fA, if_neg (by omega)]; exact h5 p hp
  · rw [A_fA, if_neg (by omega)]; exact h6 f
theorem ok_sB (h : ph_ok F S σ) (k b : Nat) {v : Int32} (h1' : k = 1 → v = -1 ∨ ∃ f, f < F ∧ v = nI f) (h2' : k = 2 → v = -1 ∨ ∃ f, f < S ∧ v = nI f) (h0' : k ≠ 0) (h4' : k = 4 → v = 0 ∨ v = 1) : ph_ok F S (ph_sB σ k b v) := by
  obtain ⟨h1, h2, h3, h4, h5, h6⟩ := h
  refine ⟨h1, h2, fun a ha => ?_, h4, h5, h6⟩
  obtain ⟨g1, g2, g3, g4⟩ := h3 a ha
  refine ⟨?_, ?_, ?_, ?_⟩
  · rw [B_sB]; split
    · exact h1' (by omega)
    · exact g1
  · rw [B_sB]; split
    · exact h2' (by omega)
    · exact g2
  · rw [B_sB, if_neg (by omega)]; exact g3
  · rw [B_sB]; split
    · exact h4' (by omega)
    · exact g4
theorem ok_fr (h : ph_ok F S σ) (a : Nat) {v : Int32} (hv : v = -1 ∨ ∃ f, f < F ∧ v = nI f) : ph_ok F S (ph_sB σ 1 a v) := ok_sB h 1 a (fun _ => hv) (fun e => absurd e (by decide)) (by decide) (fun e => absurd e (by decide))
theorem ok_se (h : ph_ok F S σ) (a : Nat) {v : Int32} (hv : v = -1 ∨ ∃ f, f < S ∧ v = nI f) : ph_ok F S (ph_sB σ 2 a v) := ok_sB h 2 a (fun e => absurd e (by decide)) (fun _ => hv) (by decide) (fun e => absurd e (by decide))
theorem ok_ho (h : ph_ok F S σ) (a : Nat) (v : Int32) : ph_ok F S (ph_sB σ 3 a v) := ok_sB h 3 a (fun e => absurd e (by decide)) (fun e => absurd e (by decide)) (by decide) (fun e => absurd e (by decide))
theorem ok_di (h : ph_ok F S σ) (a : Nat) {v : Int32} (hv : v = 0 ∨ v = 1) : ph_ok F S (ph_sB σ 4 a v) := ok_sB h 4 a (fun e => absurd e (by decide)) (fun e => absurd e (by decide)) (by decide) (fun _ => hv)
end OKS
theorem ph_has_in {N : Nat} {r : Int32} (h : ¬ ph_has N r = 0) (hN : N < 2 ^ 31) : ∃ j, j < N ∧ r = nI j := by
  unfold ph_has at h
  split at h
  · exact absurd rfl h
  · split at h
    · exact absurd rfl h
    · rename_i h1 h2
      obtain ⟨j, hj, rfl⟩ := nI_of h1
      exact ⟨j, Nat.lt_of_not_le fun z => h2 (nI_le z hj), rfl⟩
theorem ph_has_t {N j : Nat} (h : j < N) (hN : N < 2 ^ 31) : ph_has N (nI j) = 1 := by
  unfold ph_has
  rw [if_neg (nI_pos (by omega)), if_neg (nI_ge h hN)]
theorem ph_has_m1 (N : Nat) : ph_has N (-1) = 0 := by
  unfold ph_has
  rw [if_pos (by decide)]
def ph_fill (f : Nat → Int32) (a b : Nat) (v : Int32) : Nat → Int32 := fun j => if a ≤ j ∧ j < b then v else f j
theorem ph_fill_0 (f : Nat → Int32) (a : Nat) (v : Int32) : ph_fill f a a v = f := by
  funext j
  unfold ph_fill
  rw [if_neg (by omega)]
theorem ph_fill_s (σ : ph_S) (f : Nat → Int32) (a i : Nat) (v : Int32) (h : a ≤ i) : ph_sA (ph_fA σ 0 (ph_fill f a i v)) 0 i v = ph_fA σ 0 (ph_fill f a (i + 1) v) := by
  simp only [ph_sA, ph_fA]
  refine congrArg (fun z => (σ.1, σ.2.1, z, σ.2.2.2)) ?_
  funext k
  simp only [va_up]
  by_cases hk : k = 0
  · subst hk
    simp only [if_true]
    funext j
    unfold ph_fill
    simp only [va_up]
    by_cases hj : j = i
    · subst hj; simp [h]
    · by_cases h1 : a ≤ j ∧ j < i
      · rw [if_neg hj, if_pos h1, if_pos (by omega)]
      · rw [if_neg hj, if_neg h1, if_neg (by omega)]
  · simp [hk]
theorem ph_fA_self (σ : ph_S) : ph_fA σ 0 (ph_A σ 0) = σ := by
  simp only [ph_fA, ph_A]
  obtain ⟨a, b, c, d⟩ := σ
  refine congrArg (fun z => (a, b, z, d)) ?_
  funext k
  simp only [va_up]
  by_cases hk : k = 0
  · subst hk; simp only [if_true]; rfl
  · simp [hk]
/-- the words of a row set to 0 -/
def ph_zero (F : Nat) (σ : ph_S) (r : Nat) : ph_S := ph_fA σ 0 (ph_fill (ph_A σ 0) (16 * r) (16 * r + 16) 0)
/-- the words of a row copied to another -/
def ph_cpy (N N' kd ks : Nat) (σ : ph_S) (row src : Int32) : ph_S := if ph_has N row = 0 then σ else if ph_has N' src = 0 then σ else ph_fA σ kd (va_cpy (ph_A σ ks) (ph_A σ kd) (src * 16).toNatClampNeg (row * 16).toNatClampNeg (16 : Int32).toNatClampNeg)
theorem ph_cpy_L (N N' kd ks : Nat) (σ : ph_S) (row src : Int32) : ph_L (ph_cpy N N' kd ks σ row src) = ph_L σ := by
  unfold ph_cpy; split
  · rfl
  · split <;> rfl
theorem ok_cpy {F S N N' kd ks : Nat} {σ : ph_S} {row src : Int32} (h : ph_ok F S σ) (hk : kd < 2) : ph_ok F S (ph_cpy N N' kd ks σ row src) := by
  unfold ph_cpy; split
  · exact h
  · split
    · exact h
    · exact ok_fA h hk _
theorem mul16 (j : Nat) : nI j * 16 = nI (16 * j) := by
  rw [show (16 : Int32) = nI 16 from rfl, pk_mul, Nat.mul_comm]
section CPR
variable {X : gx_T} {cc : ByteArray} {nL : Nat} {own : String} {rm : Room} {rt : Option FieldType} {D : va_G} {tys : List (ClassId × FieldType)} {post : Option Value → va_W → Prop} {k n : Nat} {ws : va_W} {pc : Nat} {lv : List (Nat × Value)} {st : List Value} {idx : Nat}
theorem gV_copyi (C : gC X cc nL own rm rt D tys post) (hlink : Cond.methodLink own idx arraycopyName ∈ pw_all) (hnat : Cond.native arraycopyName ∈ pw_all) (hstat : Cond.static arraycopyName ∈ pw_all) (hini : Cond.initialized "java/lang/System" ∈ pw_all)
    (q0 q1 t0 t1 : Nat) {a a0 : Nat} {c0 c1 : ClassId} {n0 n1 : Nat} {f g : Nat → Int32} (ha0 : ws[q0]? = some (a0, .inl (c0, n0, .inl f))) (ha1 : ws[q1]? = some (a, .inl (c1, n1, .inl g))) (ht0 : tys[t0]? = some (c0, .int)) (ht1 : tys[t1]? = some (c1, .int))
    {sp dp m9 : Int32} (h1 : ¬ sp < 0) (h2 : ¬ dp < 0) (h3 : ¬ m9 < 0) (h4 : sp.toNatClampNeg + m9.toNatClampNeg ≤ n0) (h5 : dp.toNatClampNeg + m9.toNatClampNeg ≤ n1) (hframes : 1 ≤ rm.frames) (hlocals : (st.map fun v => v.category).sum + (nativeFrameWords "java/lang/System" "arraycopy" 5 + 11) ≤ rm.locals) (hdg : decode cc pc = .ok (.invokestatic idx, 3))
    (kk : gV X k n (ws.set q1 (a, .inl (c1, n1, .inl (va_cpy f g sp.toNatClampNeg dp.toNatClampNeg m9.toNatClampNeg)))) (pc + 3) lv st) : gV X k n ws pc lv (.int m9 :: .int dp :: .ref a :: .int sp :: .ref a0 :: st) := by
  obtain ⟨⟨p, l, e, R, s, m, args, below, meth, c, Q⟩, nL', D', tys', A⟩ := X
  obtain ⟨hx, hb, hml, hown, hts, hN, hK, hA, hlks, rfl, rfl, rfl, rfl, hl0, hr, hret⟩ := C
  intro H locs ls hP hD hS hl
  exact va_copyi hx hb (hml.trans hl.1.symm) hown (hts _ hlink) (hts _ hnat) (hts _ hstat) (hts _ hini) hK hP hD hS q0 q1 t0 t1 ha0 ha1 ht0 ht1 rfl h1 h2 h3 h4 h5 (fun _ _ => rfl) hframes hlocals hdg (fun H1 locs1 hP1 hD1 hS1 => kk H1 locs1 ls hP1 hD1 hS1 hl)
end CPR
theorem w_copy_l : Cond.methodLink RX1 31 arraycopyName ∈ pw_all := pw_t 158 (by decide +kernel) rfl
theorem w_copy_s : Cond.static arraycopyName ∈ pw_all := pw_t 159 (by decide +kernel) rfl
theorem w_copy_n : Cond.native arraycopyName ∈ pw_all := pw_t 160 (by decide +kernel) rfl
theorem w_sys : Cond.initialized "java/lang/System" ∈ pw_all := pw_t 10 (by decide +kernel) rfl
abbrev rm_J7_rangeCheck_23922 : Room := { frames := 0, cells := 0, slots := 0, locals := 0 }
set_option maxHeartbeats 4000000 in
set_option maxRecDepth 100000 in
/-- Arrays.rangeCheck, where nothing is wrong -/
theorem c_rangeCheck {D : va_G} {ad : Nat → Nat} {ct : Nat → ClassId} {F S : Nat} {σ : ph_S} {N a b : Nat} (h1 : a ≤ b) (h2 : b ≤ N) (h3 : N < 2 ^ 31) : gM yJ7_rangeCheck_23922 cJ7_rangeCheck_23922 3 none rm_J7_rangeCheck_23922 D (gt ct) (cw ad ct F S σ) [.int (nI N), .int (nI a), .int (nI b)] (fun v w => v = none ∧ w = cw ad ct F S σ) := by
  refine gM_in RJ7 rfl (by decide) (Nat.le_of_ble_eq_true rfl) (fun X C => ?_)
  refine gV_iload_n (pc := 0) C dJ7_rangeCheck_23922_0 1 rfl rfl ?_
  refine gV_iload_n (pc := 1) C dJ7_rangeCheck_23922_1 2 rfl rfl ?_
  refine gV_icmp_le (pc := 2) C 46 dJ7_rangeCheck_23922_2 (by decide) (fun c_1 => ?_) (fun c_1 => ?_)
  · skip
    refine gV_iload_n (pc := 46) C dJ7_rangeCheck_23922_46 1 rfl rfl ?_
    refine gV_if_ge (pc := 47) C 59 dJ7_rangeCheck_23922_47 (by decide) (fun c_2 => ?_) (fun c_2 => ?_)
    · skip
      refine gV_iload_n (pc := 59) C dJ7_rangeCheck_23922_59 2 rfl rfl ?_
      refine gV_iload_n (pc := 60) C dJ7_rangeCheck_23922_60 0 rfl rfl ?_
      refine gV_icmp_le (pc := 61) C 73 dJ7_rangeCheck_23922_61 (by decide) (fun c_3 => ?_) (fun c_3 => ?_)
      · skip
        refine gV_vret (pc := 73) C dJ7_rangeCheck_23922_73 (by decide) (by decide) ?_
        exact ⟨rfl, rfl⟩
      · exact absurd (nI_le h2 h3) c_3
    · exact absurd (nI_pos' (by omega)) c_2
  · exact absurd (nI_le h1 (by omega)) c_1
abbrev rm_J7_fill_fda19 : Room := { frames := 1, cells := 0, slots := 0, locals := 22 }
set_option maxHeartbeats 4000000 in
set_option maxRecDepth 100000 in
theorem lp_fill {X : gx_T} {D : va_G} {ad : Nat → Nat} {ct : Nat → ClassId} {F S : Nat} {σ : ph_S} {a b : Nat} (hF : F ≤ 16) (h2 : b ≤ 16 * F) (C : gC X cJ7_fill_fda19 5 RJ7 rm_J7_fill_fda19 none D (gt ct) (fun v w => v = none ∧ w = cw ad ct F S (ph_fA σ 0 (ph_fill (ph_A σ 0) a b 0)))) : ∀ d i : Nat, i + d = b → a ≤ i → gV X 0 0 (cw ad ct F S (ph_fA σ 0 (ph_fill (ph_A σ 0) a i 0))) 10 [(4, .int (nI i)), (0, .ref (ad 4)), (1, .int (nI a)), (2, .int (nI b)), (3, .int 0)] [] := by
  intro d
  induction d with
  | zero =>
    intro i hi hai
    have e : i = b := by omega
    subst e
    refine gV_iload (pc := 10) C dJ7_fill_fda19_10 0 rfl ?_
    refine gV_iload_n (pc := 12) C dJ7_fill_fda19_12 3 rfl rfl ?_
    refine gV_icmp_ge (pc := 13) C 27 dJ7_fill_fda19_13 (by decide) (fun c_1 => ?_) (fun c_1 => ?_)
    · skip
      refine gV_vret (pc := 27) C dJ7_fill_fda19_27 (by decide) (by decide) ?_
      exact ⟨rfl, rfl⟩
    · exact absurd (nI_le (Nat.le_refl i) (by omega)) c_1
  | succ d ih =>
    intro i hi hai
    refine gV_iload (pc := 10) C dJ7_fill_fda19_10 0 rfl ?_
    refine gV_iload_n (pc := 12) C dJ7_fill_fda19_12 3 rfl rfl ?_
    refine gV_icmp_ge (pc := 13) C 27 dJ7_fill_fda19_13 (by decide) (fun c_1 => ?_) (fun c_1 => ?_)
    · exact absurd c_1 (nI_ge (by omega) (by omega))
    · skip
      refine gV_aload_n (pc := 16) (x := ad 4) C dJ7_fill_fda19_16 1 rfl rfl ?_
      refine gV_iload (pc := 17) C dJ7_fill_fda19_17 0 rfl ?_
      refine gV_iload_n (pc := 19) C dJ7_fill_fda19_19 4 rfl rfl ?_
      refine cs_fw (pc := 20) C (vp_in_nI (by omega) (by omega)) dJ7_fill_fda19_20 ?_
      rw [nI_clamp (by omega)]
      refine gV_iinc (pc := 21) (v := nI (i + 1)) (lv' := [(4, .int (nI (i + 1))), (0, .ref (ad 4)), (1, .int (nI a)), (2, .int (nI b)), (3, .int 0)]) C dJ7_fill_fda19_21 0 rfl (nI_1 _) (by decide) rfl ?_
      refine gV_goto (pc := 24) C 10 dJ7_fill_fda19_24 (by decide) ?_
      rw [ph_fill_s _ _ _ _ _ hai]
      exact ih (i + 1) (by omega) (by omega)
set_option maxHeartbeats 4000000 in
set_option maxRecDepth 100000 in
/-- Arrays.fill over the frames' words, with 0 -/
theorem c_fill {D : va_G} {ad : Nat → Nat} {ct : Nat → ClassId} {F S : Nat} {σ : ph_S} {a b : Nat} (hF : F ≤ 16) (h1 : a ≤ b) (h2 : b ≤ 16 * F) : gM yJ7_fill_fda19 cJ7_fill_fda19 5 none rm_J7_fill_fda19 D (gt ct) (cw ad ct F S σ) [.ref (ad 4), .int (nI a), .int (nI b), .int 0] (fun v w => v = none ∧ w = cw ad ct F S (ph_fA σ 0 (ph_fill (ph_A σ 0) a b 0))) := by
  refine gM_in RJ7 rfl (by decide) (Nat.le_of_ble_eq_true rfl) (fun X C => ?_)
  refine gV_aload_n (pc := 0) (x := ad 4) C dJ7_fill_fda19_0 0 rfl rfl ?_
  refine cl_fw (pc := 1) C dJ7_fill_fda19_1 ?_
  refine gV_iload_n (pc := 2) C dJ7_fill_fda19_2 1 rfl rfl ?_
  refine gV_iload_n (pc := 3) C dJ7_fill_fda19_3 2 rfl rfl ?_
  refine gV_callS (pc := 4) (As := [.int (nI (16 * F)), .int (nI a), .int (nI b)]) (rest := []) C ml_J7_13 gy_J7_rangeCheck_23922 gs_J7_rangeCheck_23922 (c_rangeCheck (N := 16 * F) (a := a) (b := b) h1 h2 (by omega))  rfl rfl ⟨by decide, by decide⟩ (Nat.le_of_ble_eq_true rfl) (by decide) (by decide) dJ7_fill_fda19_4 ?_
  rintro _ _ ⟨rfl, rfl⟩
  refine gV_iload_n (pc := 7) C dJ7_fill_fda19_7 1 rfl rfl ?_
  refine gV_istore (pc := 8) (lv' := [(4, .int (nI a)), (0, .ref (ad 4)), (1, .int (nI a)), (2, .int (nI b)), (3, .int 0)]) C dJ7_fill_fda19_8 (by decide) rfl ?_
  have hh := lp_fill (a := a) hF h2 C (b - a) a (by omega) (Nat.le_refl a)
  rw [ph_fill_0, ph_fA_self] at hh
  exact hh
abbrev rm_X1_zero : Room := { frames := 2, cells := 0, slots := 0, locals := 46 }
set_option maxHeartbeats 4000000 in
set_option maxRecDepth 100000 in
/-- Rows.zero of a frame -/
theorem c_zero {D : va_G} {ad : Nat → Nat} {ct : Nat → ClassId} {F S : Nat} {σ : ph_S} {r : Nat} (hF : F ≤ 16) (hr : r < F) : gM yX1_zero cX1_zero 2 none rm_X1_zero D (gt ct) (cw ad ct F S σ) [.ref (ad 1), .int (nI r)] (fun v w => v = none ∧ w = cw ad ct F S (ph_zero F σ r)) := by
  refine gM_in RX1 rfl (by decide) (Nat.le_of_ble_eq_true rfl) (fun X C => ?_)
  refine gV_aload_n (pc := 0) (x := ad 1) C dX1_zero_0 0 rfl rfl ?_
  refine gV_iload_n (pc := 1) C dX1_zero_1 1 rfl rfl ?_
  refine gV_callV (pc := 2) (As := [.int (nI r)]) (rest := []) C ml_X1_21 gy_X1_has gv_X1_has (c_has1 _) ⟨1, 1, _, _, rfl, rfl, rfl⟩ rfl rfl ⟨by decide, by decide⟩ (Nat.le_of_ble_eq_true rfl) (by decide) (by decide) dX1_zero_2 ?_
  rintro _ _ ⟨rfl, rfl⟩
  refine gV_if_eq (pc := 5) C 26 dX1_zero_5 (by decide) (fun c_1 => ?_) (fun c_1 => ?_)
  · exact absurd c_1 (by rw [ph_has_t hr (by omega)]; decide)
  · skip
    refine gV_aload_n (pc := 8) (x := ad 1) C dX1_zero_8 0 rfl rfl ?_
    refine cg_words1 (pc := 9) C fl_X1_17 dX1_zero_9 ?_
    refine gV_iload_n (pc := 12) C dX1_zero_12 1 rfl rfl ?_
    refine gV_bipush (pc := 13) (v := 16) C dX1_zero_13 (by decide) ?_
    refine gV_imul (pc := 15) C dX1_zero_15 ?_
    rw [mul16]
    refine gV_iload_n (pc := 16) C dX1_zero_16 1 rfl rfl ?_
    refine gV_iconst (pc := 17) (v := 1) C dX1_zero_17 (by decide) ?_
    refine gV_iadd (pc := 18) C dX1_zero_18 ?_
    refine gV_bipush (pc := 19) (v := 16) C dX1_zero_19 (by decide) ?_
    refine gV_imul (pc := 21) C dX1_zero_21 ?_
    rw [show (nI r + 1) * 16 = nI (16 * r + 16) by rw [nI_1, mul16]; congr 1]
    refine gV_iconst (pc := 22) (v := 0) C dX1_zero_22 (by decide) ?_
    refine gV_callS (pc := 23) (As := [.ref (ad 4), .int (nI (16 * r)), .int (nI (16 * r + 16)), .int 0]) (rest := []) C ml_X1_25 gy_J7_fill_fda19 gs_J7_fill_fda19 (c_fill (a := 16 * r) (b := 16 * r + 16) (by omega) (by omega) (by omega))  rfl rfl ⟨by decide, by decide⟩ (Nat.le_of_ble_eq_true rfl) (by decide) (by decide) dX1_zero_23 ?_
    rintro _ _ ⟨rfl, rfl⟩
    refine gV_vret (pc := 26) C dX1_zero_26 (by decide) (by decide) ?_
    exact ⟨rfl, rfl⟩
abbrev rm_X1_copyWords : Room := { frames := 1, cells := 0, slots := 0, locals := 60 }
set_option maxHeartbeats 4000000 in
set_option maxRecDepth 100000 in
/-- Rows.copyWords -/
theorem c_copyWords11 {D : va_G} {ad : Nat → Nat} {ct : Nat → ClassId} {F S : Nat} {σ : ph_S} (row src : Int32) (hF : F ≤ 16) (hS : S ≤ 64) : gM yX1_copyWords cX1_copyWords 4 none rm_X1_copyWords D (gt ct) (cw ad ct F S σ) [.ref (ad 1), .int row, .ref (ad 1), .int src] (fun v w => v = none ∧ w = cw ad ct F S (ph_cpy F F 0 0 σ row src)) := by
  refine gM_in RX1 rfl (by decide) (Nat.le_of_ble_eq_true rfl) (fun X C => ?_)
  refine gV_aload_n (pc := 0) (x := ad 1) C dX1_copyWords_0 0 rfl rfl ?_
  refine gV_iload_n (pc := 1) C dX1_copyWords_1 1 rfl rfl ?_
  refine gV_callV (pc := 2) (As := [.int row]) (rest := []) C ml_X1_21 gy_X1_has gv_X1_has (c_has1 _) ⟨1, 1, _, _, rfl, rfl, rfl⟩ rfl rfl ⟨by decide, by decide⟩ (Nat.le_of_ble_eq_true rfl) (by decide) (by decide) dX1_copyWords_2 ?_
  rintro _ _ ⟨rfl, rfl⟩
  refine gV_if_eq (pc := 5) C 37 dX1_copyWords_5 (by decide) (fun c_1 => ?_) (fun c_1 => ?_)
  · skip
    refine gV_vret (pc := 37) C dX1_copyWords_37 (by decide) (by decide) ?_
    exact ⟨rfl, by rw [ph_cpy, if_pos c_1]; try rfl⟩
  · skip
    refine gV_aload_n (pc := 8) (x := ad 1) C dX1_copyWords_8 2 rfl rfl ?_
    refine gV_iload_n (pc := 9) C dX1_copyWords_9 3 rfl rfl ?_
    refine gV_callV (pc := 10) (As := [.int src]) (rest := []) C ml_X1_21 gy_X1_has gv_X1_has (c_has1 _) ⟨1, 1, _, _, rfl, rfl, rfl⟩ rfl rfl ⟨by decide, by decide⟩ (Nat.le_of_ble_eq_true rfl) (by decide) (by decide) dX1_copyWords_10 ?_
    rintro _ _ ⟨rfl, rfl⟩
    refine gV_if_eq (pc := 13) C 37 dX1_copyWords_13 (by decide) (fun c_2 => ?_) (fun c_2 => ?_)
    · skip
      refine gV_vret (pc := 37) C dX1_copyWords_37 (by decide) (by decide) ?_
      exact ⟨rfl, by rw [ph_cpy, if_neg c_1, if_pos c_2]; try rfl⟩
    · skip
      refine gV_aload_n (pc := 16) (x := ad 1) C dX1_copyWords_16 2 rfl rfl ?_
      refine cg_words1 (pc := 17) C fl_X1_17 dX1_copyWords_17 ?_
      refine gV_iload_n (pc := 20) C dX1_copyWords_20 3 rfl rfl ?_
      refine gV_bipush (pc := 21) (v := 16) C dX1_copyWords_21 (by decide) ?_
      refine gV_imul (pc := 23) C dX1_copyWords_23 ?_
      refine gV_aload_n (pc := 24) (x := ad 1) C dX1_copyWords_24 0 rfl rfl ?_
      refine cg_words1 (pc := 25) C fl_X1_17 dX1_copyWords_25 ?_
      refine gV_iload_n (pc := 28) C dX1_copyWords_28 1 rfl rfl ?_
      refine gV_bipush (pc := 29) (v := 16) C dX1_copyWords_29 (by decide) ?_
      refine gV_imul (pc := 31) C dX1_copyWords_31 ?_
      refine gV_bipush (pc := 32) (v := 16) C dX1_copyWords_32 (by decide) ?_
      obtain ⟨j1, hj1, rfl⟩ := ph_has_in c_1 (by omega)
      obtain ⟨j2, hj2, rfl⟩ := ph_has_in c_2 (by omega)
      have e1 : (nI j1 * 16).toNatClampNeg = 16 * j1 := by rw [mul16, nI_clamp (by omega)]
      have e2 : (nI j2 * 16).toNatClampNeg = 16 * j2 := by rw [mul16, nI_clamp (by omega)]
      have e3 : (16 : Int32).toNatClampNeg = 16 := by decide
      refine gV_copyi (pc := 34) C w_copy_l w_copy_n w_copy_s w_sys 4 4 0 0 rfl rfl rfl rfl (by rw [mul16]; exact nI_pos (by omega)) (by rw [mul16]; exact nI_pos (by omega)) (by decide) (by rw [e2, e3]; omega) (by rw [e1, e3]; omega) (by decide) (by decide) dX1_copyWords_34 ?_
      refine gV_vret (pc := 37) C dX1_copyWords_37 (by decide) (by decide) ?_
      exact ⟨rfl, by rw [ph_cpy, if_neg c_1, if_neg c_2]; try rfl⟩
set_option maxHeartbeats 4000000 in
set_option maxRecDepth 100000 in
/-- Rows.copyWords -/
theorem c_copyWords12 {D : va_G} {ad : Nat → Nat} {ct : Nat → ClassId} {F S : Nat} {σ : ph_S} (row src : Int32) (hF : F ≤ 16) (hS : S ≤ 64) : gM yX1_copyWords cX1_copyWords 4 none rm_X1_copyWords D (gt ct) (cw ad ct F S σ) [.ref (ad 1), .int row, .ref (ad 2), .int src] (fun v w => v = none ∧ w = cw ad ct F S (ph_cpy F S 0 1 σ row src)) := by
  refine gM_in RX1 rfl (by decide) (Nat.le_of_ble_eq_true rfl) (fun X C => ?_)
  refine gV_aload_n (pc := 0) (x := ad 1) C dX1_copyWords_0 0 rfl rfl ?_
  refine gV_iload_n (pc := 1) C dX1_copyWords_1 1 rfl rfl ?_
  refine gV_callV (pc := 2) (As := [.int row]) (rest := []) C ml_X1_21 gy_X1_has gv_X1_has (c_has1 _) ⟨1, 1, _, _, rfl, rfl, rfl⟩ rfl rfl ⟨by decide, by decide⟩ (Nat.le_of_ble_eq_true rfl) (by decide) (by decide) dX1_copyWords_2 ?_
  rintro _ _ ⟨rfl, rfl⟩
  refine gV_if_eq (pc := 5) C 37 dX1_copyWords_5 (by decide) (fun c_1 => ?_) (fun c_1 => ?_)
  · skip
    refine gV_vret (pc := 37) C dX1_copyWords_37 (by decide) (by decide) ?_
    exact ⟨rfl, by rw [ph_cpy, if_pos c_1]; try rfl⟩
  · skip
    refine gV_aload_n (pc := 8) (x := ad 2) C dX1_copyWords_8 2 rfl rfl ?_
    refine gV_iload_n (pc := 9) C dX1_copyWords_9 3 rfl rfl ?_
    refine gV_callV (pc := 10) (As := [.int src]) (rest := []) C ml_X1_21 gy_X1_has gv_X1_has (c_has2 _) ⟨2, 1, _, _, rfl, rfl, rfl⟩ rfl rfl ⟨by decide, by decide⟩ (Nat.le_of_ble_eq_true rfl) (by decide) (by decide) dX1_copyWords_10 ?_
    rintro _ _ ⟨rfl, rfl⟩
    refine gV_if_eq (pc := 13) C 37 dX1_copyWords_13 (by decide) (fun c_2 => ?_) (fun c_2 => ?_)
    · skip
      refine gV_vret (pc := 37) C dX1_copyWords_37 (by decide) (by decide) ?_
      exact ⟨rfl, by rw [ph_cpy, if_neg c_1, if_pos c_2]; try rfl⟩
    · skip
      refine gV_aload_n (pc := 16) (x := ad 2) C dX1_copyWords_16 2 rfl rfl ?_
      refine cg_words2 (pc := 17) C fl_X1_17 dX1_copyWords_17 ?_
      refine gV_iload_n (pc := 20) C dX1_copyWords_20 3 rfl rfl ?_
      refine gV_bipush (pc := 21) (v := 16) C dX1_copyWords_21 (by decide) ?_
      refine gV_imul (pc := 23) C dX1_copyWords_23 ?_
      refine gV_aload_n (pc := 24) (x := ad 1) C dX1_copyWords_24 0 rfl rfl ?_
      refine cg_words1 (pc := 25) C fl_X1_17 dX1_copyWords_25 ?_
      refine gV_iload_n (pc := 28) C dX1_copyWords_28 1 rfl rfl ?_
      refine gV_bipush (pc := 29) (v := 16) C dX1_copyWords_29 (by decide) ?_
      refine gV_imul (pc := 31) C dX1_copyWords_31 ?_
      refine gV_bipush (pc := 32) (v := 16) C dX1_copyWords_32 (by decide) ?_
      obtain ⟨j1, hj1, rfl⟩ := ph_has_in c_1 (by omega)
      obtain ⟨j2, hj2, rfl⟩ := ph_has_in c_2 (by omega)
      have e1 : (nI j1 * 16).toNatClampNeg = 16 * j1 := by rw [mul16, nI_clamp (by omega)]
      have e2 : (nI j2 * 16).toNatClampNeg = 16 * j2 := by rw [mul16, nI_clamp (by omega)]
      have e3 : (16 : Int32).toNatClampNeg = 16 := by decide
      refine gV_copyi (pc := 34) C w_copy_l w_copy_n w_copy_s w_sys 6 4 0 0 rfl rfl rfl rfl (by rw [mul16]; exact nI_pos (by omega)) (by rw [mul16]; exact nI_pos (by omega)) (by decide) (by rw [e2, e3]; omega) (by rw [e1, e3]; omega) (by decide) (by decide) dX1_copyWords_34 ?_
      refine gV_vret (pc := 37) C dX1_copyWords_37 (by decide) (by decide) ?_
      exact ⟨rfl, by rw [ph_cpy, if_neg c_1, if_neg c_2]; try rfl⟩
set_option maxHeartbeats 4000000 in
set_option maxRecDepth 100000 in
/-- Rows.copyWords -/
theorem c_copyWords21 {D : va_G} {ad : Nat → Nat} {ct : Nat → ClassId} {F S : Nat} {σ : ph_S} (row src : Int32) (hF : F ≤ 16) (hS : S ≤ 64) : gM yX1_copyWords cX1_copyWords 4 none rm_X1_copyWords D (gt ct) (cw ad ct F S σ) [.ref (ad 2), .int row, .ref (ad 1), .int src] (fun v w => v = none ∧ w = cw ad ct F S (ph_cpy S F 1 0 σ row src)) := by
  refine gM_in RX1 rfl (by decide) (Nat.le_of_ble_eq_true rfl) (fun X C => ?_)
  refine gV_aload_n (pc := 0) (x := ad 2) C dX1_copyWords_0 0 rfl rfl ?_
  refine gV_iload_n (pc := 1) C dX1_copyWords_1 1 rfl rfl ?_
  refine gV_callV (pc := 2) (As := [.int row]) (rest := []) C ml_X1_21 gy_X1_has gv_X1_has (c_has2 _) ⟨2, 1, _, _, rfl, rfl, rfl⟩ rfl rfl ⟨by decide, by decide⟩ (Nat.le_of_ble_eq_true rfl) (by decide) (by decide) dX1_copyWords_2 ?_
  rintro _ _ ⟨rfl, rfl⟩
  refine gV_if_eq (pc := 5) C 37 dX1_copyWords_5 (by decide) (fun c_1 => ?_) (fun c_1 => ?_)
  · skip
    refine gV_vret (pc := 37) C dX1_copyWords_37 (by decide) (by decide) ?_
    exact ⟨rfl, by rw [ph_cpy, if_pos c_1]; try rfl⟩
  · skip
    refine gV_aload_n (pc := 8) (x := ad 1) C dX1_copyWords_8 2 rfl rfl ?_
    refine gV_iload_n (pc := 9) C dX1_copyWords_9 3 rfl rfl ?_
    refine gV_callV (pc := 10) (As := [.int src]) (rest := []) C ml_X1_21 gy_X1_has gv_X1_has (c_has1 _) ⟨1, 1, _, _, rfl, rfl, rfl⟩ rfl rfl ⟨by decide, by decide⟩ (Nat.le_of_ble_eq_true rfl) (by decide) (by decide) dX1_copyWords_10 ?_
    rintro _ _ ⟨rfl, rfl⟩
    refine gV_if_eq (pc := 13) C 37 dX1_copyWords_13 (by decide) (fun c_2 => ?_) (fun c_2 => ?_)
    · skip
      refine gV_vret (pc := 37) C dX1_copyWords_37 (by decide) (by decide) ?_
      exact ⟨rfl, by rw [ph_cpy, if_neg c_1, if_pos c_2]; try rfl⟩
    · skip
      refine gV_aload_n (pc := 16) (x := ad 1) C dX1_copyWords_16 2 rfl rfl ?_
      refine cg_words1 (pc := 17) C fl_X1_17 dX1_copyWords_17 ?_
      refine gV_iload_n (pc := 20) C dX1_copyWords_20 3 rfl rfl ?_
      refine gV_bipush (pc := 21) (v := 16) C dX1_copyWords_21 (by decide) ?_
      refine gV_imul (pc := 23) C dX1_copyWords_23 ?_
      refine gV_aload_n (pc := 24) (x := ad 2) C dX1_copyWords_24 0 rfl rfl ?_
      refine cg_words2 (pc := 25) C fl_X1_17 dX1_copyWords_25 ?_
      refine gV_iload_n (pc := 28) C dX1_copyWords_28 1 rfl rfl ?_
      refine gV_bipush (pc := 29) (v := 16) C dX1_copyWords_29 (by decide) ?_
      refine gV_imul (pc := 31) C dX1_copyWords_31 ?_
      refine gV_bipush (pc := 32) (v := 16) C dX1_copyWords_32 (by decide) ?_
      obtain ⟨j1, hj1, rfl⟩ := ph_has_in c_1 (by omega)
      obtain ⟨j2, hj2, rfl⟩ := ph_has_in c_2 (by omega)
      have e1 : (nI j1 * 16).toNatClampNeg = 16 * j1 := by rw [mul16, nI_clamp (by omega)]
      have e2 : (nI j2 * 16).toNatClampNeg = 16 * j2 := by rw [mul16, nI_clamp (by omega)]
      have e3 : (16 : Int32).toNatClampNeg = 16 := by decide
      refine gV_copyi (pc := 34) C w_copy_l w_copy_n w_copy_s w_sys 4 6 0 0 rfl rfl rfl rfl (by rw [mul16]; exact nI_pos (by omega)) (by rw [mul16]; exact nI_pos (by omega)) (by decide) (by rw [e2, e3]; omega) (by rw [e1, e3]; omega) (by decide) (by decide) dX1_copyWords_34 ?_
      refine gV_vret (pc := 37) C dX1_copyWords_37 (by decide) (by decide) ?_
      exact ⟨rfl, by rw [ph_cpy, if_neg c_1, if_neg c_2]; try rfl⟩
end
section
theorem has_vin {N : Nat} {r : Int32} (h : ¬ ph_has N r = 0) (hN : N < 2 ^ 31) : vp_in r N := by
  obtain ⟨j, hj, e⟩ := ph_has_in h hN
  rw [e]
  exact vp_in_nI hj hN
def ph_lay (σ : ph_S) (a f : Nat) : ph_S := ph_sR (ph_sB σ 1 a (nI f)) 0 f (some a)
def ph_st4 (σ : ph_S) (a : Nat) : ph_S := ph_sI (ph_sB σ 4 a 0) 4 (ph_I (ph_sB σ 4 a 0) 4 + 1)
def ph_st3 (F S : Nat) (σ : ph_S) (a : Nat) (s : Int32) : ph_S := ph_st4 (ph_cpy S F 1 0 σ s (ph_B σ 1 a)) a
def ph_st2 (F S : Nat) (σ : ph_S) (a : Nat) (s : Int32) : ph_S := if ph_has S s = 0 then σ else ph_st3 F S (ph_sR (ph_sB σ 2 a s) 1 s.toNatClampNeg (some a)) a s
def ph_st (F S : Nat) (σ : ph_S) (a : Nat) : ph_S := if ph_B σ 2 a = -1 then ph_st2 F S σ a (ph_lf (ph_R σ 1) S) else ph_st2 F S σ a (ph_B σ 2 a)
theorem ph_st2_L (F S : Nat) (σ : ph_S) (a : Nat) (s : Int32) : ph_L (ph_st2 F S σ a s) = ph_L σ := by
  unfold ph_st2; split
  · rfl
  · show ph_L (ph_cpy _ _ _ _ _ _ _) = _
    rw [ph_cpy_L]; rfl
theorem ph_st_L (F S : Nat) (σ : ph_S) (a : Nat) : ph_L (ph_st F S σ a) = ph_L σ := by
  unfold ph_st; split <;> rw [ph_st2_L]
theorem ok_lay {F S : Nat} {σ : ph_S} {a f : Nat} (h : ph_ok F S σ) (ha : a ∈ ph_L σ) (hf : f < F) : ph_ok F S (ph_lay σ a f) := ok_sR (ok_fr h a (Or.inr ⟨f, hf, rfl⟩)) 0 f ha
theorem ok_st2 {F S : Nat} {σ : ph_S} {a : Nat} {s : Int32} (h : ph_ok F S σ) (ha : a ∈ ph_L σ) : ph_ok F S (ph_st2 F S σ a s) := by
  unfold ph_st2; split
  · exact h
  · rename_i hh
    have hS := h.S64
    have h1 := ok_se h a (Or.inr (ph_has_in hh (by omega)))
    have h2 := ok_sR h1 1 s.toNatClampNeg ha
    exact ok_sI (ok_di (ok_cpy h2 (by decide)) a (Or.inl rfl)) _ (by decide)
theorem ok_st {F S : Nat} {σ : ph_S} {a : Nat} (h : ph_ok F S σ) (ha : a ∈ ph_L σ) : ph_ok F S (ph_st F S σ a) := by
  unfold ph_st; split <;> exact ok_st2 h ha
def ph_vac2 (σ : ph_S) (a : Nat) (f : Int32) : ph_S := ph_sR (ph_sB σ 1 a (-1)) 0 f.toNatClampNeg none
def ph_vac (F S : Nat) (σ : ph_S) (f : Int32) : ph_S := match ph_R σ 0 f.toNatClampNeg with
  | none => σ
  | some a => if ph_B σ 4 a = 0 then ph_vac2 σ a f else ph_vac2 (ph_st F S σ a) a f
theorem ph_vac_L (F S : Nat) (σ : ph_S) (f : Int32) : ph_L (ph_vac F S σ f) = ph_L σ := by
  unfold ph_vac; split
  · rfl
  · split
    · rfl
    · show ph_L (ph_st _ _ _ _) = _
      rw [ph_st_L]
theorem ok_vac {F S : Nat} {σ : ph_S} {f : Int32} (h : ph_ok F S σ) : ph_ok F S (ph_vac F S σ f) := by
  unfold ph_vac; split
  · exact h
  · rename_i a e
    have ha := h.refs _ _ _ e
    split
    · exact ok_sRn (ok_fr h a (Or.inl rfl)) 0 _
    · exact ok_sRn (ok_fr (ok_st h ha) a (Or.inl rfl)) 0 _
def ph_scS (F : Nat) (σ : ph_S) : ph_S := ph_sI σ 0 (ph_bh F (ph_I σ 0))
def ph_scG (F : Nat) (kept : Int32) : Nat → ph_S → ph_S
  | 0, σ => σ
  | p + 1, σ => if ph_I σ 0 = kept then ph_scG F kept p (ph_scS F σ) else if ph_A σ 2 (ph_I σ 0).toNatClampNeg = 0 then σ else ph_scG F kept p (ph_scS F (ph_sA σ 2 (ph_I σ 0).toNatClampNeg 0))
def ph_scT (F : Nat) (kept : Int32) (σ : ph_S) : ph_S := ph_scG F kept (2 * F) σ
def ph_scE (F : Nat) (kept : Int32) (σ : ph_S) : ph_S := ph_scS F (ph_scT F kept σ)
theorem bh_in {F j : Nat} (hj : j < F) (hF : F ≤ 16) : ∃ i, i < F ∧ ph_bh F (nI j) = nI i := by
  unfold ph_bh
  rw [nI_1]
  split
  · exact ⟨0, by omega, rfl⟩
  · rename_i h
    exact ⟨j + 1, Nat.lt_of_not_le fun z => h (nI_le z (by omega)), rfl⟩
theorem ok_scS {F S : Nat} {σ : ph_S} (h : ph_ok F S σ) : ph_ok F S (ph_scS F σ) := by
  obtain ⟨j, hj, e⟩ := h.hand
  refine ok_hand h ?_
  rw [e]
  exact bh_in hj h.F16
theorem ok_scG {F S : Nat} {kept : Int32} : ∀ (p : Nat) {σ : ph_S}, ph_ok F S σ → ph_ok F S (ph_scG F kept p σ)
  | 0, _, h => h
  | p + 1, σ, h => by
    unfold ph_scG; split
    · exact ok_scG p (ok_scS h)
    · split
      · exact h
      · exact ok_scG p (ok_scS (ok_us h _ (Or.inl rfl)))
theorem ph_scG_L {F : Nat} {kept : Int32} : ∀ (p : Nat) (σ : ph_S), ph_L (ph_scG F kept p σ) = ph_L σ
  | 0, _ => rfl
  | p + 1, σ => by
    unfold ph_scG; split
    · rw [ph_scG_L]; rfl
    · split
      · rfl
      · rw [ph_scG_L]; rfl
theorem ok_scT {F S : Nat} {kept : Int32} {σ : ph_S} (h : ph_ok F S σ) : ph_ok F S (ph_scT F kept σ) := ok_scG _ h
theorem ok_scE {F S : Nat} {kept : Int32} {σ : ph_S} (h : ph_ok F S σ) : ph_ok F S (ph_scE F kept σ) := ok_scS (ok_scG _ h)
theorem ph_scE_L (F : Nat) (kept : Int32) (σ : ph_S) : ph_L (ph_scE F kept σ) = ph_L σ := ph_scG_L _ _
def ph_tk1 (σ : ph_S) : ph_S := ph_sI σ 2 (ph_I σ 2 + 1)
def ph_tkF (F S : Nat) (kept : Int32) (σ : ph_S) : Int32 := if ph_lf (ph_R σ 0) F = -1 then ph_I (ph_scT F kept σ) 0 else ph_lf (ph_R σ 0) F
def ph_tkN (F S : Nat) (kept : Int32) (σ : ph_S) : Nat := (ph_tkF F S kept σ).toNatClampNeg
def ph_tkS (F S : Nat) (kept : Int32) (σ : ph_S) : ph_S := if ph_lf (ph_R σ 0) F = -1 then ph_tk1 (ph_vac F S (ph_scE F kept σ) (ph_I (ph_scT F kept σ) 0)) else ph_tk1 σ
theorem ph_tkS_L (F S : Nat) (kept : Int32) (σ : ph_S) : ph_L (ph_tkS F S kept σ) = ph_L σ := by
  unfold ph_tkS; split
  · show ph_L (ph_vac _ _ _ _) = _
    rw [ph_vac_L, ph_scE_L]
  · rfl
theorem lfG_in (f : Nat → Option Nat) : ∀ d i, ph_lfG f d i = -1 ∨ ∃ j, j < i + d ∧ ph_lfG f d i = nI j
  | 0, _ => Or.inl rfl
  | d + 1, i => by
    unfold ph_lfG; split
    · exact Or.inr ⟨i, by omega, rfl⟩
    · rcases lfG_in f d (i + 1) with h | ⟨j, hj, h⟩
      · exact Or.inl h
      · exact Or.inr ⟨j, by omega, h⟩
theorem lf_in (f : Nat → Option Nat) (N : Nat) : ph_lf f N = -1 ∨ ∃ j, j < N ∧ ph_lf f N = nI j := by
  have := lfG_in f N 0
  rw [Nat.zero_add] at this
  exact this
theorem tkF_in {F S : Nat} {kept : Int32} {σ : ph_S} (h : ph_ok F S σ) : ∃ j, j < F ∧ ph_tkF F S kept σ = nI j := by
  unfold ph_tkF; split
  · exact (ok_scT h).hand
  · rename_i hh
    rcases lf_in (ph_R σ 0) F with h1 | h1
    · exact absurd h1 hh
    · exact h1
theorem tkN_lt {F S : Nat} {kept : Int32} {σ : ph_S} (h : ph_ok F S σ) : ph_tkN F S kept σ < F := by
  obtain ⟨j, hj, e⟩ := tkF_in (kept := kept) h
  have := h.F16
  unfold ph_tkN
  rw [e, nI_clamp (by omega)]; exact hj
theorem tkN_eq {F S : Nat} {kept : Int32} {σ : ph_S} (h : ph_ok F S σ) : nI (ph_tkN F S kept σ) = ph_tkF F S kept σ := by
  obtain ⟨j, hj, e⟩ := tkF_in (kept := kept) h
  have := h.F16
  unfold ph_tkN
  rw [e, nI_clamp (by omega)]
theorem ok_tkS {F S : Nat} {kept : Int32} {σ : ph_S} (h : ph_ok F S σ) : ph_ok F S (ph_tkS F S kept σ) := by
  unfold ph_tkS; split
  · exact ok_sI (ok_vac (ok_scE h)) _ (by decide)
  · exact ok_sI h _ (by decide)
def ph_br2 (σ : ph_S) : ph_S := ph_sI σ 3 (ph_I σ 3 + 1)
def ph_br (F S : Nat) (σ : ph_S) (a f : Nat) : ph_S := ph_br2 (ph_cpy F S 0 1 (ph_lay σ a f) (nI f) (ph_B (ph_lay σ a f) 2 a))
theorem ph_br_L (F S : Nat) (σ : ph_S) (a f : Nat) : ph_L (ph_br F S σ a f) = ph_L σ := by
  show ph_L (ph_cpy _ _ _ _ _ _ _) = _
  rw [ph_cpy_L]; rfl
theorem ok_br {F S : Nat} {σ : ph_S} {a f : Nat} (h : ph_ok F S σ) (ha : a ∈ ph_L σ) (hf : f < F) : ph_ok F S (ph_br F S σ a f) := ok_sI (ok_cpy (ok_lay h ha hf) (by decide)) _ (by decide)
def ph_rel2 (S : Nat) (σ : ph_S) (a : Nat) : ph_S := if ph_has S (ph_B σ 2 a) = 0 then σ else ph_sR σ 1 (ph_B σ 2 a).toNatClampNeg none
def ph_rel1 (σ : ph_S) (a : Nat) : ph_S := ph_sA (ph_sR σ 0 (ph_B σ 1 a).toNatClampNeg none) 2 (ph_B σ 1 a).toNatClampNeg 0
def ph_rel (F S : Nat) (σ : ph_S) (a : Nat) : ph_S := if ph_has F (ph_B σ 1 a) = 0 then ph_rel2 S σ a else ph_rel2 S (ph_rel1 σ a) a
theorem ph_rel2_L (S : Nat) (σ : ph_S) (a : Nat) : ph_L (ph_rel2 S σ a) = ph_L σ := by
  unfold ph_rel2; split <;> rfl
theorem ph_rel_L (F S : Nat) (σ : ph_S) (a : Nat) : ph_L (ph_rel F S σ a) = ph_L σ := by
  unfold ph_rel; split <;> rw [ph_rel2_L]; rfl
theorem ok_rel2 {F S : Nat} {σ : ph_S} {a : Nat} (h : ph_ok F S σ) : ph_ok F S (ph_rel2 S σ a) := by
  unfold ph_rel2; split
  · exact h
  · exact ok_sRn h _ _
theorem ok_rel {F S : Nat} {σ : ph_S} {a : Nat} (h : ph_ok F S σ) : ph_ok F S (ph_rel F S σ a) := by
  unfold ph_rel; split
  · exact ok_rel2 h
  · exact ok_rel2 (ok_us (ok_sRn h _ _) _ (Or.inl rfl))
def ph_em2 (F S : Nat) (σ : ph_S) (a : Nat) : ph_S := if ph_B σ 3 a = 0 then ph_rel F S σ a else σ
def ph_em1 (σ : ph_S) (s a : Nat) : ph_S := ph_sB (ph_sR σ 2 s none) 3 a (ph_B (ph_sR σ 2 s none) 3 a - 1)
def ph_em (F S : Nat) (σ : ph_S) (s : Nat) : ph_S := match ph_R σ 2 s with
  | none => σ
  | some a => ph_em2 F S (ph_em1 σ s a) a
def ph_emV (σ : ph_S) (s : Nat) : Int32 := match ph_R σ 2 s with
  | none => 0
  | some _ => 1
theorem ph_em_L (F S : Nat) (σ : ph_S) (s : Nat) : ph_L (ph_em F S σ s) = ph_L σ := by
  unfold ph_em; split
  · rfl
  · unfold ph_em2; split
    · rw [ph_rel_L]; rfl
    · rfl
theorem ok_em {F S : Nat} {σ : ph_S} {s : Nat} (h : ph_ok F S σ) : ph_ok F S (ph_em F S σ s) := by
  unfold ph_em; split
  · exact h
  · unfold ph_em2; split
    · exact ok_rel (ok_ho (ok_sRn h _ _) _ _)
    · exact ok_ho (ok_sRn h _ _) _ _
abbrev rm_X2_lay : Room := { frames := 0, cells := 0, slots := 0, locals := 0 }
set_option maxHeartbeats 4000000 in
set_option maxRecDepth 100000 in
/-- lay -/
theorem c_lay {D : va_G} {ad : Nat → Nat} {ct : Nat → ClassId} {F S : Nat} {σ : ph_S} {a f : Nat} (m_a : a ∈ ph_L σ) (hf : f < F) (hF : F ≤ 16) : gM yX2_lay cX2_lay 3 none rm_X2_lay D (gt ct) (cw ad ct F S σ) [.ref (ad 0), .ref a, .int (nI f)] (fun v w => v = none ∧ w = cw ad ct F S (ph_lay σ a f)) := by
  refine gM_in RX2 rfl (by decide) (Nat.le_of_ble_eq_true rfl) (fun X C => ?_)
  refine gV_aload_n (pc := 0) (x := a) C dX2_lay_0 1 rfl rfl ?_
  refine gV_iload_n (pc := 1) C dX2_lay_1 2 rfl rfl ?_
  refine cp_b_frame (pc := 2) (σ := σ) C m_a fl_X2_76 dX2_lay_2 ?_
  refine gV_aload_n (pc := 5) (x := ad 0) C dX2_lay_5 0 rfl rfl ?_
  refine cg_frames (pc := 6) C fl_X2_23 dX2_lay_6 ?_
  refine cg_content1 (pc := 9) C fl_X2_111 dX2_lay_9 ?_
  refine gV_iload_n (pc := 12) C dX2_lay_12 2 rfl rfl ?_
  refine gV_aload_n (pc := 13) (x := a) C dX2_lay_13 1 rfl rfl ?_
  refine cs_fc (pc := 14) (σ := ph_sB σ 1 a (nI f)) C m_a (vp_in_nI (by omega) (by omega)) dX2_lay_14 ?_
  rw [nI_clamp (by omega)]
  refine gV_vret (pc := 15) C dX2_lay_15 (by decide) (by decide) ?_
  exact ⟨rfl, rfl⟩
abbrev rm_X2_store : Room := { frames := 2, cells := 0, slots := 0, locals := 83 }
set_option maxHeartbeats 4000000 in
set_option maxRecDepth 100000 in
/-- store -/
theorem c_store {D : va_G} {ad : Nat → Nat} {ct : Nat → ClassId} {F S : Nat} {σ : ph_S} {a : Nat} (hok : ph_ok F S σ) (m_a : a ∈ ph_L σ) : gM yX2_store cX2_store 3 none rm_X2_store D (gt ct) (cw ad ct F S σ) [.ref (ad 0), .ref a] (fun v w => v = none ∧ w = cw ad ct F S (ph_st F S σ a)) := by
  refine gM_in RX2 rfl (by decide) (Nat.le_of_ble_eq_true rfl) (fun X C => ?_)
  have hF := hok.F16
  have hS := hok.S64
  refine gV_aload_n (pc := 0) (x := a) C dX2_store_0 1 rfl rfl ?_
  refine cg_b_sector (pc := 1) (σ := σ) C m_a fl_X2_118 dX2_store_1 ?_
  refine gV_iconst (pc := 4) (v := (-1)) C dX2_store_4 (by decide) ?_
  refine gV_icmp_eq (pc := 5) C 15 dX2_store_5 (by decide) (fun c_1 => ?_) (fun c_1 => ?_)
  · skip
    refine gV_aload_n (pc := 15) (x := ad 0) C dX2_store_15 0 rfl rfl ?_
    refine cg_sectors (pc := 16) C fl_X2_27 dX2_store_16 ?_
    refine gV_callV (pc := 19) (As := []) (rest := []) C ml_X2_186 gy_X1_leastFree gv_X1_leastFree (c_leastFree2 (by omega)) ⟨2, 1, _, _, rfl, rfl, rfl⟩ rfl rfl ⟨by decide, by decide⟩ (Nat.le_of_ble_eq_true rfl) (by decide) (by decide) dX2_store_19 ?_
    rintro _ _ ⟨rfl, rfl⟩
    refine gV_istore_n (pc := 22) (lv' := [(2, .int (ph_lf (ph_R σ 1) S)), (0, .ref (ad 0)), (1, .ref a)]) C dX2_store_22 rfl (by decide) rfl ?_
    refine gV_aload_n (pc := 23) (x := ad 0) C dX2_store_23 1 rfl rfl ?_
    refine cg_sectors (pc := 24) C fl_X2_27 dX2_store_24 ?_
    refine gV_iload_n (pc := 27) C dX2_store_27 0 rfl rfl ?_
    refine gV_callV (pc := 28) (As := [.int (ph_lf (ph_R σ 1) S)]) (rest := []) C ml_X2_121 gy_X1_has gv_X1_has (c_has2 _) ⟨2, 1, _, _, rfl, rfl, rfl⟩ rfl rfl ⟨by decide, by decide⟩ (Nat.le_of_ble_eq_true rfl) (by decide) (by decide) dX2_store_28 ?_
    rintro _ _ ⟨rfl, rfl⟩
    refine gV_if_ne (pc := 31) C 35 dX2_store_31 (by decide) (fun c_2 => ?_) (fun c_2 => ?_)
    · skip
      refine gV_aload_n (pc := 35) (x := a) C dX2_store_35 2 rfl rfl ?_
      refine gV_iload_n (pc := 36) C dX2_store_36 0 rfl rfl ?_
      refine cp_b_sector (pc := 37) (σ := σ) C m_a fl_X2_118 dX2_store_37 ?_
      refine gV_aload_n (pc := 40) (x := ad 0) C dX2_store_40 1 rfl rfl ?_
      refine cg_sectors (pc := 41) C fl_X2_27 dX2_store_41 ?_
      refine cg_content2 (pc := 44) C fl_X2_111 dX2_store_44 ?_
      refine gV_iload_n (pc := 47) C dX2_store_47 0 rfl rfl ?_
      refine gV_aload_n (pc := 48) (x := a) C dX2_store_48 2 rfl rfl ?_
      refine cs_sc (pc := 49) (σ := ph_sB σ 2 a (ph_lf (ph_R σ 1) S)) C m_a (has_vin c_2 (by omega)) dX2_store_49 ?_
      refine gV_aload_n (pc := 50) (x := ad 0) C dX2_store_50 1 rfl rfl ?_
      refine cg_sectors (pc := 51) C fl_X2_27 dX2_store_51 ?_
      refine gV_iload_n (pc := 54) C dX2_store_54 0 rfl rfl ?_
      refine gV_aload_n (pc := 55) (x := ad 0) C dX2_store_55 1 rfl rfl ?_
      refine cg_frames (pc := 56) C fl_X2_23 dX2_store_56 ?_
      refine gV_aload_n (pc := 59) (x := a) C dX2_store_59 2 rfl rfl ?_
      refine cg_b_frame (pc := 60) (σ := ph_sR (ph_sB σ 2 a (ph_lf (ph_R σ 1) S)) 1 ((ph_lf (ph_R σ 1) S).toNatClampNeg) (some a)) C m_a fl_X2_76 dX2_store_60 ?_
      refine gV_callV (pc := 63) (As := [.int (ph_lf (ph_R σ 1) S), .ref (ad 1), .int (ph_B (ph_sR (ph_sB σ 2 a (ph_lf (ph_R σ 1) S)) 1 ((ph_lf (ph_R σ 1) S).toNatClampNeg) (some a)) 1 a)]) (rest := []) C ml_X2_182 gy_X1_copyWords gv_X1_copyWords (c_copyWords21 _ _ (by omega) (by omega)) ⟨2, 1, _, _, rfl, rfl, rfl⟩ rfl rfl ⟨by decide, by decide⟩ (Nat.le_of_ble_eq_true rfl) (by decide) (by decide) dX2_store_63 ?_
      rintro _ _ ⟨rfl, rfl⟩
      have m_3 : a ∈ ph_L (ph_cpy S F 1 0 (ph_sR (ph_sB σ 2 a (ph_lf (ph_R σ 1) S)) 1 ((ph_lf (ph_R σ 1) S).toNatClampNeg) (some a)) (ph_lf (ph_R σ 1) S) (ph_B (ph_sR (ph_sB σ 2 a (ph_lf (ph_R σ 1) S)) 1 ((ph_lf (ph_R σ 1) S).toNatClampNeg) (some a)) 1 a)) := by rw [ph_cpy_L]; exact m_a
      refine gV_aload_n (pc := 66) (x := a) C dX2_store_66 2 rfl rfl ?_
      refine gV_iconst (pc := 67) (v := 0) C dX2_store_67 (by decide) ?_
      refine cp_b_dirty (pc := 68) (σ := ph_cpy S F 1 0 (ph_sR (ph_sB σ 2 a (ph_lf (ph_R σ 1) S)) 1 ((ph_lf (ph_R σ 1) S).toNatClampNeg) (some a)) (ph_lf (ph_R σ 1) S) (ph_B (ph_sR (ph_sB σ 2 a (ph_lf (ph_R σ 1) S)) 1 ((ph_lf (ph_R σ 1) S).toNatClampNeg) (some a)) 1 a)) C m_3 fl_X2_97 (by decide) dX2_store_68 ?_
      refine gV_aload_n (pc := 71) (x := ad 0) C dX2_store_71 1 rfl rfl ?_
      refine gV_dup (pc := 72) C dX2_store_72 rfl ?_
      refine cg_storings (pc := 73) C fl_X2_155 dX2_store_73 ?_
      refine gV_iconst (pc := 76) (v := 1) C dX2_store_76 (by decide) ?_
      refine gV_iadd (pc := 77) C dX2_store_77 ?_
      refine cp_storings (pc := 78) C fl_X2_155 dX2_store_78 ?_
      refine gV_vret (pc := 81) C dX2_store_81 (by decide) (by decide) ?_
      exact ⟨rfl, by rw [ph_st, if_pos c_1, ph_st2, if_neg c_2]; try rfl⟩
    · skip
      refine gV_vret (pc := 34) C dX2_store_34 (by decide) (by decide) ?_
      exact ⟨rfl, by rw [ph_st, if_pos c_1, ph_st2, if_pos c_2]; try rfl⟩
  · skip
    refine gV_aload_n (pc := 8) (x := a) C dX2_store_8 1 rfl rfl ?_
    refine cg_b_sector (pc := 9) (σ := σ) C m_a fl_X2_118 dX2_store_9 ?_
    refine gV_goto (pc := 12) C 22 dX2_store_12 (by decide) ?_
    refine gV_istore_n (pc := 22) (lv' := [(2, .int (ph_B σ 2 a)), (0, .ref (ad 0)), (1, .ref a)]) C dX2_store_22 rfl (by decide) rfl ?_
    refine gV_aload_n (pc := 23) (x := ad 0) C dX2_store_23 1 rfl rfl ?_
    refine cg_sectors (pc := 24) C fl_X2_27 dX2_store_24 ?_
    refine gV_iload_n (pc := 27) C dX2_store_27 0 rfl rfl ?_
    refine gV_callV (pc := 28) (As := [.int (ph_B σ 2 a)]) (rest := []) C ml_X2_121 gy_X1_has gv_X1_has (c_has2 _) ⟨2, 1, _, _, rfl, rfl, rfl⟩ rfl rfl ⟨by decide, by decide⟩ (Nat.le_of_ble_eq_true rfl) (by decide) (by decide) dX2_store_28 ?_
    rintro _ _ ⟨rfl, rfl⟩
    refine gV_if_ne (pc := 31) C 35 dX2_store_31 (by decide) (fun c_4 => ?_) (fun c_4 => ?_)
    · skip
      refine gV_aload_n (pc := 35) (x := a) C dX2_store_35 2 rfl rfl ?_
      refine gV_iload_n (pc := 36) C dX2_store_36 0 rfl rfl ?_
      refine cp_b_sector (pc := 37) (σ := σ) C m_a fl_X2_118 dX2_store_37 ?_
      refine gV_aload_n (pc := 40) (x := ad 0) C dX2_store_40 1 rfl rfl ?_
      refine cg_sectors (pc := 41) C fl_X2_27 dX2_store_41 ?_
      refine cg_content2 (pc := 44) C fl_X2_111 dX2_store_44 ?_
      refine gV_iload_n (pc := 47) C dX2_store_47 0 rfl rfl ?_
      refine gV_aload_n (pc := 48) (x := a) C dX2_store_48 2 rfl rfl ?_
      refine cs_sc (pc := 49) (σ := ph_sB σ 2 a (ph_B σ 2 a)) C m_a (has_vin c_4 (by omega)) dX2_store_49 ?_
      refine gV_aload_n (pc := 50) (x := ad 0) C dX2_store_50 1 rfl rfl ?_
      refine cg_sectors (pc := 51) C fl_X2_27 dX2_store_51 ?_
      refine gV_iload_n (pc := 54) C dX2_store_54 0 rfl rfl ?_
      refine gV_aload_n (pc := 55) (x := ad 0) C dX2_store_55 1 rfl rfl ?_
      refine cg_frames (pc := 56) C fl_X2_23 dX2_store_56 ?_
      refine gV_aload_n (pc := 59) (x := a) C dX2_store_59 2 rfl rfl ?_
      refine cg_b_frame (pc := 60) (σ := ph_sR (ph_sB σ 2 a (ph_B σ 2 a)) 1 ((ph_B σ 2 a).toNatClampNeg) (some a)) C m_a fl_X2_76 dX2_store_60 ?_
      refine gV_callV (pc := 63) (As := [.int (ph_B σ 2 a), .ref (ad 1), .int (ph_B (ph_sR (ph_sB σ 2 a (ph_B σ 2 a)) 1 ((ph_B σ 2 a).toNatClampNeg) (some a)) 1 a)]) (rest := []) C ml_X2_182 gy_X1_copyWords gv_X1_copyWords (c_copyWords21 _ _ (by omega) (by omega)) ⟨2, 1, _, _, rfl, rfl, rfl⟩ rfl rfl ⟨by decide, by decide⟩ (Nat.le_of_ble_eq_true rfl) (by decide) (by decide) dX2_store_63 ?_
      rintro _ _ ⟨rfl, rfl⟩
      have m_5 : a ∈ ph_L (ph_cpy S F 1 0 (ph_sR (ph_sB σ 2 a (ph_B σ 2 a)) 1 ((ph_B σ 2 a).toNatClampNeg) (some a)) (ph_B σ 2 a) (ph_B (ph_sR (ph_sB σ 2 a (ph_B σ 2 a)) 1 ((ph_B σ 2 a).toNatClampNeg) (some a)) 1 a)) := by rw [ph_cpy_L]; exact m_a
      refine gV_aload_n (pc := 66) (x := a) C dX2_store_66 2 rfl rfl ?_
      refine gV_iconst (pc := 67) (v := 0) C dX2_store_67 (by decide) ?_
      refine cp_b_dirty (pc := 68) (σ := ph_cpy S F 1 0 (ph_sR (ph_sB σ 2 a (ph_B σ 2 a)) 1 ((ph_B σ 2 a).toNatClampNeg) (some a)) (ph_B σ 2 a) (ph_B (ph_sR (ph_sB σ 2 a (ph_B σ 2 a)) 1 ((ph_B σ 2 a).toNatClampNeg) (some a)) 1 a)) C m_5 fl_X2_97 (by decide) dX2_store_68 ?_
      refine gV_aload_n (pc := 71) (x := ad 0) C dX2_store_71 1 rfl rfl ?_
      refine gV_dup (pc := 72) C dX2_store_72 rfl ?_
      refine cg_storings (pc := 73) C fl_X2_155 dX2_store_73 ?_
      refine gV_iconst (pc := 76) (v := 1) C dX2_store_76 (by decide) ?_
      refine gV_iadd (pc := 77) C dX2_store_77 ?_
      refine cp_storings (pc := 78) C fl_X2_155 dX2_store_78 ?_
      refine gV_vret (pc := 81) C dX2_store_81 (by decide) (by decide) ?_
      exact ⟨rfl, by rw [ph_st, if_neg c_1, ph_st2, if_neg c_4]; try rfl⟩
    · skip
      refine gV_vret (pc := 34) C dX2_store_34 (by decide) (by decide) ?_
      exact ⟨rfl, by rw [ph_st, if_neg c_1, ph_st2, if_pos c_4]; try rfl⟩
abbrev rm_X2_vacate : Room := { frames := 3, cells := 0, slots := 0, locals := 105 }
set_option maxHeartbeats 4000000 in
set_option maxRecDepth 100000 in
/-- vacate -/
theorem c_vacate {D : va_G} {ad : Nat → Nat} {ct : Nat → ClassId} {F S : Nat} {σ : ph_S} {f : Int32} (hok : ph_ok F S σ) (hf : vp_in f F) : gM yX2_vacate cX2_vacate 3 none rm_X2_vacate D (gt ct) (cw ad ct F S σ) [.ref (ad 0), .int f] (fun v w => v = none ∧ w = cw ad ct F S (ph_vac F S σ f)) := by
  refine gM_in RX2 rfl (by decide) (Nat.le_of_ble_eq_true rfl) (fun X C => ?_)
  have hF := hok.F16
  have hS := hok.S64
  refine gV_aload_n (pc := 0) (x := ad 0) C dX2_vacate_0 0 rfl rfl ?_
  refine cg_frames (pc := 1) C fl_X2_23 dX2_vacate_1 ?_
  refine cg_content1 (pc := 4) C fl_X2_111 dX2_vacate_4 ?_
  refine gV_iload_n (pc := 7) C dX2_vacate_7 1 rfl rfl ?_
  refine ca_fc (pc := 8) C hf dX2_vacate_8 ?_
  cases er_1 : ph_R σ 0 f.toNatClampNeg with
  | none =>
    refine gV_astoreq_n (pc := 9) (r := none) (lv' := [(2, .null), (0, .ref (ad 0)), (1, .int f)]) C dX2_vacate_9 rfl (by decide) rfl ?_
    refine gV_aloadq_n (pc := 10) (r := none) C dX2_vacate_10 0 rfl rfl ?_
    refine gV_ifnonnull (pc := 11) (r := none) C 15 dX2_vacate_11 (by decide) (fun _ h => nomatch h) (fun _ => ?_)
    refine gV_vret (pc := 14) C dX2_vacate_14 (by decide) (by decide) ?_
    exact ⟨rfl, by simp only [ph_vac, er_1]; try rfl⟩
  | some a_1 =>
    have m_1 : a_1 ∈ ph_L σ := hok.refs _ _ _ er_1
    refine gV_astore_n (pc := 9) (x := a_1) (lv' := [(2, .ref a_1), (0, .ref (ad 0)), (1, .int f)]) C dX2_vacate_9 rfl (by decide) rfl ?_
    refine gV_aload_n (pc := 10) (x := a_1) C dX2_vacate_10 0 rfl rfl ?_
    refine gV_ifnonnull (pc := 11) (r := some a_1) C 15 dX2_vacate_11 (by decide) (fun _ _ => ?_) (fun h => nomatch h)
    refine gV_aload_n (pc := 15) (x := a_1) C dX2_vacate_15 0 rfl rfl ?_
    refine cg_b_dirty (pc := 16) (σ := σ) C m_1 fl_X2_97 dX2_vacate_16 ?_
    refine gV_if_eq (pc := 19) C 27 dX2_vacate_19 (by decide) (fun c_2 => ?_) (fun c_2 => ?_)
    · skip
      refine gV_aload_n (pc := 27) (x := a_1) C dX2_vacate_27 0 rfl rfl ?_
      refine gV_iconst (pc := 28) (v := (-1)) C dX2_vacate_28 (by decide) ?_
      refine cp_b_frame (pc := 29) (σ := σ) C m_1 fl_X2_76 dX2_vacate_29 ?_
      refine gV_aload_n (pc := 32) (x := ad 0) C dX2_vacate_32 1 rfl rfl ?_
      refine cg_frames (pc := 33) C fl_X2_23 dX2_vacate_33 ?_
      refine cg_content1 (pc := 36) C fl_X2_111 dX2_vacate_36 ?_
      refine gV_iload_n (pc := 39) C dX2_vacate_39 2 rfl rfl ?_
      refine gV_null (pc := 40) C dX2_vacate_40 ?_
      refine cs_fc_n (pc := 41) C hf dX2_vacate_41 ?_
      refine gV_vret (pc := 42) C dX2_vacate_42 (by decide) (by decide) ?_
      exact ⟨rfl, by simp only [ph_vac, er_1]; try rw [if_pos c_2]; try rfl⟩
    · skip
      refine gV_aload_n (pc := 22) (x := ad 0) C dX2_vacate_22 1 rfl rfl ?_
      refine gV_aload_n (pc := 23) (x := a_1) C dX2_vacate_23 0 rfl rfl ?_
      refine gV_callV (pc := 24) (As := [.ref a_1]) (rest := []) C ml_X2_114 gy_X2_store gv_X2_store (c_store (a := a_1) hok m_1) ⟨0, 2, _, _, rfl, rfl, rfl⟩ rfl rfl ⟨by decide, by decide⟩ (Nat.le_of_ble_eq_true rfl) (by decide) (by decide) dX2_vacate_24 ?_
      rintro _ _ ⟨rfl, rfl⟩
      have m_3 : a_1 ∈ ph_L (ph_st F S σ a_1) := by rw [ph_st_L]; exact m_1
      refine gV_aload_n (pc := 27) (x := a_1) C dX2_vacate_27 0 rfl rfl ?_
      refine gV_iconst (pc := 28) (v := (-1)) C dX2_vacate_28 (by decide) ?_
      refine cp_b_frame (pc := 29) (σ := ph_st F S σ a_1) C m_3 fl_X2_76 dX2_vacate_29 ?_
      refine gV_aload_n (pc := 32) (x := ad 0) C dX2_vacate_32 1 rfl rfl ?_
      refine cg_frames (pc := 33) C fl_X2_23 dX2_vacate_33 ?_
      refine cg_content1 (pc := 36) C fl_X2_111 dX2_vacate_36 ?_
      refine gV_iload_n (pc := 39) C dX2_vacate_39 2 rfl rfl ?_
      refine gV_null (pc := 40) C dX2_vacate_40 ?_
      refine cs_fc_n (pc := 41) C hf dX2_vacate_41 ?_
      refine gV_vret (pc := 42) C dX2_vacate_42 (by decide) (by decide) ?_
      exact ⟨rfl, by simp only [ph_vac, er_1]; try rw [if_neg c_2]; try rfl⟩
abbrev rm_X2_secondChance : Room := { frames := 1, cells := 0, slots := 0, locals := 21 }
set_option maxHeartbeats 4000000 in
set_option maxRecDepth 100000 in
theorem lp_sc {X : gx_T} {D : va_G} {ad : Nat → Nat} {ct : Nat → ClassId} {F S : Nat} {σ : ph_S} {kept : Int32} (C : gC X cX2_secondChance 4 RX2 rm_X2_secondChance (some .int) D (gt ct) (fun v w => v = some (.int (ph_I (ph_scT F kept σ) 0)) ∧ w = cw ad ct F S (ph_scE F kept σ))) : ∀ (p : Nat) (τ : ph_S), ph_ok F S τ → p ≤ 64 → ph_scG F kept p τ = ph_scT F kept σ → gV X 0 0 (cw ad ct F S τ) 8 [(2, .int (nI p)), (0, .ref (ad 0)), (1, .int kept)] [] := by
  intro p
  induction p with
  | zero =>
    intro τ hok hp hr
    have hF := hok.F16
    have e : τ = ph_scT F kept σ := hr
    refine gV_iload_n (pc := 8) C dX2_secondChance_8 0 rfl rfl ?_
    refine gV_if_le (pc := 9) C 68 dX2_secondChance_9 (by decide) (fun c_1 => ?_) (fun c_1 => ?_)
    · skip
      refine gV_aload_n (pc := 68) (x := ad 0) C dX2_secondChance_68 1 rfl rfl ?_
      refine cg_hand (pc := 69) C fl_X2_140 dX2_secondChance_69 ?_
      refine gV_istore_n (pc := 72) (lv' := [(3, .int (ph_I (τ) 0)), (2, .int (nI 0)), (0, .ref (ad 0)), (1, .int kept)]) C dX2_secondChance_72 rfl (by decide) rfl ?_
      refine gV_aload_n (pc := 73) (x := ad 0) C dX2_secondChance_73 2 rfl rfl ?_
      refine gV_aload_n (pc := 74) (x := ad 0) C dX2_secondChance_74 2 rfl rfl ?_
      refine gV_iload_n (pc := 75) C dX2_secondChance_75 0 rfl rfl ?_
      refine gV_callV (pc := 76) (As := [.int (ph_I (τ) 0)]) (rest := [.ref (ad 0)]) C ml_X2_195 gy_X2_behind gv_X2_behind (c_behind _) ⟨0, 2, _, _, rfl, rfl, rfl⟩ rfl rfl ⟨by decide, by decide⟩ (Nat.le_of_ble_eq_true rfl) (by decide) (by decide) dX2_secondChance_76 ?_
      rintro _ _ ⟨rfl, rfl⟩
      refine cp_hand (pc := 79) C fl_X2_140 dX2_secondChance_79 ?_
      refine gV_iload_n (pc := 82) C dX2_secondChance_82 0 rfl rfl ?_
      refine gV_iret (pc := 83) C dX2_secondChance_83 (by decide) (by decide) ?_
      exact ⟨by rw [e], by rw [e]; rfl⟩
    · exact absurd (by decide) c_1
  | succ p ih =>
    intro τ hok hp hr
    have hF := hok.F16
    obtain ⟨hd, hhd, ehd⟩ := hok.hand
    have hin : vp_in (ph_I τ 0) F := by rw [ehd]; exact vp_in_nI hhd (by omega)
    refine gV_iload_n (pc := 8) C dX2_secondChance_8 0 rfl rfl ?_
    refine gV_if_le (pc := 9) C 68 dX2_secondChance_9 (by decide) (fun c_1 => ?_) (fun c_1 => ?_)
    · exact absurd c_1 (nI_nle (by omega) (by omega))
    · skip
      refine gV_aload_n (pc := 12) (x := ad 0) C dX2_secondChance_12 1 rfl rfl ?_
      refine cg_hand (pc := 13) C fl_X2_140 dX2_secondChance_13 ?_
      refine gV_iload_n (pc := 16) C dX2_secondChance_16 2 rfl rfl ?_
      refine gV_icmp_eq (pc := 17) C 32 dX2_secondChance_17 (by decide) (fun c_2 => ?_) (fun c_2 => ?_)
      · skip
        refine gV_aload_n (pc := 32) (x := ad 0) C dX2_secondChance_32 1 rfl rfl ?_
        refine cg_hand (pc := 33) C fl_X2_140 dX2_secondChance_33 ?_
        refine gV_iload_n (pc := 36) C dX2_secondChance_36 2 rfl rfl ?_
        refine gV_icmp_eq (pc := 37) C 50 dX2_secondChance_37 (by decide) (fun c_3 => ?_) (fun c_3 => ?_)
        · skip
          refine gV_aload_n (pc := 50) (x := ad 0) C dX2_secondChance_50 1 rfl rfl ?_
          refine gV_aload_n (pc := 51) (x := ad 0) C dX2_secondChance_51 1 rfl rfl ?_
          refine gV_aload_n (pc := 52) (x := ad 0) C dX2_secondChance_52 1 rfl rfl ?_
          refine cg_hand (pc := 53) C fl_X2_140 dX2_secondChance_53 ?_
          refine gV_callV (pc := 56) (As := [.int (ph_I (τ) 0)]) (rest := [.ref (ad 0)]) C ml_X2_195 gy_X2_behind gv_X2_behind (c_behind _) ⟨0, 2, _, _, rfl, rfl, rfl⟩ rfl rfl ⟨by decide, by decide⟩ (Nat.le_of_ble_eq_true rfl) (by decide) (by decide) dX2_secondChance_56 ?_
          rintro _ _ ⟨rfl, rfl⟩
          refine cp_hand (pc := 59) C fl_X2_140 dX2_secondChance_59 ?_
          refine gV_iinc (pc := 62) (v := nI p) (lv' := [(2, .int (nI p)), (0, .ref (ad 0)), (1, .int kept)]) C dX2_secondChance_62 0 rfl (pk_m1 _) (by decide) rfl ?_
          refine gV_goto (pc := 65) C 8 dX2_secondChance_65 (by decide) ?_
          refine gV_lv [0, 1, 2] rfl ?_
          exact ih _ (ok_scS hok) (by omega) (by rw [← hr, ph_scG, if_pos c_2]; rfl)
        · exact absurd c_2 c_3
      · skip
        refine gV_aload_n (pc := 20) (x := ad 0) C dX2_secondChance_20 1 rfl rfl ?_
        refine cg_used (pc := 21) C fl_X2_30 dX2_secondChance_21 ?_
        refine gV_aload_n (pc := 24) (x := ad 0) C dX2_secondChance_24 1 rfl rfl ?_
        refine cg_hand (pc := 25) C fl_X2_140 dX2_secondChance_25 ?_
        refine ca_us (pc := 28) C hin dX2_secondChance_28 ?_
        refine gV_if_eq (pc := 29) C 68 dX2_secondChance_29 (by decide) (fun c_4 => ?_) (fun c_4 => ?_)
        · skip
          have e : τ = ph_scT F kept σ := by rw [← hr, ph_scG, if_neg c_2, if_pos c_4]
          refine gV_aload_n (pc := 68) (x := ad 0) C dX2_secondChance_68 1 rfl rfl ?_
          refine cg_hand (pc := 69) C fl_X2_140 dX2_secondChance_69 ?_
          refine gV_istore_n (pc := 72) (lv' := [(3, .int (ph_I (τ) 0)), (2, .int (nI (p + 1))), (0, .ref (ad 0)), (1, .int kept)]) C dX2_secondChance_72 rfl (by decide) rfl ?_
          refine gV_aload_n (pc := 73) (x := ad 0) C dX2_secondChance_73 2 rfl rfl ?_
          refine gV_aload_n (pc := 74) (x := ad 0) C dX2_secondChance_74 2 rfl rfl ?_
          refine gV_iload_n (pc := 75) C dX2_secondChance_75 0 rfl rfl ?_
          refine gV_callV (pc := 76) (As := [.int (ph_I (τ) 0)]) (rest := [.ref (ad 0)]) C ml_X2_195 gy_X2_behind gv_X2_behind (c_behind _) ⟨0, 2, _, _, rfl, rfl, rfl⟩ rfl rfl ⟨by decide, by decide⟩ (Nat.le_of_ble_eq_true rfl) (by decide) (by decide) dX2_secondChance_76 ?_
          rintro _ _ ⟨rfl, rfl⟩
          refine cp_hand (pc := 79) C fl_X2_140 dX2_secondChance_79 ?_
          refine gV_iload_n (pc := 82) C dX2_secondChance_82 0 rfl rfl ?_
          refine gV_iret (pc := 83) C dX2_secondChance_83 (by decide) (by decide) ?_
          exact ⟨by rw [e], by rw [e]; rfl⟩
        · skip
          refine gV_aload_n (pc := 32) (x := ad 0) C dX2_secondChance_32 1 rfl rfl ?_
          refine cg_hand (pc := 33) C fl_X2_140 dX2_secondChance_33 ?_
          refine gV_iload_n (pc := 36) C dX2_secondChance_36 2 rfl rfl ?_
          refine gV_icmp_eq (pc := 37) C 50 dX2_secondChance_37 (by decide) (fun c_5 => ?_) (fun c_5 => ?_)
          · exact absurd c_5 c_2
          · skip
            refine gV_aload_n (pc := 40) (x := ad 0) C dX2_secondChance_40 1 rfl rfl ?_
            refine cg_used (pc := 41) C fl_X2_30 dX2_secondChance_41 ?_
            refine gV_aload_n (pc := 44) (x := ad 0) C dX2_secondChance_44 1 rfl rfl ?_
            refine cg_hand (pc := 45) C fl_X2_140 dX2_secondChance_45 ?_
            refine gV_iconst (pc := 48) (v := 0) C dX2_secondChance_48 (by decide) ?_
            refine cs_us (pc := 49) C hin (by decide) dX2_secondChance_49 ?_
            refine gV_aload_n (pc := 50) (x := ad 0) C dX2_secondChance_50 1 rfl rfl ?_
            refine gV_aload_n (pc := 51) (x := ad 0) C dX2_secondChance_51 1 rfl rfl ?_
            refine gV_aload_n (pc := 52) (x := ad 0) C dX2_secondChance_52 1 rfl rfl ?_
            refine cg_hand (pc := 53) C fl_X2_140 dX2_secondChance_53 ?_
            refine gV_callV (pc := 56) (As := [.int (ph_I (ph_sA (τ) 2 ((ph_I (τ) 0).toNatClampNeg) 0) 0)]) (rest := [.ref (ad 0)]) C ml_X2_195 gy_X2_behind gv_X2_behind (c_behind _) ⟨0, 2, _, _, rfl, rfl, rfl⟩ rfl rfl ⟨by decide, by decide⟩ (Nat.le_of_ble_eq_true rfl) (by decide) (by decide) dX2_secondChance_56 ?_
            rintro _ _ ⟨rfl, rfl⟩
            refine cp_hand (pc := 59) C fl_X2_140 dX2_secondChance_59 ?_
            refine gV_iinc (pc := 62) (v := nI p) (lv' := [(2, .int (nI p)), (0, .ref (ad 0)), (1, .int kept)]) C dX2_secondChance_62 0 rfl (pk_m1 _) (by decide) rfl ?_
            refine gV_goto (pc := 65) C 8 dX2_secondChance_65 (by decide) ?_
            refine gV_lv [0, 1, 2] rfl ?_
            exact ih _ (ok_scS (ok_us hok _ (Or.inl rfl))) (by omega) (by rw [← hr, ph_scG, if_neg c_2, if_neg c_4]; rfl)
set_option maxHeartbeats 4000000 in
set_option maxRecDepth 100000 in
/-- secondChance -/
theorem c_secondChance {D : va_G} {ad : Nat → Nat} {ct : Nat → ClassId} {F S : Nat} {σ : ph_S} (kept : Int32) (hok : ph_ok F S σ) : gM yX2_secondChance cX2_secondChance 4 (some .int) rm_X2_secondChance D (gt ct) (cw ad ct F S σ) [.ref (ad 0), .int kept] (fun v w => v = some (.int (ph_I (ph_scT F kept σ) 0)) ∧ w = cw ad ct F S (ph_scE F kept σ)) := by
  refine gM_in RX2 rfl (by decide) (Nat.le_of_ble_eq_true rfl) (fun X C => ?_)
  have hF := hok.F16
  have hS := hok.S64
  refine gV_iconst (pc := 0) (v := 2) C dX2_secondChance_0 (by decide) ?_
  refine gV_aload_n (pc := 1) (x := ad 0) C dX2_secondChance_1 0 rfl rfl ?_
  refine cg_used (pc := 2) C fl_X2_30 dX2_secondChance_2 ?_
  refine cl_us (pc := 5) C dX2_secondChance_5 ?_
  refine gV_imul (pc := 6) C dX2_secondChance_6 ?_
  rw [show (2 : Int32) = nI 2 from rfl, pk_mul]
  refine gV_istore_n (pc := 7) (lv' := [(2, .int (nI (2 * F))), (0, .ref (ad 0)), (1, .int kept)]) C dX2_secondChance_7 rfl (by decide) rfl ?_
  exact lp_sc C (2 * F) σ hok (by omega) rfl
abbrev rm_X2_take : Room := { frames := 4, cells := 0, slots := 0, locals := 127 }
set_option maxHeartbeats 4000000 in
set_option maxRecDepth 100000 in
/-- take -/
theorem c_take {D : va_G} {ad : Nat → Nat} {ct : Nat → ClassId} {F S : Nat} {σ : ph_S} (kept : Int32) (hok : ph_ok F S σ) : gM yX2_take cX2_take 3 (some .int) rm_X2_take D (gt ct) (cw ad ct F S σ) [.ref (ad 0), .int kept] (fun v w => v = some (.int (nI (ph_tkN F S kept σ))) ∧ w = cw ad ct F S (ph_tkS F S kept σ)) := by
  refine gM_in RX2 rfl (by decide) (Nat.le_of_ble_eq_true rfl) (fun X C => ?_)
  have hF := hok.F16
  have hS := hok.S64
  have hin : vp_in (ph_I (ph_scT F kept σ) 0) F := by obtain ⟨j, hj, e⟩ := (ok_scT (kept := kept) hok).hand; rw [e]; exact vp_in_nI hj (by omega)
  refine gV_aload_n (pc := 0) (x := ad 0) C dX2_take_0 0 rfl rfl ?_
  refine cg_frames (pc := 1) C fl_X2_23 dX2_take_1 ?_
  refine gV_callV (pc := 4) (As := []) (rest := []) C ml_X2_186 gy_X1_leastFree gv_X1_leastFree (c_leastFree1 (by omega)) ⟨1, 1, _, _, rfl, rfl, rfl⟩ rfl rfl ⟨by decide, by decide⟩ (Nat.le_of_ble_eq_true rfl) (by decide) (by decide) dX2_take_4 ?_
  rintro _ _ ⟨rfl, rfl⟩
  refine gV_istore_n (pc := 7) (lv' := [(2, .int (ph_lf (ph_R σ 0) F)), (0, .ref (ad 0)), (1, .int kept)]) C dX2_take_7 rfl (by decide) rfl ?_
  refine gV_iload_n (pc := 8) C dX2_take_8 0 rfl rfl ?_
  refine gV_iconst (pc := 9) (v := (-1)) C dX2_take_9 (by decide) ?_
  refine gV_icmp_ne (pc := 10) C 24 dX2_take_10 (by decide) (fun c_1 => ?_) (fun c_1 => ?_)
  · skip
    refine gV_aload_n (pc := 24) (x := ad 0) C dX2_take_24 1 rfl rfl ?_
    refine gV_dup (pc := 25) C dX2_take_25 rfl ?_
    refine cg_taken (pc := 26) C fl_X2_149 dX2_take_26 ?_
    refine gV_iconst (pc := 29) (v := 1) C dX2_take_29 (by decide) ?_
    refine gV_iadd (pc := 30) C dX2_take_30 ?_
    refine cp_taken (pc := 31) C fl_X2_149 dX2_take_31 ?_
    refine gV_iload_n (pc := 34) C dX2_take_34 0 rfl rfl ?_
    refine gV_iret (pc := 35) C dX2_take_35 (by decide) (by decide) ?_
    exact ⟨by rw [tkN_eq hok, ph_tkF, if_neg c_1], by rw [ph_tkS, if_neg c_1]; try rfl⟩
  · skip
    refine gV_aload_n (pc := 13) (x := ad 0) C dX2_take_13 1 rfl rfl ?_
    refine gV_iload_n (pc := 14) C dX2_take_14 2 rfl rfl ?_
    refine gV_callV (pc := 15) (As := [.int kept]) (rest := []) C ml_X2_189 gy_X2_secondChance gv_X2_secondChance (c_secondChance kept hok) ⟨0, 2, _, _, rfl, rfl, rfl⟩ rfl rfl ⟨by decide, by decide⟩ (Nat.le_of_ble_eq_true rfl) (by decide) (by decide) dX2_take_15 ?_
    rintro _ _ ⟨rfl, rfl⟩
    refine gV_istore_n (pc := 18) (lv' := [(2, .int (ph_I (ph_scT F kept σ) 0)), (0, .ref (ad 0)), (1, .int kept)]) C dX2_take_18 rfl (by decide) rfl ?_
    refine gV_aload_n (pc := 19) (x := ad 0) C dX2_take_19 1 rfl rfl ?_
    refine gV_iload_n (pc := 20) C dX2_take_20 0 rfl rfl ?_
    refine gV_callV (pc := 21) (As := [.int (ph_I (ph_scT F kept σ) 0)]) (rest := []) C ml_X2_192 gy_X2_vacate gv_X2_vacate (c_vacate (f := (ph_I (ph_scT F kept σ) 0)) (ok_scE hok) hin) ⟨0, 2, _, _, rfl, rfl, rfl⟩ rfl rfl ⟨by decide, by decide⟩ (Nat.le_of_ble_eq_true rfl) (by decide) (by decide) dX2_take_21 ?_
    rintro _ _ ⟨rfl, rfl⟩
    refine gV_aload_n (pc := 24) (x := ad 0) C dX2_take_24 1 rfl rfl ?_
    refine gV_dup (pc := 25) C dX2_take_25 rfl ?_
    refine cg_taken (pc := 26) C fl_X2_149 dX2_take_26 ?_
    refine gV_iconst (pc := 29) (v := 1) C dX2_take_29 (by decide) ?_
    refine gV_iadd (pc := 30) C dX2_take_30 ?_
    refine cp_taken (pc := 31) C fl_X2_149 dX2_take_31 ?_
    refine gV_iload_n (pc := 34) C dX2_take_34 0 rfl rfl ?_
    refine gV_iret (pc := 35) C dX2_take_35 (by decide) (by decide) ?_
    exact ⟨by rw [tkN_eq hok, ph_tkF, if_pos c_1], by rw [ph_tkS, if_pos c_1]; try rfl⟩
abbrev rm_X2_bring : Room := { frames := 2, cells := 0, slots := 0, locals := 83 }
set_option maxHeartbeats 4000000 in
set_option maxRecDepth 100000 in
/-- bring -/
theorem c_bring {D : va_G} {ad : Nat → Nat} {ct : Nat → ClassId} {F S : Nat} {σ : ph_S} {a f : Nat} (hok : ph_ok F S σ) (m_a : a ∈ ph_L σ) (hf : f < F) : gM yX2_bring cX2_bring 3 none rm_X2_bring D (gt ct) (cw ad ct F S σ) [.ref (ad 0), .ref a, .int (nI f)] (fun v w => v = none ∧ w = cw ad ct F S (ph_br F S σ a f)) := by
  refine gM_in RX2 rfl (by decide) (Nat.le_of_ble_eq_true rfl) (fun X C => ?_)
  have hF := hok.F16
  have hS := hok.S64
  refine gV_aload_n (pc := 0) (x := ad 0) C dX2_bring_0 0 rfl rfl ?_
  refine gV_aload_n (pc := 1) (x := a) C dX2_bring_1 1 rfl rfl ?_
  refine gV_iload_n (pc := 2) C dX2_bring_2 2 rfl rfl ?_
  refine gV_callV (pc := 3) (As := [.ref a, .int (nI f)]) (rest := []) C ml_X2_176 gy_X2_lay gv_X2_lay (c_lay (a := a) (f := f) m_a hf (by omega)) ⟨0, 2, _, _, rfl, rfl, rfl⟩ rfl rfl ⟨by decide, by decide⟩ (Nat.le_of_ble_eq_true rfl) (by decide) (by decide) dX2_bring_3 ?_
  rintro _ _ ⟨rfl, rfl⟩
  refine gV_aload_n (pc := 6) (x := ad 0) C dX2_bring_6 0 rfl rfl ?_
  refine cg_frames (pc := 7) C fl_X2_23 dX2_bring_7 ?_
  refine gV_iload_n (pc := 10) C dX2_bring_10 2 rfl rfl ?_
  refine gV_aload_n (pc := 11) (x := ad 0) C dX2_bring_11 0 rfl rfl ?_
  refine cg_sectors (pc := 12) C fl_X2_27 dX2_bring_12 ?_
  refine gV_aload_n (pc := 15) (x := a) C dX2_bring_15 1 rfl rfl ?_
  refine cg_b_sector (pc := 16) (σ := ph_lay σ a f) C m_a fl_X2_118 dX2_bring_16 ?_
  refine gV_callV (pc := 19) (As := [.int (nI f), .ref (ad 2), .int (ph_B (ph_lay σ a f) 2 a)]) (rest := []) C ml_X2_182 gy_X1_copyWords gv_X1_copyWords (c_copyWords12 _ _ (by omega) (by omega)) ⟨1, 1, _, _, rfl, rfl, rfl⟩ rfl rfl ⟨by decide, by decide⟩ (Nat.le_of_ble_eq_true rfl) (by decide) (by decide) dX2_bring_19 ?_
  rintro _ _ ⟨rfl, rfl⟩
  have m_1 : a ∈ ph_L (ph_cpy F S 0 1 (ph_lay σ a f) (nI f) (ph_B (ph_lay σ a f) 2 a)) := by rw [ph_cpy_L]; exact m_a
  refine gV_aload_n (pc := 22) (x := ad 0) C dX2_bring_22 0 rfl rfl ?_
  refine gV_dup (pc := 23) C dX2_bring_23 rfl ?_
  refine cg_brought (pc := 24) C fl_X2_152 dX2_bring_24 ?_
  refine gV_iconst (pc := 27) (v := 1) C dX2_bring_27 (by decide) ?_
  refine gV_iadd (pc := 28) C dX2_bring_28 ?_
  refine cp_brought (pc := 29) C fl_X2_152 dX2_bring_29 ?_
  refine gV_vret (pc := 32) C dX2_bring_32 (by decide) (by decide) ?_
  exact ⟨rfl, rfl⟩
abbrev rm_X2_release : Room := { frames := 1, cells := 0, slots := 0, locals := 21 }
set_option maxHeartbeats 4000000 in
set_option maxRecDepth 100000 in
/-- release -/
theorem c_release {D : va_G} {ad : Nat → Nat} {ct : Nat → ClassId} {F S : Nat} {σ : ph_S} {a : Nat} (hok : ph_ok F S σ) (m_a : a ∈ ph_L σ) : gM yX2_release cX2_release 2 none rm_X2_release D (gt ct) (cw ad ct F S σ) [.ref (ad 0), .ref a] (fun v w => v = none ∧ w = cw ad ct F S (ph_rel F S σ a)) := by
  refine gM_in RX2 rfl (by decide) (Nat.le_of_ble_eq_true rfl) (fun X C => ?_)
  have hF := hok.F16
  have hS := hok.S64
  refine gV_aload_n (pc := 0) (x := ad 0) C dX2_release_0 0 rfl rfl ?_
  refine cg_frames (pc := 1) C fl_X2_23 dX2_release_1 ?_
  refine gV_aload_n (pc := 4) (x := a) C dX2_release_4 1 rfl rfl ?_
  refine cg_b_frame (pc := 5) (σ := σ) C m_a fl_X2_76 dX2_release_5 ?_
  refine gV_callV (pc := 8) (As := [.int (ph_B σ 1 a)]) (rest := []) C ml_X2_121 gy_X1_has gv_X1_has (c_has1 _) ⟨1, 1, _, _, rfl, rfl, rfl⟩ rfl rfl ⟨by decide, by decide⟩ (Nat.le_of_ble_eq_true rfl) (by decide) (by decide) dX2_release_8 ?_
  rintro _ _ ⟨rfl, rfl⟩
  refine gV_if_eq (pc := 11) C 37 dX2_release_11 (by decide) (fun c_1 => ?_) (fun c_1 => ?_)
  · skip
    refine gV_aload_n (pc := 37) (x := ad 0) C dX2_release_37 0 rfl rfl ?_
    refine cg_sectors (pc := 38) C fl_X2_27 dX2_release_38 ?_
    refine gV_aload_n (pc := 41) (x := a) C dX2_release_41 1 rfl rfl ?_
    refine cg_b_sector (pc := 42) (σ := σ) C m_a fl_X2_118 dX2_release_42 ?_
    refine gV_callV (pc := 45) (As := [.int (ph_B σ 2 a)]) (rest := []) C ml_X2_121 gy_X1_has gv_X1_has (c_has2 _) ⟨2, 1, _, _, rfl, rfl, rfl⟩ rfl rfl ⟨by decide, by decide⟩ (Nat.le_of_ble_eq_true rfl) (by decide) (by decide) dX2_release_45 ?_
    rintro _ _ ⟨rfl, rfl⟩
    refine gV_if_eq (pc := 48) C 64 dX2_release_48 (by decide) (fun c_2 => ?_) (fun c_2 => ?_)
    · skip
      refine gV_vret (pc := 64) C dX2_release_64 (by decide) (by decide) ?_
      exact ⟨rfl, by rw [ph_rel, if_pos c_1, ph_rel2]; first | (rw [if_pos c_2]; done) | exact congrArg (cw ad ct F S) (if_pos c_2).symm⟩
    · skip
      refine gV_aload_n (pc := 51) (x := ad 0) C dX2_release_51 0 rfl rfl ?_
      refine cg_sectors (pc := 52) C fl_X2_27 dX2_release_52 ?_
      refine cg_content2 (pc := 55) C fl_X2_111 dX2_release_55 ?_
      refine gV_aload_n (pc := 58) (x := a) C dX2_release_58 1 rfl rfl ?_
      refine cg_b_sector (pc := 59) (σ := σ) C m_a fl_X2_118 dX2_release_59 ?_
      refine gV_null (pc := 62) C dX2_release_62 ?_
      refine cs_sc_n (pc := 63) C (has_vin c_2 (by omega)) dX2_release_63 ?_
      refine gV_vret (pc := 64) C dX2_release_64 (by decide) (by decide) ?_
      exact ⟨rfl, by rw [ph_rel, if_pos c_1, ph_rel2]; first | (rw [if_neg c_2]; done) | exact congrArg (cw ad ct F S) (if_neg c_2).symm⟩
  · skip
    refine gV_aload_n (pc := 14) (x := ad 0) C dX2_release_14 0 rfl rfl ?_
    refine cg_frames (pc := 15) C fl_X2_23 dX2_release_15 ?_
    refine cg_content1 (pc := 18) C fl_X2_111 dX2_release_18 ?_
    refine gV_aload_n (pc := 21) (x := a) C dX2_release_21 1 rfl rfl ?_
    refine cg_b_frame (pc := 22) (σ := σ) C m_a fl_X2_76 dX2_release_22 ?_
    refine gV_null (pc := 25) C dX2_release_25 ?_
    refine cs_fc_n (pc := 26) C (has_vin c_1 (by omega)) dX2_release_26 ?_
    refine gV_aload_n (pc := 27) (x := ad 0) C dX2_release_27 0 rfl rfl ?_
    refine cg_used (pc := 28) C fl_X2_30 dX2_release_28 ?_
    refine gV_aload_n (pc := 31) (x := a) C dX2_release_31 1 rfl rfl ?_
    refine cg_b_frame (pc := 32) (σ := ph_sR σ 0 ((ph_B σ 1 a).toNatClampNeg) none) C m_a fl_X2_76 dX2_release_32 ?_
    refine gV_iconst (pc := 35) (v := 0) C dX2_release_35 (by decide) ?_
    refine cs_us (pc := 36) C (has_vin c_1 (by omega)) (by decide) dX2_release_36 ?_
    refine gV_aload_n (pc := 37) (x := ad 0) C dX2_release_37 0 rfl rfl ?_
    refine cg_sectors (pc := 38) C fl_X2_27 dX2_release_38 ?_
    refine gV_aload_n (pc := 41) (x := a) C dX2_release_41 1 rfl rfl ?_
    refine cg_b_sector (pc := 42) (σ := ph_sA (ph_sR σ 0 ((ph_B σ 1 a).toNatClampNeg) none) 2 ((ph_B (ph_sR σ 0 ((ph_B σ 1 a).toNatClampNeg) none) 1 a).toNatClampNeg) 0) C m_a fl_X2_118 dX2_release_42 ?_
    refine gV_callV (pc := 45) (As := [.int (ph_B (ph_sA (ph_sR σ 0 ((ph_B σ 1 a).toNatClampNeg) none) 2 ((ph_B (ph_sR σ 0 ((ph_B σ 1 a).toNatClampNeg) none) 1 a).toNatClampNeg) 0) 2 a)]) (rest := []) C ml_X2_121 gy_X1_has gv_X1_has (c_has2 _) ⟨2, 1, _, _, rfl, rfl, rfl⟩ rfl rfl ⟨by decide, by decide⟩ (Nat.le_of_ble_eq_true rfl) (by decide) (by decide) dX2_release_45 ?_
    rintro _ _ ⟨rfl, rfl⟩
    refine gV_if_eq (pc := 48) C 64 dX2_release_48 (by decide) (fun c_3 => ?_) (fun c_3 => ?_)
    · skip
      refine gV_vret (pc := 64) C dX2_release_64 (by decide) (by decide) ?_
      exact ⟨rfl, by rw [ph_rel, if_neg c_1, ph_rel2]; first | (rw [if_pos c_3]; done) | exact congrArg (cw ad ct F S) (if_pos c_3).symm⟩
    · skip
      refine gV_aload_n (pc := 51) (x := ad 0) C dX2_release_51 0 rfl rfl ?_
      refine cg_sectors (pc := 52) C fl_X2_27 dX2_release_52 ?_
      refine cg_content2 (pc := 55) C fl_X2_111 dX2_release_55 ?_
      refine gV_aload_n (pc := 58) (x := a) C dX2_release_58 1 rfl rfl ?_
      refine cg_b_sector (pc := 59) (σ := ph_sA (ph_sR σ 0 ((ph_B σ 1 a).toNatClampNeg) none) 2 ((ph_B (ph_sR σ 0 ((ph_B σ 1 a).toNatClampNeg) none) 1 a).toNatClampNeg) 0) C m_a fl_X2_118 dX2_release_59 ?_
      refine gV_null (pc := 62) C dX2_release_62 ?_
      refine cs_sc_n (pc := 63) C (has_vin c_3 (by omega)) dX2_release_63 ?_
      refine gV_vret (pc := 64) C dX2_release_64 (by decide) (by decide) ?_
      exact ⟨rfl, by rw [ph_rel, if_neg c_1, ph_rel2]; first | (rw [if_neg c_3]; done) | exact congrArg (cw ad ct F S) (if_neg c_3).symm⟩
abbrev rm_X2_empty : Room := { frames := 2, cells := 0, slots := 0, locals := 42 }
set_option maxHeartbeats 4000000 in
set_option maxRecDepth 100000 in
/-- empty -/
theorem c_empty {D : va_G} {ad : Nat → Nat} {ct : Nat → ClassId} {F S : Nat} {σ : ph_S} {s : Int32} (hok : ph_ok F S σ) (hs : vp_in s 256) : gM yX2_empty cX2_empty 3 (some .boolean) rm_X2_empty D (gt ct) (cw ad ct F S σ) [.ref (ad 0), .int s] (fun v w => v = some (.int (ph_emV σ s.toNatClampNeg)) ∧ w = cw ad ct F S (ph_em F S σ s.toNatClampNeg)) := by
  refine gM_in RX2 rfl (by decide) (Nat.le_of_ble_eq_true rfl) (fun X C => ?_)
  have hF := hok.F16
  have hS := hok.S64
  refine gV_aload_n (pc := 0) (x := ad 0) C dX2_empty_0 0 rfl rfl ?_
  refine cg_bodies (pc := 1) C fl_X2_40 dX2_empty_1 ?_
  refine gV_iload_n (pc := 4) C dX2_empty_4 1 rfl rfl ?_
  refine ca_bo (pc := 5) C hs dX2_empty_5 ?_
  cases er_1 : ph_R σ 2 s.toNatClampNeg with
  | none =>
    refine gV_astoreq_n (pc := 6) (r := none) (lv' := [(2, .null), (0, .ref (ad 0)), (1, .int s)]) C dX2_empty_6 rfl (by decide) rfl ?_
    refine gV_aloadq_n (pc := 7) (r := none) C dX2_empty_7 0 rfl rfl ?_
    refine gV_ifnonnull (pc := 8) (r := none) C 13 dX2_empty_8 (by decide) (fun _ h => nomatch h) (fun _ => ?_)
    refine gV_iconst (pc := 11) (v := 0) C dX2_empty_11 (by decide) ?_
    refine gV_zret (pc := 12) C dX2_empty_12 (by decide) (by decide) (by decide) ?_
    exact ⟨by simp only [ph_emV, er_1], by first | (simp only [ph_em, er_1]; done) | (simp only [ph_em, er_1]; rw [ph_em2]; exact congrArg (cw ad ct F S) (@1).symm)⟩
  | some a_1 =>
    have m_1 : a_1 ∈ ph_L σ := hok.refs _ _ _ er_1
    refine gV_astore_n (pc := 6) (x := a_1) (lv' := [(2, .ref a_1), (0, .ref (ad 0)), (1, .int s)]) C dX2_empty_6 rfl (by decide) rfl ?_
    refine gV_aload_n (pc := 7) (x := a_1) C dX2_empty_7 0 rfl rfl ?_
    refine gV_ifnonnull (pc := 8) (r := some a_1) C 13 dX2_empty_8 (by decide) (fun _ _ => ?_) (fun h => nomatch h)
    refine gV_aload_n (pc := 13) (x := ad 0) C dX2_empty_13 1 rfl rfl ?_
    refine cg_bodies (pc := 14) C fl_X2_40 dX2_empty_14 ?_
    refine gV_iload_n (pc := 17) C dX2_empty_17 2 rfl rfl ?_
    refine gV_null (pc := 18) C dX2_empty_18 ?_
    refine cs_bo_n (pc := 19) C hs dX2_empty_19 ?_
    refine gV_aload_n (pc := 20) (x := a_1) C dX2_empty_20 0 rfl rfl ?_
    refine gV_dup (pc := 21) C dX2_empty_21 rfl ?_
    refine cg_b_holders (pc := 22) (σ := ph_sR σ 2 s.toNatClampNeg none) C m_1 fl_X2_55 dX2_empty_22 ?_
    refine gV_iconst (pc := 25) (v := 1) C dX2_empty_25 (by decide) ?_
    refine gV_isub (pc := 26) C dX2_empty_26 ?_
    refine cp_b_holders (pc := 27) (σ := ph_sR σ 2 s.toNatClampNeg none) C m_1 fl_X2_55 dX2_empty_27 ?_
    refine gV_aload_n (pc := 30) (x := a_1) C dX2_empty_30 0 rfl rfl ?_
    refine cg_b_holders (pc := 31) (σ := ph_sB (ph_sR σ 2 s.toNatClampNeg none) 3 a_1 ((ph_B (ph_sR σ 2 s.toNatClampNeg none) 3 a_1) - 1)) C m_1 fl_X2_55 dX2_empty_31 ?_
    refine gV_if_ne (pc := 34) C 42 dX2_empty_34 (by decide) (fun c_2 => ?_) (fun c_2 => ?_)
    · skip
      refine gV_iconst (pc := 42) (v := 1) C dX2_empty_42 (by decide) ?_
      refine gV_zret (pc := 43) C dX2_empty_43 (by decide) (by decide) (by decide) ?_
      exact ⟨by simp only [ph_emV, er_1], by first | (simp only [ph_em, er_1]; done) | (simp only [ph_em, er_1]; rw [ph_em2]; exact congrArg (cw ad ct F S) (if_neg c_2).symm)⟩
    · skip
      refine gV_aload_n (pc := 37) (x := ad 0) C dX2_empty_37 1 rfl rfl ?_
      refine gV_aload_n (pc := 38) (x := a_1) C dX2_empty_38 0 rfl rfl ?_
      refine gV_callV (pc := 39) (As := [.ref a_1]) (rest := []) C ml_X2_198 gy_X2_release gv_X2_release (c_release (a := a_1) (ok_ho (ok_sRn hok _ _) _ _) m_1) ⟨0, 2, _, _, rfl, rfl, rfl⟩ rfl rfl ⟨by decide, by decide⟩ (Nat.le_of_ble_eq_true rfl) (by decide) (by decide) dX2_empty_39 ?_
      rintro _ _ ⟨rfl, rfl⟩
      have m_3 : a_1 ∈ ph_L (ph_rel F S (ph_sB (ph_sR σ 2 s.toNatClampNeg none) 3 a_1 ((ph_B (ph_sR σ 2 s.toNatClampNeg none) 3 a_1) - 1)) a_1) := by rw [ph_rel_L]; exact m_1
      refine gV_iconst (pc := 42) (v := 1) C dX2_empty_42 (by decide) ?_
      refine gV_zret (pc := 43) C dX2_empty_43 (by decide) (by decide) (by decide) ?_
      exact ⟨by simp only [ph_emV, er_1], by first | (simp only [ph_em, er_1]; done) | (simp only [ph_em, er_1]; rw [ph_em2]; exact congrArg (cw ad ct F S) (if_pos c_2).symm)⟩
end
section
/-- the method is a constructor -/
def gI (X : gx_T) : Prop := match X with
  | ((_, _, _, _, _, _, _, _, meth, _, _), _) => meth.name = "<init>"
theorem gM_inI {y : MethodName} {bytes : ByteArray} {maxL : Nat} {rt : Option FieldType} {rm : Room} {D : va_G} {tys : List (ClassId × FieldType)} {ws : va_W} {av : List Value} {post : Option Value → va_W → Prop} (own : String) (ho : y.cls = own) (hn : y.name = "<init>")
    (hy : plainName own = true) (hav : (lg_sl av).length ≤ maxL) (h : ∀ X : gx_T, gC X bytes maxL own rm rt D tys post → gI X → gV X 0 0 ws 0 (lv_args 0 av) []) : gM y bytes maxL rt rm D tys ws av post := by
  subst ho
  intro l sz hl0
  refine Met.ofW (cc := bytes) (maxL := maxL) (ret := rt) hy rfl ?_
  intro p e s m args below meth c s₁ B hml hv
  obtain ⟨rfl, hsz, hP, hK, hN, hD0⟩ := hv
  subst hsz
  have hts := atoms_spec (ws := Cond.code y bytes maxL rt :: pw_all) B.pre
  have hl := lv_entry av (n := maxL) hav
  rw [lg_entry_eq]
  exact h ((p, l, e, rm, s, m, av.toArray, below, meth, c, MQ below (gQ post D (va_A ws s.heap.size)) av.toArray s rm.cells rm.slots (va_A ws s.heap.size)), (maxL, D, tys, va_A ws s.heap.size))
    ⟨B.exec, B.bytes, hml, findClass_of_methodNamed B.named, fun w hw => hts w (List.mem_cons_of_mem _ hw), hN, hK, fun q hq => Or.inr hq, B.notSynchronized, rfl, rfl, rfl, rfl, hl0, B.returns, fun _ _ _ _ _ k => k⟩
    (((name_of_methodNamed B.named B.method).1).trans hn) s.heap [] _ hP (hD0.self (sz := s.heap.size)) va_S.rf hl
theorem w_obj_i : Cond.instanceMethod Lib.objectInit ∈ pw_all := pw_t 28 (by decide +kernel) rfl
theorem w_obj_c : Cond.code Lib.objectInit ⟨#[0xb1]⟩ 1 none ∈ pw_all := pw_t 29 rfl rfl
theorem w_obj_X1 : Cond.methodLink RX1 3 Lib.objectInit ∈ pw_all := pw_t 41 (by decide +kernel) rfl
theorem w_obj_X2 : Cond.methodLink RX2 1 Lib.objectInit ∈ pw_all := pw_t 27 (by decide +kernel) rfl
theorem w_obj_X0 : Cond.methodLink RX0 3 Lib.objectInit ∈ pw_all := pw_t 342 (by decide +kernel) rfl
theorem w_obj_X3 : Cond.methodLink RX3 1 Lib.objectInit ∈ pw_all := pw_t 638 (by decide +kernel) rfl
theorem w_pgn : Cond.fieldLink RX0 9 "PagerHouse$Body" "pageNumber" "I" ∈ pw_all := pw_t 343 (by decide +kernel) rfl
section CNB
variable {X : gx_T} {cc : ByteArray} {nL : Nat} {own : String} {rm : Room} {rt : Option FieldType} {D : va_G} {post : Option Value → va_W → Prop} {k n : Nat} {pc : Nat} {lv : List (Nat × Value)} {st : List Value} {idx : Nat}
variable {ad : Nat → Nat} {ct : Nat → ClassId} {F S : Nat} {σ : ph_S}
theorem cp_b_pageNumber (C : gC X cc nL RX0 rm rt D (gt ct) post) (hI : gI X) {a : Nat} (ha : a ∈ ph_L σ) {v : Int32} (hdg : decode cc pc = .ok (.putfield 9, 3)) (kk : gV X k n (cw ad ct F S (ph_sB σ 0 a v)) (pc + 3) lv st) : gV X k n (cw ad ct F S σ) pc lv (.int v :: .ref a :: st) := by
  obtain ⟨q0, hq⟩ := va_pl_get (X := cw_X ad ct F S σ) (f := cw_E σ) ha
  refine gV_putF (ty := .int) C hI pw_fl_X0 tyX0 tyX0_ok nmX0 q0 0 0 w_pgn hq rfl (by decide) rfl rfl (by decide +kernel) rfl rfl (Nat.le_of_ble_eq_true rfl) hdg ?_
  obtain ⟨⟨p, l, e, R, s, m, args, below, meth, c, Q⟩, nL', D', tys', A⟩ := X
  intro H locs ls hP hD hS hl
  have hD0 : va_D A (cw_X ad ct F S σ ++ va_pl (ph_L σ) (cw_E σ)) := by
    refine ⟨fun i j p q hi hj e => ?_, fun i p hi => ?_⟩
    · obtain ⟨p', hp', ep⟩ := cw_unset hq hi
      obtain ⟨q', hq', eq⟩ := cw_unset hq hj
      exact hD.1 i j p' q' hp' hq' (by rw [ep, eq, e])
    · obtain ⟨p', hp', ep⟩ := cw_unset hq hi
      rw [← ep]; exact hD.2 i p' hp'
  have e : (cw ad ct F S σ).set q0 (a, .inr (0, [.int v, .int (ph_B σ 1 a), .int (ph_B σ 2 a), .int (ph_B σ 3 a), .int (ph_B σ 4 a)])) = cw ad ct F S (ph_sB σ 0 a v) := by
    refine (va_pl_set hD0 ha hq).trans ?_
    refine congrArg (fun l => cw_X ad ct F S σ ++ l) (va_pl_congr fun b => ?_)
    by_cases hb : b = a
    · subst hb; simp [va_up, cw_E, ph_B, ph_sB]
    · simp [va_up, cw_E, ph_B, ph_sB, hb]
  have hP' : va_P D' vwc ((cw ad ct F S σ).set q0 (a, .inr (0, [.int v, .int (ph_B σ 1 a), .int (ph_B σ 2 a), .int (ph_B σ 3 a), .int (ph_B σ 4 a)]))) H := hP
  have hD' : va_D A ((cw ad ct F S σ).set q0 (a, .inr (0, [.int v, .int (ph_B σ 1 a), .int (ph_B σ 2 a), .int (ph_B σ 3 a), .int (ph_B σ 4 a)]))) := hD
  rw [e] at hP' hD'
  exact kk H locs ls hP' hD' hS hl
theorem cw_push {q : Nat} (hq : q ∉ ph_L σ) : cw ad ct F S σ ++ [(q, .inr (0, [.int 0, .int 0, .int 0, .int 0, .int 0]))] = cw ad ct F S (ph_nB σ q) := by
  show (cw_X ad ct F S σ ++ va_pl (ph_L σ) (cw_E σ)) ++ _ = _
  rw [List.append_assoc, va_pl_push hq]
  refine congrArg (fun l => cw_X ad ct F S σ ++ l) (va_pl_congr (L := ph_L σ ++ [q]) fun b => ?_)
  by_cases hb : b = q
  · subst hb; simp [va_up, cw_E, ph_B, ph_nB]
  · simp [va_up, cw_E, ph_B, ph_nB, hb]
theorem cn_body (C : gC X cc nL RX2 rm rt D (gt ct) post) (hcells : k + 1 ≤ rm.cells) (hslots : n + 5 ≤ rm.slots) (hdg : decode cc pc = .ok (.new 38, 3)) (kk : ∀ q : Nat, q ∉ ph_L σ → gV X (k + 1) (n + 5) (cw ad ct F S (ph_nB σ q)) (pc + 3) lv (.ref q :: st)) : gV X k n (cw ad ct F S σ) pc lv st := by
  refine gV_new C pw_fl_X0 tyX0 tyX0_ok cl_X2_38 in_X0 ini_X0 0 rfl (fs := [.int 0, .int 0, .int 0, .int 0, .int 0]) (fun j hj => by rcases (show j = 0 ∨ j = 1 ∨ j = 2 ∨ j = 3 ∨ j = 4 by omega) with rfl | rfl | rfl | rfl | rfl <;> rfl) hcells hslots hdg (fun q hq => ?_)
  have hq' : q ∉ ph_L σ := fun h => by
    obtain ⟨q0, h0⟩ := va_pl_get (X := cw_X ad ct F S σ) (f := cw_E σ) h
    exact hq q0 _ h0 rfl
  exact gV_ws (cw_push hq') (kk q hq')
end CNB
def ph_bi (σ : ph_S) (q : Nat) (g : Int32) : ph_S := ph_sB (ph_sB (ph_sB (ph_sB σ 0 q g) 1 q (-1)) 2 q (-1)) 3 q 1
def ph_nb (F : Nat) (σ : ph_S) (q : Nat) (g : Int32) (f : Nat) : ph_S := ph_zero F (ph_lay (ph_bi (ph_nB σ q) q g) q f) f
theorem ph_nb_L (F : Nat) (σ : ph_S) (q : Nat) (g : Int32) (f : Nat) : ph_L (ph_nb F σ q g f) = ph_L σ ++ [q] := rfl
theorem B_nB (σ : ph_S) (q k a : Nat) : ph_B (ph_nB σ q) k a = if a = q then 0 else ph_B σ k a := rfl
theorem ok_nbi {F S : Nat} {σ : ph_S} {q : Nat} {g : Int32} (h : ph_ok F S σ) (hg : ∃ j, j < 32 ∧ g = nI j) : ph_ok F S (ph_bi (ph_nB σ q) q g) := by
  obtain ⟨h1, h2, h3, h4, h5, h6⟩ := h
  refine ⟨h1, fun k j a e => List.mem_append_left _ (h2 k j a e), fun a ha => ?_, h4, h5, h6⟩
  unfold ph_bi
  simp only [B_sB, B_nB]
  by_cases e : a = q
  · subst e
    simp
    exact hg
  · have ha' : a ∈ ph_L σ := by
      rcases List.mem_append.mp (show a ∈ ph_L σ ++ [q] from ha) with h | h
      · exact h
      · exact absurd (List.mem_singleton.mp h) e
    simp [e]
    exact h3 a ha'
theorem ok_nb {F S : Nat} {σ : ph_S} {q f : Nat} {g : Int32} (h : ph_ok F S σ) (hg : ∃ j, j < 32 ∧ g = nI j) (hf : f < F) : ph_ok F S (ph_nb F σ q g f) :=
  ok_fA (ok_lay (ok_nbi h hg) (List.mem_append_right _ (List.mem_singleton.mpr rfl)) hf) (by decide) _
def ph_cb3 (σ : ph_S) : ph_S := ph_sI σ 5 (ph_I σ 5 + 1)
def ph_cb2 (σ : ph_S) (a : Nat) : ph_S := ph_cb3 (ph_sB σ 3 a (ph_B σ 3 a - 1))
def ph_cb1 (F : Nat) (σ : ph_S) (a f : Nat) : ph_S := ph_cb2 (ph_cpy F F 0 0 σ (nI f) (ph_B σ 1 a)) a
def ph_cbd (F : Nat) (σ : ph_S) (a f q : Nat) : ph_S := ph_cb1 F (ph_nb F σ q (ph_B σ 0 a) f) a f
theorem ph_cbd_L (F : Nat) (σ : ph_S) (a f q : Nat) : ph_L (ph_cbd F σ a f q) = ph_L σ ++ [q] := by
  show ph_L (ph_cpy _ _ _ _ _ _ _) = _
  rw [ph_cpy_L, ph_nb_L]
theorem ok_cbd {F S : Nat} {σ : ph_S} {a f q : Nat} (h : ph_ok F S σ) (ha : a ∈ ph_L σ) (hf : f < F) : ph_ok F S (ph_cbd F σ a f q) :=
  ok_sI (ok_ho (ok_cpy (ok_nb h (h.pg ha) hf) (by decide)) _ _) _ (by decide)
def ph_own2 (F S : Nat) (σ : ph_S) (a b : Nat) (σ' : ph_S) : Prop := if ph_B σ 3 a ≤ 1 then b = a ∧ σ' = σ else b ∉ ph_L σ ∧ σ' = ph_cbd F (ph_tkS F S (ph_B σ 1 a) σ) a (ph_tkN F S (ph_B σ 1 a) σ) b
def ph_own1 (F S : Nat) (σ : ph_S) (a : Nat) : ph_S := if ph_B σ 1 a = -1 then ph_br F S (ph_tkS F S (-1) σ) a (ph_tkN F S (-1) σ) else σ
def ph_own (F S : Nat) (σ : ph_S) (r : Option Nat) (g : Int32) (b : Nat) (σ' : ph_S) : Prop := match r with
  | none => b ∉ ph_L σ ∧ σ' = ph_nb F (ph_tkS F S (-1) σ) b g (ph_tkN F S (-1) σ)
  | some a => ph_own2 F S (ph_own1 F S σ a) a b σ'
theorem ph_own1_L (F S : Nat) (σ : ph_S) (a : Nat) : ph_L (ph_own1 F S σ a) = ph_L σ := by
  unfold ph_own1; split
  · rw [ph_br_L, ph_tkS_L]
  · rfl
theorem ok_own1 {F S : Nat} {σ : ph_S} {a : Nat} (h : ph_ok F S σ) (ha : a ∈ ph_L σ) : ph_ok F S (ph_own1 F S σ a) := by
  unfold ph_own1; split
  · exact ok_br (ok_tkS h) (by rw [ph_tkS_L]; exact ha) (tkN_lt h)
  · exact h
theorem ok_own {F S : Nat} {σ σ' : ph_S} {r : Option Nat} {g : Int32} {b : Nat} (h : ph_ok F S σ) (hr : ∀ a, r = some a → a ∈ ph_L σ) (hg : ∃ j, j < 32 ∧ g = nI j) (ho : ph_own F S σ r g b σ') : ph_ok F S σ' ∧ b ∈ ph_L σ' := by
  cases r with
  | none =>
    obtain ⟨-, rfl⟩ := ho
    exact ⟨ok_nb (ok_tkS h) hg (tkN_lt h), by rw [ph_nb_L]; exact List.mem_append_right _ (List.mem_singleton.mpr rfl)⟩
  | some a =>
    have ha := hr a rfl
    have h1 := ok_own1 h ha
    have ha1 : a ∈ ph_L (ph_own1 F S σ a) := by rw [ph_own1_L]; exact ha
    simp only [ph_own, ph_own2] at ho
    split at ho
    · obtain ⟨rfl, rfl⟩ := ho
      exact ⟨h1, ha1⟩
    · obtain ⟨-, rfl⟩ := ho
      exact ⟨ok_cbd (ok_tkS h1) (by rw [ph_tkS_L]; exact ha1) (tkN_lt h1), by rw [ph_cbd_L]; exact List.mem_append_right _ (List.mem_singleton.mpr rfl)⟩
abbrev rm_X0_init : Room := { frames := 1, cells := 0, slots := 0, locals := 60 }
set_option maxHeartbeats 4000000 in
set_option maxRecDepth 100000 in
/-- Body() -/
theorem c_body {D : va_G} {ad : Nat → Nat} {ct : Nat → ClassId} {F S : Nat} {σ : ph_S} {q : Nat} {g : Int32} (m_q : q ∈ ph_L σ) : gM yX0_init cX0_init 2 none rm_X0_init D (gt ct) (cw ad ct F S σ) [.ref q, .int g] (fun v w => v = none ∧ w = cw ad ct F S (ph_bi σ q g)) := by
  refine gM_inI RX0 rfl rfl (by decide) (Nat.le_of_ble_eq_true rfl) (fun X C hI => ?_)
  refine gV_aload_n (pc := 0) (x := q) C dX0_init_0 0 rfl rfl ?_
  refine gV_objInit (pc := 1) C w_obj_X0 w_obj_i w_obj_c (Nat.le_of_ble_eq_true rfl) (by decide) dX0_init_1 ?_
  refine gV_aload_n (pc := 4) (x := q) C dX0_init_4 0 rfl rfl ?_
  refine gV_iload_n (pc := 5) C dX0_init_5 1 rfl rfl ?_
  refine cp_b_pageNumber (pc := 6) (σ := σ) C hI m_q dX0_init_6 ?_
  refine gV_aload_n (pc := 9) (x := q) C dX0_init_9 0 rfl rfl ?_
  refine gV_iconst (pc := 10) (v := (-1)) C dX0_init_10 (by decide) ?_
  refine cp_b_frame (pc := 11) (σ := ph_sB σ 0 q g) C m_q fl_X0_15 dX0_init_11 ?_
  refine gV_aload_n (pc := 14) (x := q) C dX0_init_14 0 rfl rfl ?_
  refine gV_iconst (pc := 15) (v := (-1)) C dX0_init_15 (by decide) ?_
  refine cp_b_sector (pc := 16) (σ := ph_sB (ph_sB σ 0 q g) 1 q ((-1))) C m_q fl_X0_18 dX0_init_16 ?_
  refine gV_aload_n (pc := 19) (x := q) C dX0_init_19 0 rfl rfl ?_
  refine gV_iconst (pc := 20) (v := 1) C dX0_init_20 (by decide) ?_
  refine cp_b_holders (pc := 21) (σ := ph_sB (ph_sB (ph_sB σ 0 q g) 1 q ((-1))) 2 q ((-1))) C m_q fl_X0_21 dX0_init_21 ?_
  refine gV_vret (pc := 24) C dX0_init_24 (by decide) (by decide) ?_
  exact ⟨rfl, rfl⟩
abbrev rm_X2_newBody : Room := { frames := 3, cells := 1, slots := 5, locals := 81 }
set_option maxHeartbeats 4000000 in
set_option maxRecDepth 100000 in
/-- newBody -/
theorem c_newBody {D : va_G} {ad : Nat → Nat} {ct : Nat → ClassId} {F S : Nat} {σ : ph_S} {g : Int32} {f : Nat} (hf : f < F) (hF : F ≤ 16) : gM yX2_newBody cX2_newBody 4 (some (.object "PagerHouse$Body")) rm_X2_newBody D (gt ct) (cw ad ct F S σ) [.ref (ad 0), .int g, .int (nI f)] (fun v w => ∃ q, q ∉ ph_L σ ∧ v = some (va_rf (some q)) ∧ w = cw ad ct F S (ph_nb F σ q g f)) := by
  refine gM_in RX2 rfl (by decide) (Nat.le_of_ble_eq_true rfl) (fun X C => ?_)
  refine cn_body (pc := 0) C (by decide) (by decide) dX2_newBody_0 (fun q hq => ?_)
  have m_q : q ∈ ph_L (ph_nB σ q) := List.mem_append_right _ (List.mem_singleton.mpr rfl)
  refine gV_dup (pc := 3) C dX2_newBody_3 rfl ?_
  refine gV_iload_n (pc := 4) C dX2_newBody_4 1 rfl rfl ?_
  refine gV_callI (pc := 5) (As := [.int g]) (rest := [.ref q]) C ml_X2_175 gy_X0_init gi_X0_init (c_body (q := q) (g := g) m_q)  rfl rfl ⟨by decide, by decide⟩ (Nat.le_of_ble_eq_true rfl) (by decide) (by decide) dX2_newBody_5 ?_
  rintro _ _ ⟨rfl, rfl⟩
  refine gV_astore_n (pc := 8) (x := q) (lv' := [(3, .ref q), (0, .ref (ad 0)), (1, .int g), (2, .int (nI f))]) C dX2_newBody_8 rfl (by decide) rfl ?_
  refine gV_aload_n (pc := 9) (x := ad 0) C dX2_newBody_9 1 rfl rfl ?_
  refine gV_aload_n (pc := 10) (x := q) C dX2_newBody_10 0 rfl rfl ?_
  refine gV_iload_n (pc := 11) C dX2_newBody_11 3 rfl rfl ?_
  refine gV_callV (pc := 12) (As := [.ref q, .int (nI f)]) (rest := []) C ml_X2_176 gy_X2_lay gv_X2_lay (c_lay (a := q) (f := f) m_q hf (by omega)) ⟨0, 2, _, _, rfl, rfl, rfl⟩ rfl rfl ⟨by decide, by decide⟩ (Nat.le_of_ble_eq_true rfl) (by decide) (by decide) dX2_newBody_12 ?_
  rintro _ _ ⟨rfl, rfl⟩
  refine gV_aload_n (pc := 15) (x := ad 0) C dX2_newBody_15 1 rfl rfl ?_
  refine cg_frames (pc := 16) C fl_X2_23 dX2_newBody_16 ?_
  refine gV_iload_n (pc := 19) C dX2_newBody_19 3 rfl rfl ?_
  refine gV_callV (pc := 20) (As := [.int (nI f)]) (rest := []) C ml_X2_179 gy_X1_zero gv_X1_zero (c_zero (r := f) (by omega) hf) ⟨1, 1, _, _, rfl, rfl, rfl⟩ rfl rfl ⟨by decide, by decide⟩ (Nat.le_of_ble_eq_true rfl) (by decide) (by decide) dX2_newBody_20 ?_
  rintro _ _ ⟨rfl, rfl⟩
  refine gV_aload_n (pc := 23) (x := q) C dX2_newBody_23 0 rfl rfl ?_
  refine gV_aret (pc := 24) (r := some q) C dX2_newBody_24 (by decide) (by decide) ?_
  exact ⟨q, hq, rfl, rfl⟩
abbrev rm_X2_copyBody : Room := { frames := 4, cells := 1, slots := 5, locals := 104 }
set_option maxHeartbeats 4000000 in
set_option maxRecDepth 100000 in
/-- copyBody -/
theorem c_copyBody {D : va_G} {ad : Nat → Nat} {ct : Nat → ClassId} {F S : Nat} {σ : ph_S} {a f : Nat} (hok : ph_ok F S σ) (m_a : a ∈ ph_L σ) (hf : f < F) : gM yX2_copyBody cX2_copyBody 4 (some (.object "PagerHouse$Body")) rm_X2_copyBody D (gt ct) (cw ad ct F S σ) [.ref (ad 0), .ref a, .int (nI f)] (fun v w => ∃ q, q ∉ ph_L σ ∧ v = some (va_rf (some q)) ∧ w = cw ad ct F S (ph_cbd F σ a f q)) := by
  refine gM_in RX2 rfl (by decide) (Nat.le_of_ble_eq_true rfl) (fun X C => ?_)
  have hF := hok.F16
  have hS := hok.S64
  refine gV_aload_n (pc := 0) (x := ad 0) C dX2_copyBody_0 0 rfl rfl ?_
  refine gV_aload_n (pc := 1) (x := a) C dX2_copyBody_1 1 rfl rfl ?_
  refine cg_b_pageNumber (pc := 2) (σ := σ) C m_a fl_X2_127 dX2_copyBody_2 ?_
  refine gV_iload_n (pc := 5) C dX2_copyBody_5 2 rfl rfl ?_
  refine gV_callV (pc := 6) (As := [.int (ph_B σ 0 a), .int (nI f)]) (rest := []) C ml_X2_168 gy_X2_newBody gv_X2_newBody (c_newBody (g := (ph_B σ 0 a)) (f := f) hf (by omega)) ⟨0, 2, _, _, rfl, rfl, rfl⟩ rfl rfl ⟨by decide, by decide⟩ (Nat.le_of_ble_eq_true rfl) (by decide) (by decide) dX2_copyBody_6 ?_
  rintro _ _ ⟨q_1, hq_1, rfl, rfl⟩
  have m_2 : a ∈ ph_L (ph_nb F σ q_1 (ph_B σ 0 a) f) := by rw [ph_nb_L]; exact List.mem_append_left _ m_a
  have m_3 : q_1 ∈ ph_L (ph_nb F σ q_1 (ph_B σ 0 a) f) := by rw [ph_nb_L]; exact List.mem_append_right _ (List.mem_singleton.mpr rfl)
  refine gV_astore_n (pc := 9) (x := q_1) (lv' := [(3, .ref q_1), (0, .ref (ad 0)), (1, .ref a), (2, .int (nI f))]) C dX2_copyBody_9 rfl (by decide) rfl ?_
  refine gV_aload_n (pc := 10) (x := ad 0) C dX2_copyBody_10 1 rfl rfl ?_
  refine cg_frames (pc := 11) C fl_X2_23 dX2_copyBody_11 ?_
  refine gV_iload_n (pc := 14) C dX2_copyBody_14 3 rfl rfl ?_
  refine gV_aload_n (pc := 15) (x := ad 0) C dX2_copyBody_15 1 rfl rfl ?_
  refine cg_frames (pc := 16) C fl_X2_23 dX2_copyBody_16 ?_
  refine gV_aload_n (pc := 19) (x := a) C dX2_copyBody_19 2 rfl rfl ?_
  refine cg_b_frame (pc := 20) (σ := ph_nb F σ q_1 (ph_B σ 0 a) f) C m_2 fl_X2_76 dX2_copyBody_20 ?_
  refine gV_callV (pc := 23) (As := [.int (nI f), .ref (ad 1), .int (ph_B (ph_nb F σ q_1 (ph_B σ 0 a) f) 1 a)]) (rest := []) C ml_X2_182 gy_X1_copyWords gv_X1_copyWords (c_copyWords11 _ _ (by omega) (by omega)) ⟨1, 1, _, _, rfl, rfl, rfl⟩ rfl rfl ⟨by decide, by decide⟩ (Nat.le_of_ble_eq_true rfl) (by decide) (by decide) dX2_copyBody_23 ?_
  rintro _ _ ⟨rfl, rfl⟩
  have m_4 : a ∈ ph_L (ph_cpy F F 0 0 (ph_nb F σ q_1 (ph_B σ 0 a) f) (nI f) (ph_B (ph_nb F σ q_1 (ph_B σ 0 a) f) 1 a)) := by rw [ph_cpy_L]; exact m_2
  have m_5 : q_1 ∈ ph_L (ph_cpy F F 0 0 (ph_nb F σ q_1 (ph_B σ 0 a) f) (nI f) (ph_B (ph_nb F σ q_1 (ph_B σ 0 a) f) 1 a)) := by rw [ph_cpy_L]; exact m_3
  refine gV_aload_n (pc := 26) (x := a) C dX2_copyBody_26 2 rfl rfl ?_
  refine gV_dup (pc := 27) C dX2_copyBody_27 rfl ?_
  refine cg_b_holders (pc := 28) (σ := ph_cpy F F 0 0 (ph_nb F σ q_1 (ph_B σ 0 a) f) (nI f) (ph_B (ph_nb F σ q_1 (ph_B σ 0 a) f) 1 a)) C m_4 fl_X2_55 dX2_copyBody_28 ?_
  refine gV_iconst (pc := 31) (v := 1) C dX2_copyBody_31 (by decide) ?_
  refine gV_isub (pc := 32) C dX2_copyBody_32 ?_
  refine cp_b_holders (pc := 33) (σ := ph_cpy F F 0 0 (ph_nb F σ q_1 (ph_B σ 0 a) f) (nI f) (ph_B (ph_nb F σ q_1 (ph_B σ 0 a) f) 1 a)) C m_4 fl_X2_55 dX2_copyBody_33 ?_
  refine gV_aload_n (pc := 36) (x := ad 0) C dX2_copyBody_36 1 rfl rfl ?_
  refine gV_dup (pc := 37) C dX2_copyBody_37 rfl ?_
  refine cg_copies (pc := 38) C fl_X2_158 dX2_copyBody_38 ?_
  refine gV_iconst (pc := 41) (v := 1) C dX2_copyBody_41 (by decide) ?_
  refine gV_iadd (pc := 42) C dX2_copyBody_42 ?_
  refine cp_copies (pc := 43) C fl_X2_158 dX2_copyBody_43 ?_
  refine gV_aload_n (pc := 46) (x := q_1) C dX2_copyBody_46 0 rfl rfl ?_
  refine gV_aret (pc := 47) (r := some q_1) C dX2_copyBody_47 (by decide) (by decide) ?_
  exact ⟨q_1, hq_1, rfl, rfl⟩
abbrev rm_X2_ownBody : Room := { frames := 5, cells := 1, slots := 5, locals := 149 }
set_option maxHeartbeats 4000000 in
set_option maxRecDepth 100000 in
/-- ownBody -/
theorem c_ownBody {D : va_G} {ad : Nat → Nat} {ct : Nat → ClassId} {F S : Nat} {σ : ph_S} {r : Option Nat} {g : Int32} (hok : ph_ok F S σ) (hr : ∀ a, r = some a → a ∈ ph_L σ) : gM yX2_ownBody cX2_ownBody 3 (some (.object "PagerHouse$Body")) rm_X2_ownBody D (gt ct) (cw ad ct F S σ) [.ref (ad 0), va_rf r, .int g] (fun v w => ∃ b σ2, ph_own F S σ r g b σ2 ∧ v = some (va_rf (some b)) ∧ w = cw ad ct F S σ2) := by
  have hF := hok.F16
  cases r with
  | none =>
    refine gM_in RX2 rfl (by decide) (Nat.le_of_ble_eq_true rfl) (fun X C => ?_)
    refine gV_aloadq_n (pc := 0) (r := none) C dX2_ownBody_0 1 rfl rfl ?_
    refine gV_ifnonnull (pc := 1) (r := none) C 15 dX2_ownBody_1 (by decide) (fun _ h => nomatch h) (fun _ => ?_)
    refine gV_aload_n (pc := 4) (x := ad 0) C dX2_ownBody_4 0 rfl rfl ?_
    refine gV_iload_n (pc := 5) C dX2_ownBody_5 2 rfl rfl ?_
    refine gV_aload_n (pc := 6) (x := ad 0) C dX2_ownBody_6 0 rfl rfl ?_
    refine gV_iconst (pc := 7) (v := (-1)) C dX2_ownBody_7 (by decide) ?_
    refine gV_callV (pc := 8) (As := [.int ((-1))]) (rest := [.int g, .ref (ad 0)]) C ml_X2_79 gy_X2_take gv_X2_take (c_take ((-1)) hok) ⟨0, 2, _, _, rfl, rfl, rfl⟩ rfl rfl ⟨by decide, by decide⟩ (Nat.le_of_ble_eq_true rfl) (by decide) (by decide) dX2_ownBody_8 ?_
    rintro _ _ ⟨rfl, rfl⟩
    refine gV_callV (pc := 11) (As := [.int g, .int (nI (ph_tkN F S ((-1)) σ))]) (rest := []) C ml_X2_168 gy_X2_newBody gv_X2_newBody (c_newBody (g := g) (f := (ph_tkN F S ((-1)) σ)) (tkN_lt hok) (by omega)) ⟨0, 2, _, _, rfl, rfl, rfl⟩ rfl rfl ⟨by decide, by decide⟩ (Nat.le_of_ble_eq_true rfl) (by decide) (by decide) dX2_ownBody_11 ?_
    rintro _ _ ⟨q_1, hq_1, rfl, rfl⟩
    have m_2 : q_1 ∈ ph_L (ph_nb F (ph_tkS F S ((-1)) σ) q_1 g (ph_tkN F S ((-1)) σ)) := by rw [ph_nb_L]; exact List.mem_append_right _ (List.mem_singleton.mpr rfl)
    refine gV_aret (pc := 14) (r := some q_1) C dX2_ownBody_14 (by decide) (by decide) ?_
    exact ⟨q_1, _, ⟨by rw [← ph_tkS_L F S (-1) σ]; exact hq_1, rfl⟩, rfl, rfl⟩
  | some a =>
    have m_a := hr a rfl
    have hok1 := ok_own1 hok m_a
    refine gM_in RX2 rfl (by decide) (Nat.le_of_ble_eq_true rfl) (fun X C => ?_)
    refine gV_aload_n (pc := 0) (x := a) C dX2_ownBody_0 1 rfl rfl ?_
    refine gV_ifnonnull (pc := 1) (r := some a) C 15 dX2_ownBody_1 (by decide) (fun _ _ => ?_) (fun h => nomatch h)
    refine gV_aload_n (pc := 15) (x := a) C dX2_ownBody_15 1 rfl rfl ?_
    refine cg_b_frame (pc := 16) (σ := σ) C m_a fl_X2_76 dX2_ownBody_16 ?_
    refine gV_iconst (pc := 19) (v := (-1)) C dX2_ownBody_19 (by decide) ?_
    refine gV_icmp_ne (pc := 20) C 33 dX2_ownBody_20 (by decide) (fun c_1 => ?_) (fun c_1 => ?_)
    · skip
      refine gV_ws (congrArg (cw ad ct F S) (show σ = ph_own1 F S σ a by rw [ph_own1, if_neg c_1])) ?_
      have m_b : a ∈ ph_L (ph_own1 F S σ a) := by rw [ph_own1_L]; exact m_a
      refine gV_aload_n (pc := 33) (x := a) C dX2_ownBody_33 1 rfl rfl ?_
      refine cg_b_holders (pc := 34) (σ := ph_own1 F S σ a) C m_b fl_X2_55 dX2_ownBody_34 ?_
      refine gV_iconst (pc := 37) (v := 1) C dX2_ownBody_37 (by decide) ?_
      refine gV_icmp_le (pc := 38) C 57 dX2_ownBody_38 (by decide) (fun c_12 => ?_) (fun c_12 => ?_)
      · skip
        refine gV_aload_n (pc := 57) (x := a) C dX2_ownBody_57 1 rfl rfl ?_
        refine gV_aret (pc := 58) (r := some a) C dX2_ownBody_58 (by decide) (by decide) ?_
        exact ⟨_, _, by show ph_own2 _ _ _ _ _ _; unfold ph_own2; rw [if_pos c_12]; exact ⟨rfl, rfl⟩, rfl, rfl⟩
      · skip
        refine gV_aload_n (pc := 41) (x := ad 0) C dX2_ownBody_41 0 rfl rfl ?_
        refine gV_aload_n (pc := 42) (x := a) C dX2_ownBody_42 1 rfl rfl ?_
        refine gV_aload_n (pc := 43) (x := ad 0) C dX2_ownBody_43 0 rfl rfl ?_
        refine gV_aload_n (pc := 44) (x := a) C dX2_ownBody_44 1 rfl rfl ?_
        refine cg_b_frame (pc := 45) (σ := ph_own1 F S σ a) C m_b fl_X2_76 dX2_ownBody_45 ?_
        refine gV_callV (pc := 48) (As := [.int (ph_B (ph_own1 F S σ a) 1 a)]) (rest := [.ref a, .ref (ad 0)]) C ml_X2_79 gy_X2_take gv_X2_take (c_take (ph_B (ph_own1 F S σ a) 1 a) hok1) ⟨0, 2, _, _, rfl, rfl, rfl⟩ rfl rfl ⟨by decide, by decide⟩ (Nat.le_of_ble_eq_true rfl) (by decide) (by decide) dX2_ownBody_48 ?_
        rintro _ _ ⟨rfl, rfl⟩
        have m_13 : a ∈ ph_L (ph_tkS F S (ph_B (ph_own1 F S σ a) 1 a) (ph_own1 F S σ a)) := by rw [ph_tkS_L]; exact m_b
        refine gV_callV (pc := 51) (As := [.ref a, .int (nI (ph_tkN F S (ph_B (ph_own1 F S σ a) 1 a) (ph_own1 F S σ a)))]) (rest := []) C ml_X2_172 gy_X2_copyBody gv_X2_copyBody (c_copyBody (a := a) (f := (ph_tkN F S (ph_B (ph_own1 F S σ a) 1 a) (ph_own1 F S σ a))) (ok_tkS hok1) m_13 (tkN_lt hok1)) ⟨0, 2, _, _, rfl, rfl, rfl⟩ rfl rfl ⟨by decide, by decide⟩ (Nat.le_of_ble_eq_true rfl) (by decide) (by decide) dX2_ownBody_51 ?_
        rintro _ _ ⟨q_14, hq_14, rfl, rfl⟩
        refine gV_goto (pc := 54) C 58 dX2_ownBody_54 (by decide) ?_
        refine gV_aret (pc := 58) (r := some q_14) C dX2_ownBody_58 (by decide) (by decide) ?_
        exact ⟨_, _, by show ph_own2 _ _ _ _ _ _; unfold ph_own2; rw [if_neg c_12]; exact ⟨by rw [← ph_tkS_L F S (ph_B (ph_own1 F S σ a) 1 a) (ph_own1 F S σ a)]; exact hq_14, rfl⟩, rfl, rfl⟩
    · skip
      refine gV_aload_n (pc := 23) (x := ad 0) C dX2_ownBody_23 0 rfl rfl ?_
      refine gV_aload_n (pc := 24) (x := a) C dX2_ownBody_24 1 rfl rfl ?_
      refine gV_aload_n (pc := 25) (x := ad 0) C dX2_ownBody_25 0 rfl rfl ?_
      refine gV_iconst (pc := 26) (v := (-1)) C dX2_ownBody_26 (by decide) ?_
      refine gV_callV (pc := 27) (As := [.int ((-1))]) (rest := [.ref a, .ref (ad 0)]) C ml_X2_79 gy_X2_take gv_X2_take (c_take ((-1)) hok) ⟨0, 2, _, _, rfl, rfl, rfl⟩ rfl rfl ⟨by decide, by decide⟩ (Nat.le_of_ble_eq_true rfl) (by decide) (by decide) dX2_ownBody_27 ?_
      rintro _ _ ⟨rfl, rfl⟩
      have m_15 : a ∈ ph_L (ph_tkS F S ((-1)) σ) := by rw [ph_tkS_L]; exact m_a
      refine gV_callV (pc := 30) (As := [.ref a, .int (nI (ph_tkN F S ((-1)) σ))]) (rest := []) C ml_X2_83 gy_X2_bring gv_X2_bring (c_bring (a := a) (f := (ph_tkN F S ((-1)) σ)) (ok_tkS hok) m_15 (tkN_lt hok)) ⟨0, 2, _, _, rfl, rfl, rfl⟩ rfl rfl ⟨by decide, by decide⟩ (Nat.le_of_ble_eq_true rfl) (by decide) (by decide) dX2_ownBody_30 ?_
      rintro _ _ ⟨rfl, rfl⟩
      have m_16 : a ∈ ph_L (ph_br F S (ph_tkS F S ((-1)) σ) a (ph_tkN F S ((-1)) σ)) := by rw [ph_br_L]; exact m_15
      refine gV_ws (congrArg (cw ad ct F S) (show ph_br F S (ph_tkS F S ((-1)) σ) a (ph_tkN F S ((-1)) σ) = ph_own1 F S σ a by rw [ph_own1, if_pos c_1])) ?_
      have m_b : a ∈ ph_L (ph_own1 F S σ a) := by rw [ph_own1_L]; exact m_a
      refine gV_aload_n (pc := 33) (x := a) C dX2_ownBody_33 1 rfl rfl ?_
      refine cg_b_holders (pc := 34) (σ := ph_own1 F S σ a) C m_b fl_X2_55 dX2_ownBody_34 ?_
      refine gV_iconst (pc := 37) (v := 1) C dX2_ownBody_37 (by decide) ?_
      refine gV_icmp_le (pc := 38) C 57 dX2_ownBody_38 (by decide) (fun c_27 => ?_) (fun c_27 => ?_)
      · skip
        refine gV_aload_n (pc := 57) (x := a) C dX2_ownBody_57 1 rfl rfl ?_
        refine gV_aret (pc := 58) (r := some a) C dX2_ownBody_58 (by decide) (by decide) ?_
        exact ⟨_, _, by show ph_own2 _ _ _ _ _ _; unfold ph_own2; rw [if_pos c_27]; exact ⟨rfl, rfl⟩, rfl, rfl⟩
      · skip
        refine gV_aload_n (pc := 41) (x := ad 0) C dX2_ownBody_41 0 rfl rfl ?_
        refine gV_aload_n (pc := 42) (x := a) C dX2_ownBody_42 1 rfl rfl ?_
        refine gV_aload_n (pc := 43) (x := ad 0) C dX2_ownBody_43 0 rfl rfl ?_
        refine gV_aload_n (pc := 44) (x := a) C dX2_ownBody_44 1 rfl rfl ?_
        refine cg_b_frame (pc := 45) (σ := ph_own1 F S σ a) C m_b fl_X2_76 dX2_ownBody_45 ?_
        refine gV_callV (pc := 48) (As := [.int (ph_B (ph_own1 F S σ a) 1 a)]) (rest := [.ref a, .ref (ad 0)]) C ml_X2_79 gy_X2_take gv_X2_take (c_take (ph_B (ph_own1 F S σ a) 1 a) hok1) ⟨0, 2, _, _, rfl, rfl, rfl⟩ rfl rfl ⟨by decide, by decide⟩ (Nat.le_of_ble_eq_true rfl) (by decide) (by decide) dX2_ownBody_48 ?_
        rintro _ _ ⟨rfl, rfl⟩
        have m_28 : a ∈ ph_L (ph_tkS F S (ph_B (ph_own1 F S σ a) 1 a) (ph_own1 F S σ a)) := by rw [ph_tkS_L]; exact m_b
        refine gV_callV (pc := 51) (As := [.ref a, .int (nI (ph_tkN F S (ph_B (ph_own1 F S σ a) 1 a) (ph_own1 F S σ a)))]) (rest := []) C ml_X2_172 gy_X2_copyBody gv_X2_copyBody (c_copyBody (a := a) (f := (ph_tkN F S (ph_B (ph_own1 F S σ a) 1 a) (ph_own1 F S σ a))) (ok_tkS hok1) m_28 (tkN_lt hok1)) ⟨0, 2, _, _, rfl, rfl, rfl⟩ rfl rfl ⟨by decide, by decide⟩ (Nat.le_of_ble_eq_true rfl) (by decide) (by decide) dX2_ownBody_51 ?_
        rintro _ _ ⟨q_29, hq_29, rfl, rfl⟩
        refine gV_goto (pc := 54) C 58 dX2_ownBody_54 (by decide) ?_
        refine gV_aret (pc := 58) (r := some q_29) C dX2_ownBody_58 (by decide) (by decide) ?_
        exact ⟨_, _, by show ph_own2 _ _ _ _ _ _; unfold ph_own2; rw [if_neg c_27]; exact ⟨by rw [← ph_tkS_L F S (ph_B (ph_own1 F S σ a) 1 a) (ph_own1 F S σ a)]; exact hq_29, rfl⟩, rfl, rfl⟩
end
section
theorem lpG_in (σ : ph_S) : ∀ d i, ph_lpG σ d i = -1 ∨ ∃ j, j < i + d ∧ ph_lpG σ d i = nI j
  | 0, _ => Or.inl rfl
  | d + 1, i => by
    unfold ph_lpG; split
    · exact Or.inr ⟨i, by omega, rfl⟩
    · rcases lpG_in σ d (i + 1) with h | ⟨j, hj, h⟩
      · exact Or.inl h
      · exact Or.inr ⟨j, by omega, h⟩
theorem lp_in {σ : ph_S} (h : ¬ ph_lp σ = -1) : ∃ j, j < 8 ∧ ph_lp σ = nI j := by
  rcases lpG_in σ 8 0 with h1 | h1
  · exact absurd h1 h
  · exact h1
theorem lp_vin {σ : ph_S} (h : ¬ ph_lp σ = -1) : vp_in (ph_lp σ) 8 := by
  obtain ⟨j, hj, e⟩ := lp_in h
  rw [e]; exact vp_in_nI hj (by decide)
def ph_bgV (σ : ph_S) (m : Int32) : Int32 := if ph_lp σ = -1 then -1 else if m < 1 then -1 else if m ≤ 32 then ph_lp σ else -1
def ph_bgW (σ : ph_S) (m : Int32) : ph_S := if ph_lp σ = -1 then σ else if m < 1 then σ else if m ≤ 32 then ph_sA σ 3 (ph_lp σ).toNatClampNeg m else σ
def ph_fkS (P Q : Nat) (σ : ph_S) (i : Nat) : ph_S := match ph_R σ 2 (P * 32 + i) with
  | none => ph_sR σ 2 (Q * 32 + i) none
  | some a => ph_sB (ph_sR σ 2 (Q * 32 + i) (some a)) 3 a (ph_B (ph_sR σ 2 (Q * 32 + i) (some a)) 3 a + 1)
def ph_fkG (P Q : Nat) : Nat → Nat → ph_S → ph_S
  | 0, _, σ => σ
  | d + 1, i, σ => ph_fkG P Q d (i + 1) (ph_fkS P Q σ i)
def ph_fkV (σ : ph_S) (p : Int32) : Int32 := if ph_lp σ = -1 then -1 else if ph_hp σ p = 0 then -1 else ph_lp σ
def ph_fkW (σ : ph_S) (p : Int32) : ph_S := if ph_lp σ = -1 then σ else if ph_hp σ p = 0 then σ else ph_fkG p.toNatClampNeg (ph_lp σ).toNatClampNeg (ph_A σ 3 p.toNatClampNeg).toNatClampNeg 0 (ph_sA σ 3 (ph_lp σ).toNatClampNeg (ph_A σ 3 p.toNatClampNeg))
def ph_enG (F S P : Nat) : Nat → Nat → ph_S → ph_S
  | 0, _, σ => σ
  | d + 1, i, σ => ph_enG F S P d (i + 1) (ph_em F S σ (P * 32 + i))
def ph_enV (σ : ph_S) (p : Int32) : Int32 := if ph_hp σ p = 0 then 0 else 1
def ph_enW (F S : Nat) (σ : ph_S) (p : Int32) : ph_S := if ph_hp σ p = 0 then σ else ph_sA (ph_enG F S p.toNatClampNeg (ph_A σ 3 p.toNatClampNeg).toNatClampNeg 0 σ) 3 p.toNatClampNeg 0
theorem A_sR (σ : ph_S) (k j : Nat) (v : Option Nat) (k' j' : Nat) : ph_A (ph_sR σ k j v) k' j' = ph_A σ k' j' := rfl
theorem A_sB (σ : ph_S) (k j : Nat) (v : Int32) (k' j' : Nat) : ph_A (ph_sB σ k j v) k' j' = ph_A σ k' j' := rfl
theorem A_sI (σ : ph_S) (k : Nat) (v : Int32) (k' j' : Nat) : ph_A (ph_sI σ k v) k' j' = ph_A σ k' j' := rfl
theorem rel2_A (S : Nat) (σ : ph_S) (a k j : Nat) : ph_A (ph_rel2 S σ a) k j = ph_A σ k j := by
  unfold ph_rel2; split
  · rfl
  · rw [A_sR]
theorem rel_A3 (F S : Nat) (σ : ph_S) (a j : Nat) : ph_A (ph_rel F S σ a) 3 j = ph_A σ 3 j := by
  unfold ph_rel; split
  · rw [rel2_A]
  · rw [rel2_A]; unfold ph_rel1; rw [A_sA, if_neg (by omega), A_sR]
theorem em1_A (σ : ph_S) (s a k j : Nat) : ph_A (ph_em1 σ s a) k j = ph_A σ k j := by
  unfold ph_em1; rw [A_sB, A_sR]
theorem em_A3 (F S : Nat) (σ : ph_S) (s j : Nat) : ph_A (ph_em F S σ s) 3 j = ph_A σ 3 j := by
  unfold ph_em; split
  · rfl
  · unfold ph_em2; split
    · rw [rel_A3, em1_A]
    · rw [em1_A]
theorem hg_in {σ : ph_S} {p g : Int32} (h : ¬ ph_hg σ p g = 0) : ¬ ph_hp σ p = 0 ∧ ¬ g < 0 ∧ ¬ ph_A σ 3 p.toNatClampNeg ≤ g := by
  unfold ph_hg at h
  split at h
  · exact absurd rfl h
  · split at h
    · exact absurd rfl h
    · split at h
      · exact absurd rfl h
      · exact ⟨by assumption, by assumption, by assumption⟩
theorem hg_nat {F S : Nat} {σ : ph_S} {p g : Int32} (hok : ph_ok F S σ) (h : ¬ ph_hg σ p g = 0) : ∃ P G m, P < 8 ∧ G < m ∧ m ≤ 32 ∧ p = nI P ∧ g = nI G ∧ ph_A σ 3 P = nI m := by
  obtain ⟨h1, h2, h3⟩ := hg_in h
  obtain ⟨P, hP, rfl⟩ := vp_in_of (ph_hp_vin h1) (by decide)
  obtain ⟨m, hm, e⟩ := hok.pn hP
  obtain ⟨G, hG, rfl⟩ := nI_of h2
  rw [nI_clamp (by omega), e] at h3
  exact ⟨P, G, m, hP, Nat.lt_of_not_le fun z => h3 (nI_le z hG), hm, rfl, rfl, e⟩
theorem hg_slot {F S : Nat} {σ : ph_S} {p g : Int32} (hok : ph_ok F S σ) (h : ¬ ph_hg σ p g = 0) : vp_in (p * 32 + g) 256 := by
  obtain ⟨P, G, m, h1, h2, h3, rfl, rfl, -⟩ := hg_nat hok h
  exact slot_in h1 (by omega)
def ph_drV (σ : ph_S) (p g : Int32) : Int32 := if ph_hg σ p g = 0 then 0 else ph_emV σ (p * 32 + g).toNatClampNeg
def ph_drW (F S : Nat) (σ : ph_S) (p g : Int32) : ph_S := if ph_hg σ p g = 0 then σ else ph_em F S σ (p * 32 + g).toNatClampNeg
theorem emV_01 (σ : ph_S) (s : Nat) : ph_emV σ s = 0 ∨ ph_emV σ s = 1 := by
  unfold ph_emV; split
  · exact Or.inl rfl
  · exact Or.inr rfl
def ph_flG (F S : Nat) : Nat → Nat → ph_S → ph_S
  | 0, _, σ => σ
  | d + 1, i, σ => match ph_R σ 0 i with
    | none => ph_flG F S d (i + 1) σ
    | some a => if ph_B σ 4 a = 0 then ph_flG F S d (i + 1) σ else ph_flG F S d (i + 1) (ph_st F S σ a)
def ph_flN (F S : Nat) : Nat → Nat → ph_S → Nat
  | 0, _, _ => 0
  | d + 1, i, σ => match ph_R σ 0 i with
    | none => ph_flN F S d (i + 1) σ
    | some a => if ph_B σ 4 a = 0 then ph_flN F S d (i + 1) σ else ph_flN F S d (i + 1) (ph_st F S σ a) + 1
def ph_flV (F S : Nat) (σ : ph_S) : Int32 := if ph_cs F σ ≤ nI (ph_cf (ph_R σ 1) S) then nI (ph_flN F S F 0 σ) else -1
def ph_flW (F S : Nat) (σ : ph_S) : ph_S := if ph_cs F σ ≤ nI (ph_cf (ph_R σ 1) S) then ph_flG F S F 0 σ else σ
def ph_pg2 (σ : ph_S) (r : Option Nat) (w : Int32) : Int32 := match r with
  | none => if w = 0 then -1 else if w = 1 then -1 else if w = 2 then 0 else if w = 3 then 0 else -1
  | some a => if w = 0 then ph_B σ 1 a else if w = 1 then ph_B σ 2 a else if w = 2 then ph_B σ 3 a else if w = 3 then (if ph_B σ 4 a = 0 then 0 else 1) else -1
def ph_pgV (σ : ph_S) (p g w : Int32) : Int32 := if ph_hg σ p g = 0 then -1 else ph_pg2 σ (ph_R σ 2 (p * 32 + g).toNatClampNeg) w
def ph_fr3 (σ : ph_S) (r : Option Nat) (f w : Int32) : Int32 := match r with
  | none => if w = 0 then (if ph_A σ 2 f.toNatClampNeg = 0 then 0 else 1) else if w = 1 then -1 else if w = 2 then -1 else -1
  | some a => if w = 0 then (if ph_A σ 2 f.toNatClampNeg = 0 then 0 else 1) else if w = 1 then ph_lh σ a else if w = 2 then ph_B σ 0 a else -1
def ph_fr2 (σ : ph_S) (f w : Int32) : Int32 := ph_fr3 σ (ph_R σ 0 f.toNatClampNeg) f w
def ph_frV (F : Nat) (σ : ph_S) (f w : Int32) : Int32 := if ph_has F f = 0 then -1 else if w < 16 then ph_fr2 σ f w else if 32 ≤ w then ph_fr2 σ f w else ph_A σ 0 (f * 16 + w - 16).toNatClampNeg
def ph_lkV (F S : Nat) (σ : ph_S) (w : Int32) : Int32 := if w = 0 then ph_cp σ else if w = 1 then nI (ph_cf (ph_R σ 0) F) else if w = 2 then nI (ph_cf (ph_R σ 1) S) else if w = 3 then ph_I σ 0 else if w = 4 then ph_cb F S σ else if w = 5 then ph_cd F σ else if w = 6 then ph_I σ 1 else if w = 7 then ph_I σ 2 else if w = 8 then ph_I σ 3 else if w = 9 then ph_I σ 4 else if w = 10 then ph_I σ 5 else -1
theorem wd_in {F f : Nat} {w : Int32} (hF : F ≤ 64) (hf : f < F) (h1 : ¬ w < 16) (h2 : ¬ 32 ≤ w) : ∃ j, j < 16 ∧ w = nI (16 + j) ∧ nI f * 16 + w - 16 = nI (16 * f + j) := by
  have h0 : ¬ w < 0 := fun z => h1 (Int32.lt_trans z (by decide))
  obtain ⟨x, hx, rfl⟩ := nI_of h0
  have g1 : 16 ≤ x := Nat.le_of_not_lt fun z => h1 (nI_lt z (by decide))
  have g2 : x < 32 := Nat.lt_of_not_le fun z => h2 (nI_le z hx)
  refine ⟨x - 16, by omega, by congr 1; omega, ?_⟩
  rw [mul16, nI_add, show (16 : Int32) = nI 16 from rfl, pk_sub (by omega)]
  congr 1; omega
abbrev rm_X2_begin : Room := { frames := 1, cells := 0, slots := 0, locals := 21 }
set_option maxHeartbeats 4000000 in
set_option maxRecDepth 100000 in
/-- begin -/
theorem c_begin {D : va_G} {ad : Nat → Nat} {ct : Nat → ClassId} {F S : Nat} {σ : ph_S} (m : Int32) : gM yX2_begin cX2_begin 3 (some .int) rm_X2_begin D (gt ct) (cw ad ct F S σ) [.ref (ad 0), .int m] (fun v w => v = some (.int (ph_bgV σ m)) ∧ w = cw ad ct F S (ph_bgW σ m)) := by
  refine gM_in RX2 rfl (by decide) (Nat.le_of_ble_eq_true rfl) (fun X C => ?_)
  refine gV_aload_n (pc := 0) (x := ad 0) C dX2_begin_0 0 rfl rfl ?_
  refine gV_callV (pc := 1) (As := []) (rest := []) C ml_X2_44 gy_X2_leastFreeProcess gv_X2_leastFreeProcess (c_leastFreeProcess) ⟨0, 2, _, _, rfl, rfl, rfl⟩ rfl rfl ⟨by decide, by decide⟩ (Nat.le_of_ble_eq_true rfl) (by decide) (by decide) dX2_begin_1 ?_
  rintro _ _ ⟨rfl, rfl⟩
  refine gV_istore_n (pc := 4) (lv' := [(2, .int (ph_lp σ)), (0, .ref (ad 0)), (1, .int m)]) C dX2_begin_4 rfl (by decide) rfl ?_
  refine gV_iload_n (pc := 5) C dX2_begin_5 0 rfl rfl ?_
  refine gV_iconst (pc := 6) (v := (-1)) C dX2_begin_6 (by decide) ?_
  refine gV_icmp_eq (pc := 7) C 21 dX2_begin_7 (by decide) (fun c_1 => ?_) (fun c_1 => ?_)
  · skip
    refine gV_iconst (pc := 21) (v := (-1)) C dX2_begin_21 (by decide) ?_
    refine gV_iret (pc := 22) C dX2_begin_22 (by decide) (by decide) ?_
    exact ⟨by rw [ph_bgV, if_pos c_1], by rw [ph_bgW, if_pos c_1]⟩
  · skip
    refine gV_iload_n (pc := 10) C dX2_begin_10 2 rfl rfl ?_
    refine gV_iconst (pc := 11) (v := 1) C dX2_begin_11 (by decide) ?_
    refine gV_icmp_lt (pc := 12) C 21 dX2_begin_12 (by decide) (fun c_2 => ?_) (fun c_2 => ?_)
    · skip
      refine gV_iconst (pc := 21) (v := (-1)) C dX2_begin_21 (by decide) ?_
      refine gV_iret (pc := 22) C dX2_begin_22 (by decide) (by decide) ?_
      exact ⟨by rw [ph_bgV, if_neg c_1, if_pos c_2], by rw [ph_bgW, if_neg c_1, if_pos c_2]⟩
    · skip
      refine gV_iload_n (pc := 15) C dX2_begin_15 2 rfl rfl ?_
      refine gV_bipush (pc := 16) (v := 32) C dX2_begin_16 (by decide) ?_
      refine gV_icmp_le (pc := 18) C 23 dX2_begin_18 (by decide) (fun c_3 => ?_) (fun c_3 => ?_)
      · skip
        refine gV_aload_n (pc := 23) (x := ad 0) C dX2_begin_23 1 rfl rfl ?_
        refine cg_pageCounts (pc := 24) C fl_X2_34 dX2_begin_24 ?_
        refine gV_iload_n (pc := 27) C dX2_begin_27 0 rfl rfl ?_
        refine gV_iload_n (pc := 28) C dX2_begin_28 2 rfl rfl ?_
        refine cs_pn (pc := 29) C (lp_vin c_1) dX2_begin_29 ?_
        refine gV_iload_n (pc := 30) C dX2_begin_30 0 rfl rfl ?_
        refine gV_iret (pc := 31) C dX2_begin_31 (by decide) (by decide) ?_
        exact ⟨by rw [ph_bgV, if_neg c_1, if_neg c_2, if_pos c_3], by rw [ph_bgW, if_neg c_1, if_neg c_2, if_pos c_3]⟩
      · skip
        refine gV_iconst (pc := 21) (v := (-1)) C dX2_begin_21 (by decide) ?_
        refine gV_iret (pc := 22) C dX2_begin_22 (by decide) (by decide) ?_
        exact ⟨by rw [ph_bgV, if_neg c_1, if_neg c_2, if_neg c_3], by rw [ph_bgW, if_neg c_1, if_neg c_2, if_neg c_3]⟩
abbrev rm_X2_fork : Room := { frames := 1, cells := 0, slots := 0, locals := 21 }
set_option maxHeartbeats 4000000 in
set_option maxRecDepth 100000 in
theorem lp_fork {X : gx_T} {D : va_G} {ad : Nat → Nat} {ct : Nat → ClassId} {F S : Nat} {σ : ph_S} {P Q m : Nat} (hP : P < 8) (hQ : Q < 8) (hm : m ≤ 32) (hv : ph_fkV σ (nI P) = nI Q) (C : gC X cX2_fork 5 RX2 rm_X2_fork (some .int) D (gt ct) (fun v w => v = some (.int (ph_fkV σ (nI P))) ∧ w = cw ad ct F S (ph_fkW σ (nI P)))) : ∀ (d i : Nat) (τ : ph_S), i + d = m → ph_ok F S τ → ph_A τ 3 P = nI m → ph_fkG P Q d i τ = ph_fkW σ (nI P) → gV X 0 0 (cw ad ct F S τ) 34 [(3, .int (nI i)), (2, .int (nI Q)), (0, .ref (ad 0)), (1, .int (nI P))] [] := by
  intro d
  induction d with
  | zero =>
    intro i τ hi hok hA hr
    have e : τ = ph_fkW σ (nI P) := hr
    refine gV_iload_n (pc := 34) C dX2_fork_34 0 rfl rfl ?_
    refine gV_aload_n (pc := 35) (x := ad 0) C dX2_fork_35 2 rfl rfl ?_
    refine cg_pageCounts (pc := 36) C fl_X2_34 dX2_fork_36 ?_
    refine gV_iload_n (pc := 39) C dX2_fork_39 3 rfl rfl ?_
    refine ca_pn (pc := 40) C (vp_in_nI (by omega) (by omega)) dX2_fork_40 ?_
    rw [nI_clamp (by omega)]
    rw [hA]
    refine gV_icmp_ge (pc := 41) C 90 dX2_fork_41 (by decide) (fun c_1 => ?_) (fun c_1 => ?_)
    · skip
      refine gV_iload_n (pc := 90) C dX2_fork_90 1 rfl rfl ?_
      refine gV_iret (pc := 91) C dX2_fork_91 (by decide) (by decide) ?_
      exact ⟨by rw [hv], by rw [e]⟩
    · exact absurd (nI_le (by omega) (by omega)) c_1
  | succ d ih =>
    intro i τ hi hok hA hr
    refine gV_iload_n (pc := 34) C dX2_fork_34 0 rfl rfl ?_
    refine gV_aload_n (pc := 35) (x := ad 0) C dX2_fork_35 2 rfl rfl ?_
    refine cg_pageCounts (pc := 36) C fl_X2_34 dX2_fork_36 ?_
    refine gV_iload_n (pc := 39) C dX2_fork_39 3 rfl rfl ?_
    refine ca_pn (pc := 40) C (vp_in_nI (by omega) (by omega)) dX2_fork_40 ?_
    rw [nI_clamp (by omega)]
    rw [hA]
    refine gV_icmp_ge (pc := 41) C 90 dX2_fork_41 (by decide) (fun c_1 => ?_) (fun c_1 => ?_)
    · exact absurd c_1 (nI_ge (by omega) (by omega))
    · skip
      refine gV_aload_n (pc := 44) (x := ad 0) C dX2_fork_44 2 rfl rfl ?_
      refine cg_bodies (pc := 45) C fl_X2_40 dX2_fork_45 ?_
      refine gV_iload_n (pc := 48) C dX2_fork_48 3 rfl rfl ?_
      refine gV_iload_n (pc := 49) C dX2_fork_49 0 rfl rfl ?_
      refine gV_callS (pc := 50) (As := [.int (nI P), .int (nI i)]) (rest := [.ref (ad 9)]) C ml_X2_52 gy_X2_slot gs_X2_slot (c_slot _ _)  rfl rfl ⟨by decide, by decide⟩ (Nat.le_of_ble_eq_true rfl) (by decide) (by decide) dX2_fork_50 ?_
      rintro _ _ ⟨rfl, rfl⟩
      rw [slot_eq]
      refine ca_bo (pc := 53) C (vp_in_nI (by omega) (by omega)) dX2_fork_53 ?_
      rw [nI_clamp (by omega)]
      cases er_2 : ph_R (τ) 2 (P * 32 + i) with
      | none =>
        refine gV_astoreq (pc := 54) (r := none) (lv' := [(4, .null), (3, .int (nI i)), (2, .int (nI Q)), (0, .ref (ad 0)), (1, .int (nI P))]) C dX2_fork_54 (by decide) rfl ?_
        refine gV_aload_n (pc := 56) (x := ad 0) C dX2_fork_56 3 rfl rfl ?_
        refine cg_bodies (pc := 57) C fl_X2_40 dX2_fork_57 ?_
        refine gV_iload_n (pc := 60) C dX2_fork_60 2 rfl rfl ?_
        refine gV_iload_n (pc := 61) C dX2_fork_61 1 rfl rfl ?_
        refine gV_callS (pc := 62) (As := [.int (nI Q), .int (nI i)]) (rest := [.ref (ad 9)]) C ml_X2_52 gy_X2_slot gs_X2_slot (c_slot _ _)  rfl rfl ⟨by decide, by decide⟩ (Nat.le_of_ble_eq_true rfl) (by decide) (by decide) dX2_fork_62 ?_
        rintro _ _ ⟨rfl, rfl⟩
        rw [slot_eq]
        refine gV_aloadq (pc := 65) (r := none) C dX2_fork_65 0 rfl ?_
        refine cs_bo_n (pc := 67) C (vp_in_nI (by omega) (by omega)) dX2_fork_67 ?_
        rw [nI_clamp (by omega)]
        refine gV_aloadq (pc := 68) (r := none) C dX2_fork_68 0 rfl ?_
        refine gV_ifnull (pc := 70) (r := none) C 84 dX2_fork_70 (by decide) (fun _ => ?_) (fun _ h => nomatch h)
        refine gV_iinc (pc := 84) (v := nI (i + 1)) (lv' := [(3, .int (nI (i + 1))), (4, .null), (2, .int (nI Q)), (0, .ref (ad 0)), (1, .int (nI P))]) C dX2_fork_84 1 rfl (nI_1 _) (by decide) rfl ?_
        refine gV_goto (pc := 87) C 34 dX2_fork_87 (by decide) ?_
        refine gV_lv [0, 2, 3, 4] rfl ?_
        exact ih (i + 1) _ (by omega) (ok_sRn hok _ _) hA (by rw [← hr, ph_fkG, ph_fkS, er_2])
      | some a_2 =>
        have m_2 : a_2 ∈ ph_L (τ) := hok.refs _ _ _ er_2
        refine gV_astore (pc := 54) (x := a_2) (lv' := [(4, .ref a_2), (3, .int (nI i)), (2, .int (nI Q)), (0, .ref (ad 0)), (1, .int (nI P))]) C dX2_fork_54 (by decide) rfl ?_
        refine gV_aload_n (pc := 56) (x := ad 0) C dX2_fork_56 3 rfl rfl ?_
        refine cg_bodies (pc := 57) C fl_X2_40 dX2_fork_57 ?_
        refine gV_iload_n (pc := 60) C dX2_fork_60 2 rfl rfl ?_
        refine gV_iload_n (pc := 61) C dX2_fork_61 1 rfl rfl ?_
        refine gV_callS (pc := 62) (As := [.int (nI Q), .int (nI i)]) (rest := [.ref (ad 9)]) C ml_X2_52 gy_X2_slot gs_X2_slot (c_slot _ _)  rfl rfl ⟨by decide, by decide⟩ (Nat.le_of_ble_eq_true rfl) (by decide) (by decide) dX2_fork_62 ?_
        rintro _ _ ⟨rfl, rfl⟩
        rw [slot_eq]
        refine gV_aload (pc := 65) (x := a_2) C dX2_fork_65 0 rfl ?_
        refine cs_bo (pc := 67) (σ := τ) C m_2 (vp_in_nI (by omega) (by omega)) dX2_fork_67 ?_
        rw [nI_clamp (by omega)]
        refine gV_aload (pc := 68) (x := a_2) C dX2_fork_68 0 rfl ?_
        refine gV_ifnull (pc := 70) (r := some a_2) C 84 dX2_fork_70 (by decide) (fun h => nomatch h) (fun _ _ => ?_)
        refine gV_aload (pc := 73) (x := a_2) C dX2_fork_73 0 rfl ?_
        refine gV_dup (pc := 75) C dX2_fork_75 rfl ?_
        refine cg_b_holders (pc := 76) (σ := ph_sR (τ) 2 (Q * 32 + i) (some a_2)) C m_2 fl_X2_55 dX2_fork_76 ?_
        refine gV_iconst (pc := 79) (v := 1) C dX2_fork_79 (by decide) ?_
        refine gV_iadd (pc := 80) C dX2_fork_80 ?_
        refine cp_b_holders (pc := 81) (σ := ph_sR (τ) 2 (Q * 32 + i) (some a_2)) C m_2 fl_X2_55 dX2_fork_81 ?_
        refine gV_iinc (pc := 84) (v := nI (i + 1)) (lv' := [(3, .int (nI (i + 1))), (4, .ref a_2), (2, .int (nI Q)), (0, .ref (ad 0)), (1, .int (nI P))]) C dX2_fork_84 1 rfl (nI_1 _) (by decide) rfl ?_
        refine gV_goto (pc := 87) C 34 dX2_fork_87 (by decide) ?_
        refine gV_lv [0, 2, 3, 4] rfl ?_
        exact ih (i + 1) _ (by omega) (ok_ho (ok_sR hok _ _ m_2) _ _) hA (by rw [← hr, ph_fkG, ph_fkS, er_2])
theorem lpG_zero (σ : ph_S) : ∀ d i j, ph_lpG σ d i = nI j → i + d ≤ 8 → j < 8 → ph_A σ 3 j = 0
  | 0, _, j, h, _, hj => absurd h (by
      intro e
      have : (nI j).toInt = (-1 : Int32).toInt := by rw [← e]; rfl
      rw [nI_toInt (by omega), show (-1 : Int32).toInt = -1 by decide] at this
      omega)
  | d + 1, i, j, h, hi, hj => by
    unfold ph_lpG at h
    split at h
    · rename_i h0
      rw [(nI_eq (by omega) (by omega)).mp h] at h0
      exact h0
    · exact lpG_zero σ d (i + 1) j h (by omega) hj
theorem lp_zero {σ : ph_S} {j : Nat} (h : ph_lp σ = nI j) (hj : j < 8) : ph_A σ 3 j = 0 := lpG_zero σ 8 0 j h (by omega) hj
set_option maxHeartbeats 4000000 in
set_option maxRecDepth 100000 in
/-- fork -/
theorem c_fork {D : va_G} {ad : Nat → Nat} {ct : Nat → ClassId} {F S : Nat} {σ : ph_S} (p : Int32) (hok : ph_ok F S σ) : gM yX2_fork cX2_fork 5 (some .int) rm_X2_fork D (gt ct) (cw ad ct F S σ) [.ref (ad 0), .int p] (fun v w => v = some (.int (ph_fkV σ p)) ∧ w = cw ad ct F S (ph_fkW σ p)) := by
  refine gM_in RX2 rfl (by decide) (Nat.le_of_ble_eq_true rfl) (fun X C => ?_)
  have hF := hok.F16
  have hS := hok.S64
  refine gV_aload_n (pc := 0) (x := ad 0) C dX2_fork_0 0 rfl rfl ?_
  refine gV_callV (pc := 1) (As := []) (rest := []) C ml_X2_44 gy_X2_leastFreeProcess gv_X2_leastFreeProcess (c_leastFreeProcess) ⟨0, 2, _, _, rfl, rfl, rfl⟩ rfl rfl ⟨by decide, by decide⟩ (Nat.le_of_ble_eq_true rfl) (by decide) (by decide) dX2_fork_1 ?_
  rintro _ _ ⟨rfl, rfl⟩
  refine gV_istore_n (pc := 4) (lv' := [(2, .int (ph_lp σ)), (0, .ref (ad 0)), (1, .int p)]) C dX2_fork_4 rfl (by decide) rfl ?_
  refine gV_iload_n (pc := 5) C dX2_fork_5 0 rfl rfl ?_
  refine gV_iconst (pc := 6) (v := (-1)) C dX2_fork_6 (by decide) ?_
  refine gV_icmp_eq (pc := 7) C 18 dX2_fork_7 (by decide) (fun c_1 => ?_) (fun c_1 => ?_)
  · skip
    refine gV_iconst (pc := 18) (v := (-1)) C dX2_fork_18 (by decide) ?_
    refine gV_iret (pc := 19) C dX2_fork_19 (by decide) (by decide) ?_
    exact ⟨by rw [ph_fkV, if_pos c_1], by rw [ph_fkW, if_pos c_1]⟩
  · skip
    refine gV_aload_n (pc := 10) (x := ad 0) C dX2_fork_10 1 rfl rfl ?_
    refine gV_iload_n (pc := 11) C dX2_fork_11 2 rfl rfl ?_
    refine gV_callV (pc := 12) (As := [.int p]) (rest := []) C ml_X2_48 gy_X2_hasProcess gv_X2_hasProcess (c_hasProcess _) ⟨0, 2, _, _, rfl, rfl, rfl⟩ rfl rfl ⟨by decide, by decide⟩ (Nat.le_of_ble_eq_true rfl) (by decide) (by decide) dX2_fork_12 ?_
    rintro _ _ ⟨rfl, rfl⟩
    refine gV_if_ne (pc := 15) C 20 dX2_fork_15 (by decide) (fun c_2 => ?_) (fun c_2 => ?_)
    · skip
      obtain ⟨P, hP, rfl⟩ := vp_in_of (ph_hp_vin c_2) (by decide)
      obtain ⟨Q, hQ, eQ⟩ := lp_in c_1
      obtain ⟨m, hm, em⟩ := hok.pn hP
      have eP : (nI P).toNatClampNeg = P := nI_clamp (by omega)
      have hQP : ¬ P = Q := fun e => by
        have h9 := (ph_hp_in c_2).2.2
        rw [eP, e] at h9
        exact h9 (by rw [lp_zero eQ hQ]; decide)
      rw [eQ]
      refine gV_aload_n (pc := 20) (x := ad 0) C dX2_fork_20 1 rfl rfl ?_
      refine cg_pageCounts (pc := 21) C fl_X2_34 dX2_fork_21 ?_
      refine gV_iload_n (pc := 24) C dX2_fork_24 0 rfl rfl ?_
      refine gV_aload_n (pc := 25) (x := ad 0) C dX2_fork_25 1 rfl rfl ?_
      refine cg_pageCounts (pc := 26) C fl_X2_34 dX2_fork_26 ?_
      refine gV_iload_n (pc := 29) C dX2_fork_29 2 rfl rfl ?_
      refine ca_pn (pc := 30) C (vp_in_nI (by omega) (by omega)) dX2_fork_30 ?_
      rw [nI_clamp (by omega)]
      refine cs_pn (pc := 31) C (vp_in_nI (by omega) (by omega)) dX2_fork_31 ?_
      rw [nI_clamp (by omega)]
      refine gV_iconst (pc := 32) (v := 0) C dX2_fork_32 (by decide) ?_
      refine gV_istore_n (pc := 33) (lv' := [(3, .int 0), (2, .int (nI Q)), (0, .ref (ad 0)), (1, .int (nI P))]) C dX2_fork_33 rfl (by decide) rfl ?_
      exact lp_fork hP hQ hm (by rw [ph_fkV, if_neg c_1, if_neg c_2, eQ]) C m 0 _ (Nat.zero_add _) (ok_pn hok _ (by rw [em]; exact ⟨m, hm, rfl⟩)) (by rw [A_sA, if_neg (by omega)]; exact em) (by rw [ph_fkW, if_neg c_1, if_neg c_2, eP, eQ, em, nI_clamp (by omega), nI_clamp (by omega)])
    · skip
      refine gV_iconst (pc := 18) (v := (-1)) C dX2_fork_18 (by decide) ?_
      refine gV_iret (pc := 19) C dX2_fork_19 (by decide) (by decide) ?_
      exact ⟨by rw [ph_fkV, if_neg c_1, if_pos c_2], by rw [ph_fkW, if_neg c_1, if_pos c_2]⟩
abbrev rm_X2_end : Room := { frames := 3, cells := 0, slots := 0, locals := 64 }
set_option maxHeartbeats 4000000 in
set_option maxRecDepth 100000 in
theorem lp_end {X : gx_T} {D : va_G} {ad : Nat → Nat} {ct : Nat → ClassId} {F S : Nat} {σ : ph_S} {P m : Nat} (hP : P < 8) (hm : m ≤ 32) (hv : ph_enV σ (nI P) = 1) (C : gC X cX2_end 3 RX2 rm_X2_end (some .boolean) D (gt ct) (fun v w => v = some (.int (ph_enV σ (nI P))) ∧ w = cw ad ct F S (ph_enW F S σ (nI P)))) : ∀ (d i : Nat) (τ : ph_S), i + d = m → ph_ok F S τ → ph_A τ 3 P = nI m → ph_sA (ph_enG F S P d i τ) 3 P 0 = ph_enW F S σ (nI P) → gV X 0 0 (cw ad ct F S τ) 12 [(2, .int (nI i)), (0, .ref (ad 0)), (1, .int (nI P))] [] := by
  intro d
  induction d with
  | zero =>
    intro i τ hi hok hA hr
    have e : ph_sA τ 3 P 0 = ph_enW F S σ (nI P) := hr
    refine gV_iload_n (pc := 12) C dX2_end_12 0 rfl rfl ?_
    refine gV_aload_n (pc := 13) (x := ad 0) C dX2_end_13 1 rfl rfl ?_
    refine cg_pageCounts (pc := 14) C fl_X2_34 dX2_end_14 ?_
    refine gV_iload_n (pc := 17) C dX2_end_17 2 rfl rfl ?_
    refine ca_pn (pc := 18) C (vp_in_nI (by omega) (by omega)) dX2_end_18 ?_
    rw [nI_clamp (by omega)]
    rw [hA]
    refine gV_icmp_ge (pc := 19) C 38 dX2_end_19 (by decide) (fun c_1 => ?_) (fun c_1 => ?_)
    · skip
      refine gV_aload_n (pc := 38) (x := ad 0) C dX2_end_38 1 rfl rfl ?_
      refine cg_pageCounts (pc := 39) C fl_X2_34 dX2_end_39 ?_
      refine gV_iload_n (pc := 42) C dX2_end_42 2 rfl rfl ?_
      refine gV_iconst (pc := 43) (v := 0) C dX2_end_43 (by decide) ?_
      refine cs_pn (pc := 44) C (vp_in_nI (by omega) (by omega)) dX2_end_44 ?_
      rw [nI_clamp (by omega)]
      refine gV_iconst (pc := 45) (v := 1) C dX2_end_45 (by decide) ?_
      refine gV_zret (pc := 46) C dX2_end_46 (by decide) (by decide) (by decide) ?_
      exact ⟨by rw [hv], by rw [e]⟩
    · exact absurd (nI_le (by omega) (by omega)) c_1
  | succ d ih =>
    intro i τ hi hok hA hr
    refine gV_iload_n (pc := 12) C dX2_end_12 0 rfl rfl ?_
    refine gV_aload_n (pc := 13) (x := ad 0) C dX2_end_13 1 rfl rfl ?_
    refine cg_pageCounts (pc := 14) C fl_X2_34 dX2_end_14 ?_
    refine gV_iload_n (pc := 17) C dX2_end_17 2 rfl rfl ?_
    refine ca_pn (pc := 18) C (vp_in_nI (by omega) (by omega)) dX2_end_18 ?_
    rw [nI_clamp (by omega)]
    rw [hA]
    refine gV_icmp_ge (pc := 19) C 38 dX2_end_19 (by decide) (fun c_1 => ?_) (fun c_1 => ?_)
    · exact absurd c_1 (nI_ge (by omega) (by omega))
    · skip
      refine gV_aload_n (pc := 22) (x := ad 0) C dX2_end_22 1 rfl rfl ?_
      refine gV_iload_n (pc := 23) C dX2_end_23 2 rfl rfl ?_
      refine gV_iload_n (pc := 24) C dX2_end_24 0 rfl rfl ?_
      refine gV_callS (pc := 25) (As := [.int (nI P), .int (nI i)]) (rest := [.ref (ad 0)]) C ml_X2_52 gy_X2_slot gs_X2_slot (c_slot _ _)  rfl rfl ⟨by decide, by decide⟩ (Nat.le_of_ble_eq_true rfl) (by decide) (by decide) dX2_end_25 ?_
      rintro _ _ ⟨rfl, rfl⟩
      rw [slot_eq]
      refine gV_callV (pc := 28) (As := [.int (nI (P * 32 + i))]) (rest := []) C ml_X2_59 gy_X2_empty gv_X2_empty (c_empty (s := (nI (P * 32 + i))) hok (vp_in_nI (by omega) (by omega))) ⟨0, 2, _, _, rfl, rfl, rfl⟩ rfl rfl ⟨by decide, by decide⟩ (Nat.le_of_ble_eq_true rfl) (by decide) (by decide) dX2_end_28 ?_
      rintro _ _ ⟨rfl, rfl⟩
      rw [nI_clamp (by omega)]
      refine gV_pop (pc := 31) C dX2_end_31 rfl ?_
      refine gV_iinc (pc := 32) (v := nI (i + 1)) (lv' := [(2, .int (nI (i + 1))), (0, .ref (ad 0)), (1, .int (nI P))]) C dX2_end_32 0 rfl (nI_1 _) (by decide) rfl ?_
      refine gV_goto (pc := 35) C 12 dX2_end_35 (by decide) ?_
      refine gV_lv [0, 1, 2] rfl ?_
      exact ih (i + 1) _ (by omega) (ok_em hok) (by rw [em_A3]; exact hA) (by rw [← hr, ph_enG])
set_option maxHeartbeats 4000000 in
set_option maxRecDepth 100000 in
/-- end -/
theorem c_end {D : va_G} {ad : Nat → Nat} {ct : Nat → ClassId} {F S : Nat} {σ : ph_S} (p : Int32) (hok : ph_ok F S σ) : gM yX2_end cX2_end 3 (some .boolean) rm_X2_end D (gt ct) (cw ad ct F S σ) [.ref (ad 0), .int p] (fun v w => v = some (.int (ph_enV σ p)) ∧ w = cw ad ct F S (ph_enW F S σ p)) := by
  refine gM_in RX2 rfl (by decide) (Nat.le_of_ble_eq_true rfl) (fun X C => ?_)
  have hF := hok.F16
  have hS := hok.S64
  refine gV_aload_n (pc := 0) (x := ad 0) C dX2_end_0 0 rfl rfl ?_
  refine gV_iload_n (pc := 1) C dX2_end_1 1 rfl rfl ?_
  refine gV_callV (pc := 2) (As := [.int p]) (rest := []) C ml_X2_48 gy_X2_hasProcess gv_X2_hasProcess (c_hasProcess _) ⟨0, 2, _, _, rfl, rfl, rfl⟩ rfl rfl ⟨by decide, by decide⟩ (Nat.le_of_ble_eq_true rfl) (by decide) (by decide) dX2_end_2 ?_
  rintro _ _ ⟨rfl, rfl⟩
  refine gV_if_ne (pc := 5) C 10 dX2_end_5 (by decide) (fun c_1 => ?_) (fun c_1 => ?_)
  · skip
    obtain ⟨P, hP, rfl⟩ := vp_in_of (ph_hp_vin c_1) (by decide)
    obtain ⟨m, hm, em⟩ := hok.pn hP
    have eP : (nI P).toNatClampNeg = P := nI_clamp (by omega)
    refine gV_iconst (pc := 10) (v := 0) C dX2_end_10 (by decide) ?_
    refine gV_istore_n (pc := 11) (lv' := [(2, .int 0), (0, .ref (ad 0)), (1, .int (nI P))]) C dX2_end_11 rfl (by decide) rfl ?_
    exact lp_end hP hm (by rw [ph_enV, if_neg c_1]) C m 0 _ (Nat.zero_add _) hok em (by rw [ph_enW, if_neg c_1, eP, em, nI_clamp (by omega)])
  · skip
    refine gV_iconst (pc := 8) (v := 0) C dX2_end_8 (by decide) ?_
    refine gV_zret (pc := 9) C dX2_end_9 (by decide) (by decide) (by decide) ?_
    exact ⟨by rw [ph_enV, if_pos c_1], by rw [ph_enW, if_pos c_1]⟩
abbrev rm_X2_drop : Room := { frames := 3, cells := 0, slots := 0, locals := 64 }
set_option maxHeartbeats 4000000 in
set_option maxRecDepth 100000 in
/-- drop -/
theorem c_drop {D : va_G} {ad : Nat → Nat} {ct : Nat → ClassId} {F S : Nat} {σ : ph_S} (p g : Int32) (hok : ph_ok F S σ) : gM yX2_drop cX2_drop 3 (some .boolean) rm_X2_drop D (gt ct) (cw ad ct F S σ) [.ref (ad 0), .int p, .int g] (fun v w => v = some (.int (ph_drV σ p g)) ∧ w = cw ad ct F S (ph_drW F S σ p g)) := by
  refine gM_in RX2 rfl (by decide) (Nat.le_of_ble_eq_true rfl) (fun X C => ?_)
  have hF := hok.F16
  have hS := hok.S64
  refine gV_aload_n (pc := 0) (x := ad 0) C dX2_drop_0 0 rfl rfl ?_
  refine gV_iload_n (pc := 1) C dX2_drop_1 1 rfl rfl ?_
  refine gV_iload_n (pc := 2) C dX2_drop_2 2 rfl rfl ?_
  refine gV_callV (pc := 3) (As := [.int p, .int g]) (rest := []) C ml_X2_101 gy_X2_hasPage gv_X2_hasPage (c_hasPage _ _) ⟨0, 2, _, _, rfl, rfl, rfl⟩ rfl rfl ⟨by decide, by decide⟩ (Nat.le_of_ble_eq_true rfl) (by decide) (by decide) dX2_drop_3 ?_
  rintro _ _ ⟨rfl, rfl⟩
  refine gV_if_ne (pc := 6) C 11 dX2_drop_6 (by decide) (fun c_1 => ?_) (fun c_1 => ?_)
  · skip
    refine gV_aload_n (pc := 11) (x := ad 0) C dX2_drop_11 0 rfl rfl ?_
    refine gV_iload_n (pc := 12) C dX2_drop_12 1 rfl rfl ?_
    refine gV_iload_n (pc := 13) C dX2_drop_13 2 rfl rfl ?_
    refine gV_callS (pc := 14) (As := [.int p, .int g]) (rest := [.ref (ad 0)]) C ml_X2_52 gy_X2_slot gs_X2_slot (c_slot _ _)  rfl rfl ⟨by decide, by decide⟩ (Nat.le_of_ble_eq_true rfl) (by decide) (by decide) dX2_drop_14 ?_
    rintro _ _ ⟨rfl, rfl⟩
    refine gV_callV (pc := 17) (As := [.int (p * 32 + g)]) (rest := []) C ml_X2_59 gy_X2_empty gv_X2_empty (c_empty (s := (p * 32 + g)) hok (hg_slot hok c_1)) ⟨0, 2, _, _, rfl, rfl, rfl⟩ rfl rfl ⟨by decide, by decide⟩ (Nat.le_of_ble_eq_true rfl) (by decide) (by decide) dX2_drop_17 ?_
    rintro _ _ ⟨rfl, rfl⟩
    refine gV_zret (pc := 20) C dX2_drop_20 (emV_01 _ _) (by decide) (by decide) ?_
    exact ⟨by rw [ph_drV, if_neg c_1], by rw [ph_drW, if_neg c_1]⟩
  · skip
    refine gV_iconst (pc := 9) (v := 0) C dX2_drop_9 (by decide) ?_
    refine gV_zret (pc := 10) C dX2_drop_10 (by decide) (by decide) (by decide) ?_
    exact ⟨by rw [ph_drV, if_pos c_1], by rw [ph_drW, if_pos c_1]⟩
abbrev rm_X2_flush : Room := { frames := 3, cells := 0, slots := 0, locals := 105 }
set_option maxHeartbeats 4000000 in
set_option maxRecDepth 100000 in
theorem lp_flush {X : gx_T} {D : va_G} {ad : Nat → Nat} {ct : Nat → ClassId} {F S : Nat} {σ : ph_S} (hF : F ≤ 16) (hS : S ≤ 64) (C : gC X cX2_flush 4 RX2 rm_X2_flush (some .int) D (gt ct) (fun v w => v = some (.int (ph_flV F S σ)) ∧ w = cw ad ct F S (ph_flW F S σ))) : ∀ (d i n : Nat) (τ : ph_S), i + d = F → ph_ok F S τ → nI (n + ph_flN F S d i τ) = ph_flV F S σ → ph_flG F S d i τ = ph_flW F S σ → gV X 0 0 (cw ad ct F S τ) 20 [(2, .int (nI i)), (1, .int (nI n)), (0, .ref (ad 0))] [] := by
  intro d
  induction d with
  | zero =>
    intro i n τ hi hok hn hr
    have e : τ = ph_flW F S σ := hr
    refine gV_iload_n (pc := 20) C dX2_flush_20 0 rfl rfl ?_
    refine gV_aload_n (pc := 21) (x := ad 0) C dX2_flush_21 2 rfl rfl ?_
    refine cg_frames (pc := 22) C fl_X2_23 dX2_flush_22 ?_
    refine cg_content1 (pc := 25) C fl_X2_111 dX2_flush_25 ?_
    refine cl_fc (pc := 28) C dX2_flush_28 ?_
    refine gV_icmp_ge (pc := 29) C 67 dX2_flush_29 (by decide) (fun c_1 => ?_) (fun c_1 => ?_)
    · skip
      refine gV_iload_n (pc := 67) C dX2_flush_67 1 rfl rfl ?_
      refine gV_iret (pc := 68) C dX2_flush_68 (by decide) (by decide) ?_
      exact ⟨by rw [← hn]; rfl, by rw [e]⟩
    · exact absurd (nI_le (by omega) (by omega)) c_1
  | succ d ih =>
    intro i n τ hi hok hn hr
    refine gV_iload_n (pc := 20) C dX2_flush_20 0 rfl rfl ?_
    refine gV_aload_n (pc := 21) (x := ad 0) C dX2_flush_21 2 rfl rfl ?_
    refine cg_frames (pc := 22) C fl_X2_23 dX2_flush_22 ?_
    refine cg_content1 (pc := 25) C fl_X2_111 dX2_flush_25 ?_
    refine cl_fc (pc := 28) C dX2_flush_28 ?_
    refine gV_icmp_ge (pc := 29) C 67 dX2_flush_29 (by decide) (fun c_1 => ?_) (fun c_1 => ?_)
    · exact absurd c_1 (nI_ge (by omega) (by omega))
    · skip
      refine gV_aload_n (pc := 32) (x := ad 0) C dX2_flush_32 2 rfl rfl ?_
      refine cg_frames (pc := 33) C fl_X2_23 dX2_flush_33 ?_
      refine cg_content1 (pc := 36) C fl_X2_111 dX2_flush_36 ?_
      refine gV_iload_n (pc := 39) C dX2_flush_39 0 rfl rfl ?_
      refine ca_fc (pc := 40) C (vp_in_nI (by omega) (by omega)) dX2_flush_40 ?_
      rw [nI_clamp (by omega)]
      cases er_2 : ph_R (τ) 0 i with
      | none =>
        refine gV_astoreq_n (pc := 41) (r := none) (lv' := [(3, .null), (2, .int (nI i)), (1, .int (nI n)), (0, .ref (ad 0))]) C dX2_flush_41 rfl (by decide) rfl ?_
        refine gV_aloadq_n (pc := 42) (r := none) C dX2_flush_42 0 rfl rfl ?_
        refine gV_ifnull (pc := 43) (r := none) C 61 dX2_flush_43 (by decide) (fun _ => ?_) (fun _ h => nomatch h)
        refine gV_iinc (pc := 61) (v := nI (i + 1)) (lv' := [(2, .int (nI (i + 1))), (3, .null), (1, .int (nI n)), (0, .ref (ad 0))]) C dX2_flush_61 1 rfl (nI_1 _) (by decide) rfl ?_
        refine gV_goto (pc := 64) C 20 dX2_flush_64 (by decide) ?_
        refine gV_lv [0, 2, 3] rfl ?_
        simp only [ph_flN, ph_flG, er_2] at hn hr
        exact ih (i + 1) n _ (by omega) hok hn hr
      | some a_2 =>
        have m_2 : a_2 ∈ ph_L (τ) := hok.refs _ _ _ er_2
        refine gV_astore_n (pc := 41) (x := a_2) (lv' := [(3, .ref a_2), (2, .int (nI i)), (1, .int (nI n)), (0, .ref (ad 0))]) C dX2_flush_41 rfl (by decide) rfl ?_
        refine gV_aload_n (pc := 42) (x := a_2) C dX2_flush_42 0 rfl rfl ?_
        refine gV_ifnull (pc := 43) (r := some a_2) C 61 dX2_flush_43 (by decide) (fun h => nomatch h) (fun _ _ => ?_)
        refine gV_aload_n (pc := 46) (x := a_2) C dX2_flush_46 0 rfl rfl ?_
        refine cg_b_dirty (pc := 47) (σ := τ) C m_2 fl_X2_97 dX2_flush_47 ?_
        refine gV_if_eq (pc := 50) C 61 dX2_flush_50 (by decide) (fun c_3 => ?_) (fun c_3 => ?_)
        · skip
          refine gV_iinc (pc := 61) (v := nI (i + 1)) (lv' := [(2, .int (nI (i + 1))), (3, .ref a_2), (1, .int (nI n)), (0, .ref (ad 0))]) C dX2_flush_61 1 rfl (nI_1 _) (by decide) rfl ?_
          refine gV_goto (pc := 64) C 20 dX2_flush_64 (by decide) ?_
          refine gV_lv [0, 2, 3] rfl ?_
          simp only [ph_flN, ph_flG, er_2] at hn hr
          rw [if_pos c_3] at hn hr
          exact ih (i + 1) n _ (by omega) hok hn hr
        · skip
          refine gV_aload_n (pc := 53) (x := ad 0) C dX2_flush_53 3 rfl rfl ?_
          refine gV_aload_n (pc := 54) (x := a_2) C dX2_flush_54 0 rfl rfl ?_
          refine gV_callV (pc := 55) (As := [.ref a_2]) (rest := []) C ml_X2_114 gy_X2_store gv_X2_store (c_store (a := a_2) hok m_2) ⟨0, 2, _, _, rfl, rfl, rfl⟩ rfl rfl ⟨by decide, by decide⟩ (Nat.le_of_ble_eq_true rfl) (by decide) (by decide) dX2_flush_55 ?_
          rintro _ _ ⟨rfl, rfl⟩
          have m_4 : a_2 ∈ ph_L (ph_st F S (τ) a_2) := by rw [ph_st_L]; exact m_2
          refine gV_iinc (pc := 58) (v := nI (n + 1)) (lv' := [(1, .int (nI (n + 1))), (3, .ref a_2), (2, .int (nI i)), (0, .ref (ad 0))]) C dX2_flush_58 2 rfl (nI_1 _) (by decide) rfl ?_
          refine gV_iinc (pc := 61) (v := nI (i + 1)) (lv' := [(2, .int (nI (i + 1))), (1, .int (nI (n + 1))), (3, .ref a_2), (0, .ref (ad 0))]) C dX2_flush_61 2 rfl (nI_1 _) (by decide) rfl ?_
          refine gV_goto (pc := 64) C 20 dX2_flush_64 (by decide) ?_
          refine gV_lv [0, 1, 3] rfl ?_
          simp only [ph_flN, ph_flG, er_2] at hn hr
          rw [if_neg c_3] at hn hr
          exact ih (i + 1) (n + 1) _ (by omega) (ok_st hok m_2) (by rw [← hn]; congr 1; omega) hr
set_option maxHeartbeats 4000000 in
set_option maxRecDepth 100000 in
/-- flush -/
theorem c_flush {D : va_G} {ad : Nat → Nat} {ct : Nat → ClassId} {F S : Nat} {σ : ph_S} (hok : ph_ok F S σ) : gM yX2_flush cX2_flush 4 (some .int) rm_X2_flush D (gt ct) (cw ad ct F S σ) [.ref (ad 0)] (fun v w => v = some (.int (ph_flV F S σ)) ∧ w = cw ad ct F S (ph_flW F S σ)) := by
  refine gM_in RX2 rfl (by decide) (Nat.le_of_ble_eq_true rfl) (fun X C => ?_)
  have hF := hok.F16
  have hS := hok.S64
  refine gV_aload_n (pc := 0) (x := ad 0) C dX2_flush_0 0 rfl rfl ?_
  refine gV_callV (pc := 1) (As := []) (rest := []) C ml_X2_105 gy_X2_countWithoutSector gv_X2_countWithoutSector (c_countWithoutSector hok) ⟨0, 2, _, _, rfl, rfl, rfl⟩ rfl rfl ⟨by decide, by decide⟩ (Nat.le_of_ble_eq_true rfl) (by decide) (by decide) dX2_flush_1 ?_
  rintro _ _ ⟨rfl, rfl⟩
  refine gV_aload_n (pc := 4) (x := ad 0) C dX2_flush_4 0 rfl rfl ?_
  refine cg_sectors (pc := 5) C fl_X2_27 dX2_flush_5 ?_
  refine gV_callV (pc := 8) (As := []) (rest := [.int (ph_cs F σ)]) C ml_X2_108 gy_X1_countFree gv_X1_countFree (c_countFree2 (by omega)) ⟨2, 1, _, _, rfl, rfl, rfl⟩ rfl rfl ⟨by decide, by decide⟩ (Nat.le_of_ble_eq_true rfl) (by decide) (by decide) dX2_flush_8 ?_
  rintro _ _ ⟨rfl, rfl⟩
  refine gV_icmp_le (pc := 11) C 16 dX2_flush_11 (by decide) (fun c_1 => ?_) (fun c_1 => ?_)
  · skip
    refine gV_iconst (pc := 16) (v := 0) C dX2_flush_16 (by decide) ?_
    refine gV_istore_n (pc := 17) (lv' := [(1, .int 0), (0, .ref (ad 0))]) C dX2_flush_17 rfl (by decide) rfl ?_
    refine gV_iconst (pc := 18) (v := 0) C dX2_flush_18 (by decide) ?_
    refine gV_istore_n (pc := 19) (lv' := [(2, .int 0), (1, .int 0), (0, .ref (ad 0))]) C dX2_flush_19 rfl (by decide) rfl ?_
    exact lp_flush hF hS C F 0 0 σ (Nat.zero_add _) hok (by rw [ph_flV, if_pos c_1, Nat.zero_add]) (by rw [ph_flW, if_pos c_1])
  · skip
    refine gV_iconst (pc := 14) (v := (-1)) C dX2_flush_14 (by decide) ?_
    refine gV_iret (pc := 15) C dX2_flush_15 (by decide) (by decide) ?_
    exact ⟨by rw [ph_flV, if_neg c_1], by rw [ph_flW, if_neg c_1]⟩
abbrev rm_X2_page : Room := { frames := 2, cells := 0, slots := 0, locals := 43 }
set_option maxHeartbeats 4000000 in
set_option maxRecDepth 100000 in
/-- page -/
theorem c_page {D : va_G} {ad : Nat → Nat} {ct : Nat → ClassId} {F S : Nat} {σ : ph_S} (p g x : Int32) (hok : ph_ok F S σ) : gM yX2_page cX2_page 5 (some .int) rm_X2_page D (gt ct) (cw ad ct F S σ) [.ref (ad 0), .int p, .int g, .int x] (fun v w => v = some (.int (ph_pgV σ p g x)) ∧ w = cw ad ct F S σ) := by
  refine gM_in RX2 rfl (by decide) (Nat.le_of_ble_eq_true rfl) (fun X C => ?_)
  have hF := hok.F16
  have hS := hok.S64
  refine gV_aload_n (pc := 0) (x := ad 0) C dX2_page_0 0 rfl rfl ?_
  refine gV_iload_n (pc := 1) C dX2_page_1 1 rfl rfl ?_
  refine gV_iload_n (pc := 2) C dX2_page_2 2 rfl rfl ?_
  refine gV_callV (pc := 3) (As := [.int p, .int g]) (rest := []) C ml_X2_101 gy_X2_hasPage gv_X2_hasPage (c_hasPage _ _) ⟨0, 2, _, _, rfl, rfl, rfl⟩ rfl rfl ⟨by decide, by decide⟩ (Nat.le_of_ble_eq_true rfl) (by decide) (by decide) dX2_page_3 ?_
  rintro _ _ ⟨rfl, rfl⟩
  refine gV_if_ne (pc := 6) C 11 dX2_page_6 (by decide) (fun c_1 => ?_) (fun c_1 => ?_)
  · skip
    refine gV_aload_n (pc := 11) (x := ad 0) C dX2_page_11 0 rfl rfl ?_
    refine cg_bodies (pc := 12) C fl_X2_40 dX2_page_12 ?_
    refine gV_iload_n (pc := 15) C dX2_page_15 1 rfl rfl ?_
    refine gV_iload_n (pc := 16) C dX2_page_16 2 rfl rfl ?_
    refine gV_callS (pc := 17) (As := [.int p, .int g]) (rest := [.ref (ad 9)]) C ml_X2_52 gy_X2_slot gs_X2_slot (c_slot _ _)  rfl rfl ⟨by decide, by decide⟩ (Nat.le_of_ble_eq_true rfl) (by decide) (by decide) dX2_page_17 ?_
    rintro _ _ ⟨rfl, rfl⟩
    refine ca_bo (pc := 20) C (hg_slot hok c_1) dX2_page_20 ?_
    cases er_2 : ph_R σ 2 ((p * 32 + g).toNatClampNeg) with
    | none =>
      refine gV_astoreq (pc := 21) (r := none) (lv' := [(4, .null), (0, .ref (ad 0)), (1, .int p), (2, .int g), (3, .int x)]) C dX2_page_21 (by decide) rfl ?_
      refine gV_iload_n (pc := 23) C dX2_page_23 4 rfl rfl ?_
      by_cases t_3 : x = 0
      · refine gV_tableIn (pc := 24) C 56 dX2_page_24 (by rw [t_3]; decide) (by rw [t_3]; decide) (by rw [t_3]; rfl) (by decide) ?_
        refine gV_aloadq (pc := 56) (r := none) C dX2_page_56 0 rfl ?_
        refine gV_ifnonnull (pc := 58) (r := none) C 65 dX2_page_58 (by decide) (fun _ h => nomatch h) (fun _ => ?_)
        refine gV_iconst (pc := 61) (v := (-1)) C dX2_page_61 (by decide) ?_
        refine gV_goto (pc := 62) C 70 dX2_page_62 (by decide) ?_
        refine gV_iret (pc := 70) C dX2_page_70 (by decide) (by decide) ?_
        exact ⟨by rw [ph_pgV, if_neg c_1, er_2]; simp only [ph_pg2]; rw [if_pos t_3], rfl⟩
      by_cases t_4 : x = 1
      · refine gV_tableIn (pc := 24) C 71 dX2_page_24 (by rw [t_4]; decide) (by rw [t_4]; decide) (by rw [t_4]; rfl) (by decide) ?_
        refine gV_aloadq (pc := 71) (r := none) C dX2_page_71 0 rfl ?_
        refine gV_ifnonnull (pc := 73) (r := none) C 80 dX2_page_73 (by decide) (fun _ h => nomatch h) (fun _ => ?_)
        refine gV_iconst (pc := 76) (v := (-1)) C dX2_page_76 (by decide) ?_
        refine gV_goto (pc := 77) C 85 dX2_page_77 (by decide) ?_
        refine gV_iret (pc := 85) C dX2_page_85 (by decide) (by decide) ?_
        exact ⟨by rw [ph_pgV, if_neg c_1, er_2]; simp only [ph_pg2]; rw [if_neg t_3, if_pos t_4], rfl⟩
      by_cases t_5 : x = 2
      · refine gV_tableIn (pc := 24) C 86 dX2_page_24 (by rw [t_5]; decide) (by rw [t_5]; decide) (by rw [t_5]; rfl) (by decide) ?_
        refine gV_aloadq (pc := 86) (r := none) C dX2_page_86 0 rfl ?_
        refine gV_ifnonnull (pc := 88) (r := none) C 95 dX2_page_88 (by decide) (fun _ h => nomatch h) (fun _ => ?_)
        refine gV_iconst (pc := 91) (v := 0) C dX2_page_91 (by decide) ?_
        refine gV_goto (pc := 92) C 100 dX2_page_92 (by decide) ?_
        refine gV_iret (pc := 100) C dX2_page_100 (by decide) (by decide) ?_
        exact ⟨by rw [ph_pgV, if_neg c_1, er_2]; simp only [ph_pg2]; rw [if_neg t_3, if_neg t_4, if_pos t_5], rfl⟩
      by_cases t_6 : x = 3
      · refine gV_tableIn (pc := 24) C 101 dX2_page_24 (by rw [t_6]; decide) (by rw [t_6]; decide) (by rw [t_6]; rfl) (by decide) ?_
        refine gV_aloadq (pc := 101) (r := none) C dX2_page_101 0 rfl ?_
        refine gV_ifnull (pc := 103) (r := none) C 118 dX2_page_103 (by decide) (fun _ => ?_) (fun _ h => nomatch h)
        refine gV_iconst (pc := 118) (v := 0) C dX2_page_118 (by decide) ?_
        refine gV_iret (pc := 119) C dX2_page_119 (by decide) (by decide) ?_
        exact ⟨by rw [ph_pgV, if_neg c_1, er_2]; simp only [ph_pg2]; rw [if_neg t_3, if_neg t_4, if_neg t_5, if_pos t_6], rfl⟩
      have nt_3 : x.toInt ≠ 0 := fun e => t_3 (Int32.toInt_inj.mp (e.trans (by decide)))
      have nt_4 : x.toInt ≠ 1 := fun e => t_4 (Int32.toInt_inj.mp (e.trans (by decide)))
      have nt_5 : x.toInt ≠ 2 := fun e => t_5 (Int32.toInt_inj.mp (e.trans (by decide)))
      have nt_6 : x.toInt ≠ 3 := fun e => t_6 (Int32.toInt_inj.mp (e.trans (by decide)))
      refine gV_tableOut (pc := 24) C 120 dX2_page_24 (by omega) (by decide) ?_
      refine gV_iconst (pc := 120) (v := (-1)) C dX2_page_120 (by decide) ?_
      refine gV_iret (pc := 121) C dX2_page_121 (by decide) (by decide) ?_
      exact ⟨by rw [ph_pgV, if_neg c_1, er_2]; simp only [ph_pg2]; rw [if_neg t_3, if_neg t_4, if_neg t_5, if_neg t_6], rfl⟩
    | some a_2 =>
      have m_2 : a_2 ∈ ph_L σ := hok.refs _ _ _ er_2
      refine gV_astore (pc := 21) (x := a_2) (lv' := [(4, .ref a_2), (0, .ref (ad 0)), (1, .int p), (2, .int g), (3, .int x)]) C dX2_page_21 (by decide) rfl ?_
      refine gV_iload_n (pc := 23) C dX2_page_23 4 rfl rfl ?_
      by_cases t_7 : x = 0
      · refine gV_tableIn (pc := 24) C 56 dX2_page_24 (by rw [t_7]; decide) (by rw [t_7]; decide) (by rw [t_7]; rfl) (by decide) ?_
        refine gV_aload (pc := 56) (x := a_2) C dX2_page_56 0 rfl ?_
        refine gV_ifnonnull (pc := 58) (r := some a_2) C 65 dX2_page_58 (by decide) (fun _ _ => ?_) (fun h => nomatch h)
        refine gV_aload (pc := 65) (x := a_2) C dX2_page_65 0 rfl ?_
        refine cg_b_frame (pc := 67) (σ := σ) C m_2 fl_X2_76 dX2_page_67 ?_
        refine gV_iret (pc := 70) C dX2_page_70 (by decide) (by decide) ?_
        exact ⟨by rw [ph_pgV, if_neg c_1, er_2]; simp only [ph_pg2]; rw [if_pos t_7], rfl⟩
      by_cases t_8 : x = 1
      · refine gV_tableIn (pc := 24) C 71 dX2_page_24 (by rw [t_8]; decide) (by rw [t_8]; decide) (by rw [t_8]; rfl) (by decide) ?_
        refine gV_aload (pc := 71) (x := a_2) C dX2_page_71 0 rfl ?_
        refine gV_ifnonnull (pc := 73) (r := some a_2) C 80 dX2_page_73 (by decide) (fun _ _ => ?_) (fun h => nomatch h)
        refine gV_aload (pc := 80) (x := a_2) C dX2_page_80 0 rfl ?_
        refine cg_b_sector (pc := 82) (σ := σ) C m_2 fl_X2_118 dX2_page_82 ?_
        refine gV_iret (pc := 85) C dX2_page_85 (by decide) (by decide) ?_
        exact ⟨by rw [ph_pgV, if_neg c_1, er_2]; simp only [ph_pg2]; rw [if_neg t_7, if_pos t_8], rfl⟩
      by_cases t_9 : x = 2
      · refine gV_tableIn (pc := 24) C 86 dX2_page_24 (by rw [t_9]; decide) (by rw [t_9]; decide) (by rw [t_9]; rfl) (by decide) ?_
        refine gV_aload (pc := 86) (x := a_2) C dX2_page_86 0 rfl ?_
        refine gV_ifnonnull (pc := 88) (r := some a_2) C 95 dX2_page_88 (by decide) (fun _ _ => ?_) (fun h => nomatch h)
        refine gV_aload (pc := 95) (x := a_2) C dX2_page_95 0 rfl ?_
        refine cg_b_holders (pc := 97) (σ := σ) C m_2 fl_X2_55 dX2_page_97 ?_
        refine gV_iret (pc := 100) C dX2_page_100 (by decide) (by decide) ?_
        exact ⟨by rw [ph_pgV, if_neg c_1, er_2]; simp only [ph_pg2]; rw [if_neg t_7, if_neg t_8, if_pos t_9], rfl⟩
      by_cases t_10 : x = 3
      · refine gV_tableIn (pc := 24) C 101 dX2_page_24 (by rw [t_10]; decide) (by rw [t_10]; decide) (by rw [t_10]; rfl) (by decide) ?_
        refine gV_aload (pc := 101) (x := a_2) C dX2_page_101 0 rfl ?_
        refine gV_ifnull (pc := 103) (r := some a_2) C 118 dX2_page_103 (by decide) (fun h => nomatch h) (fun _ _ => ?_)
        refine gV_aload (pc := 106) (x := a_2) C dX2_page_106 0 rfl ?_
        refine cg_b_dirty (pc := 108) (σ := σ) C m_2 fl_X2_97 dX2_page_108 ?_
        refine gV_if_eq (pc := 111) C 118 dX2_page_111 (by decide) (fun c_11 => ?_) (fun c_11 => ?_)
        · skip
          refine gV_iconst (pc := 118) (v := 0) C dX2_page_118 (by decide) ?_
          refine gV_iret (pc := 119) C dX2_page_119 (by decide) (by decide) ?_
          exact ⟨by rw [ph_pgV, if_neg c_1, er_2]; simp only [ph_pg2]; rw [if_neg t_7, if_neg t_8, if_neg t_9, if_pos t_10, if_pos c_11], rfl⟩
        · skip
          refine gV_iconst (pc := 114) (v := 1) C dX2_page_114 (by decide) ?_
          refine gV_goto (pc := 115) C 119 dX2_page_115 (by decide) ?_
          refine gV_iret (pc := 119) C dX2_page_119 (by decide) (by decide) ?_
          exact ⟨by rw [ph_pgV, if_neg c_1, er_2]; simp only [ph_pg2]; rw [if_neg t_7, if_neg t_8, if_neg t_9, if_pos t_10, if_neg c_11], rfl⟩
      have nt_7 : x.toInt ≠ 0 := fun e => t_7 (Int32.toInt_inj.mp (e.trans (by decide)))
      have nt_8 : x.toInt ≠ 1 := fun e => t_8 (Int32.toInt_inj.mp (e.trans (by decide)))
      have nt_9 : x.toInt ≠ 2 := fun e => t_9 (Int32.toInt_inj.mp (e.trans (by decide)))
      have nt_10 : x.toInt ≠ 3 := fun e => t_10 (Int32.toInt_inj.mp (e.trans (by decide)))
      refine gV_tableOut (pc := 24) C 120 dX2_page_24 (by omega) (by decide) ?_
      refine gV_iconst (pc := 120) (v := (-1)) C dX2_page_120 (by decide) ?_
      refine gV_iret (pc := 121) C dX2_page_121 (by decide) (by decide) ?_
      exact ⟨by rw [ph_pgV, if_neg c_1, er_2]; simp only [ph_pg2]; rw [if_neg t_7, if_neg t_8, if_neg t_9, if_neg t_10], rfl⟩
  · skip
    refine gV_iconst (pc := 9) (v := (-1)) C dX2_page_9 (by decide) ?_
    refine gV_iret (pc := 10) C dX2_page_10 (by decide) (by decide) ?_
    exact ⟨by rw [ph_pgV, if_pos c_1], rfl⟩
abbrev rm_X2_frame : Room := { frames := 2, cells := 0, slots := 0, locals := 43 }
set_option maxHeartbeats 4000000 in
set_option maxRecDepth 100000 in
/-- frame -/
theorem c_frame {D : va_G} {ad : Nat → Nat} {ct : Nat → ClassId} {F S : Nat} {σ : ph_S} (f x : Int32) (hok : ph_ok F S σ) : gM yX2_frame cX2_frame 4 (some .int) rm_X2_frame D (gt ct) (cw ad ct F S σ) [.ref (ad 0), .int f, .int x] (fun v w => v = some (.int (ph_frV F σ f x)) ∧ w = cw ad ct F S σ) := by
  refine gM_in RX2 rfl (by decide) (Nat.le_of_ble_eq_true rfl) (fun X C => ?_)
  have hF := hok.F16
  have hS := hok.S64
  refine gV_aload_n (pc := 0) (x := ad 0) C dX2_frame_0 0 rfl rfl ?_
  refine cg_frames (pc := 1) C fl_X2_23 dX2_frame_1 ?_
  refine gV_iload_n (pc := 4) C dX2_frame_4 1 rfl rfl ?_
  refine gV_callV (pc := 5) (As := [.int f]) (rest := []) C ml_X2_121 gy_X1_has gv_X1_has (c_has1 _) ⟨1, 1, _, _, rfl, rfl, rfl⟩ rfl rfl ⟨by decide, by decide⟩ (Nat.le_of_ble_eq_true rfl) (by decide) (by decide) dX2_frame_5 ?_
  rintro _ _ ⟨rfl, rfl⟩
  refine gV_if_ne (pc := 8) C 13 dX2_frame_8 (by decide) (fun c_1 => ?_) (fun c_1 => ?_)
  · skip
    refine gV_iload_n (pc := 13) C dX2_frame_13 2 rfl rfl ?_
    refine gV_bipush (pc := 14) (v := 16) C dX2_frame_14 (by decide) ?_
    refine gV_icmp_lt (pc := 16) C 43 dX2_frame_16 (by decide) (fun c_2 => ?_) (fun c_2 => ?_)
    · skip
      refine gV_aload_n (pc := 43) (x := ad 0) C dX2_frame_43 0 rfl rfl ?_
      refine cg_frames (pc := 44) C fl_X2_23 dX2_frame_44 ?_
      refine cg_content1 (pc := 47) C fl_X2_111 dX2_frame_47 ?_
      refine gV_iload_n (pc := 50) C dX2_frame_50 1 rfl rfl ?_
      refine ca_fc (pc := 51) C (has_vin c_1 (by omega)) dX2_frame_51 ?_
      cases er_3 : ph_R σ 0 f.toNatClampNeg with
      | none =>
        refine gV_astoreq_n (pc := 52) (r := none) (lv' := [(3, .null), (0, .ref (ad 0)), (1, .int f), (2, .int x)]) C dX2_frame_52 rfl (by decide) rfl ?_
        refine gV_iload_n (pc := 53) C dX2_frame_53 3 rfl rfl ?_
        by_cases t_4 : x = 0
        · refine gV_tableIn (pc := 54) C 80 dX2_frame_54 (by rw [t_4]; decide) (by rw [t_4]; decide) (by rw [t_4]; rfl) (by decide) ?_
          refine gV_aload_n (pc := 80) (x := ad 0) C dX2_frame_80 1 rfl rfl ?_
          refine cg_used (pc := 81) C fl_X2_30 dX2_frame_81 ?_
          refine gV_iload_n (pc := 84) C dX2_frame_84 2 rfl rfl ?_
          refine ca_us (pc := 85) C (has_vin c_1 (by omega)) dX2_frame_85 ?_
          refine gV_if_eq (pc := 86) C 93 dX2_frame_86 (by decide) (fun c_5 => ?_) (fun c_5 => ?_)
          · skip
            refine gV_iconst (pc := 93) (v := 0) C dX2_frame_93 (by decide) ?_
            refine gV_iret (pc := 94) C dX2_frame_94 (by decide) (by decide) ?_
            exact ⟨by rw [ph_frV, if_neg c_1, if_pos c_2, ph_fr2, er_3]; simp only [ph_fr3]; rw [if_pos t_4, if_pos c_5], rfl⟩
          · skip
            refine gV_iconst (pc := 89) (v := 1) C dX2_frame_89 (by decide) ?_
            refine gV_goto (pc := 90) C 94 dX2_frame_90 (by decide) ?_
            refine gV_iret (pc := 94) C dX2_frame_94 (by decide) (by decide) ?_
            exact ⟨by rw [ph_frV, if_neg c_1, if_pos c_2, ph_fr2, er_3]; simp only [ph_fr3]; rw [if_pos t_4, if_neg c_5], rfl⟩
        by_cases t_6 : x = 1
        · refine gV_tableIn (pc := 54) C 95 dX2_frame_54 (by rw [t_6]; decide) (by rw [t_6]; decide) (by rw [t_6]; rfl) (by decide) ?_
          refine gV_aloadq_n (pc := 95) (r := none) C dX2_frame_95 0 rfl rfl ?_
          refine gV_ifnonnull (pc := 96) (r := none) C 103 dX2_frame_96 (by decide) (fun _ h => nomatch h) (fun _ => ?_)
          refine gV_iconst (pc := 99) (v := (-1)) C dX2_frame_99 (by decide) ?_
          refine gV_goto (pc := 100) C 108 dX2_frame_100 (by decide) ?_
          refine gV_iret (pc := 108) C dX2_frame_108 (by decide) (by decide) ?_
          exact ⟨by rw [ph_frV, if_neg c_1, if_pos c_2, ph_fr2, er_3]; simp only [ph_fr3]; rw [if_neg t_4, if_pos t_6], rfl⟩
        by_cases t_7 : x = 2
        · refine gV_tableIn (pc := 54) C 109 dX2_frame_54 (by rw [t_7]; decide) (by rw [t_7]; decide) (by rw [t_7]; rfl) (by decide) ?_
          refine gV_aloadq_n (pc := 109) (r := none) C dX2_frame_109 0 rfl rfl ?_
          refine gV_ifnonnull (pc := 110) (r := none) C 117 dX2_frame_110 (by decide) (fun _ h => nomatch h) (fun _ => ?_)
          refine gV_iconst (pc := 113) (v := (-1)) C dX2_frame_113 (by decide) ?_
          refine gV_goto (pc := 114) C 121 dX2_frame_114 (by decide) ?_
          refine gV_iret (pc := 121) C dX2_frame_121 (by decide) (by decide) ?_
          exact ⟨by rw [ph_frV, if_neg c_1, if_pos c_2, ph_fr2, er_3]; simp only [ph_fr3]; rw [if_neg t_4, if_neg t_6, if_pos t_7], rfl⟩
        have nt_4 : x.toInt ≠ 0 := fun e => t_4 (Int32.toInt_inj.mp (e.trans (by decide)))
        have nt_6 : x.toInt ≠ 1 := fun e => t_6 (Int32.toInt_inj.mp (e.trans (by decide)))
        have nt_7 : x.toInt ≠ 2 := fun e => t_7 (Int32.toInt_inj.mp (e.trans (by decide)))
        refine gV_tableOut (pc := 54) C 122 dX2_frame_54 (by omega) (by decide) ?_
        refine gV_iconst (pc := 122) (v := (-1)) C dX2_frame_122 (by decide) ?_
        refine gV_iret (pc := 123) C dX2_frame_123 (by decide) (by decide) ?_
        exact ⟨by rw [ph_frV, if_neg c_1, if_pos c_2, ph_fr2, er_3]; simp only [ph_fr3]; rw [if_neg t_4, if_neg t_6, if_neg t_7], rfl⟩
      | some a_3 =>
        have m_3 : a_3 ∈ ph_L σ := hok.refs _ _ _ er_3
        refine gV_astore_n (pc := 52) (x := a_3) (lv' := [(3, .ref a_3), (0, .ref (ad 0)), (1, .int f), (2, .int x)]) C dX2_frame_52 rfl (by decide) rfl ?_
        refine gV_iload_n (pc := 53) C dX2_frame_53 3 rfl rfl ?_
        by_cases t_8 : x = 0
        · refine gV_tableIn (pc := 54) C 80 dX2_frame_54 (by rw [t_8]; decide) (by rw [t_8]; decide) (by rw [t_8]; rfl) (by decide) ?_
          refine gV_aload_n (pc := 80) (x := ad 0) C dX2_frame_80 1 rfl rfl ?_
          refine cg_used (pc := 81) C fl_X2_30 dX2_frame_81 ?_
          refine gV_iload_n (pc := 84) C dX2_frame_84 2 rfl rfl ?_
          refine ca_us (pc := 85) C (has_vin c_1 (by omega)) dX2_frame_85 ?_
          refine gV_if_eq (pc := 86) C 93 dX2_frame_86 (by decide) (fun c_9 => ?_) (fun c_9 => ?_)
          · skip
            refine gV_iconst (pc := 93) (v := 0) C dX2_frame_93 (by decide) ?_
            refine gV_iret (pc := 94) C dX2_frame_94 (by decide) (by decide) ?_
            exact ⟨by rw [ph_frV, if_neg c_1, if_pos c_2, ph_fr2, er_3]; simp only [ph_fr3]; rw [if_pos t_8, if_pos c_9], rfl⟩
          · skip
            refine gV_iconst (pc := 89) (v := 1) C dX2_frame_89 (by decide) ?_
            refine gV_goto (pc := 90) C 94 dX2_frame_90 (by decide) ?_
            refine gV_iret (pc := 94) C dX2_frame_94 (by decide) (by decide) ?_
            exact ⟨by rw [ph_frV, if_neg c_1, if_pos c_2, ph_fr2, er_3]; simp only [ph_fr3]; rw [if_pos t_8, if_neg c_9], rfl⟩
        by_cases t_10 : x = 1
        · refine gV_tableIn (pc := 54) C 95 dX2_frame_54 (by rw [t_10]; decide) (by rw [t_10]; decide) (by rw [t_10]; rfl) (by decide) ?_
          refine gV_aload_n (pc := 95) (x := a_3) C dX2_frame_95 0 rfl rfl ?_
          refine gV_ifnonnull (pc := 96) (r := some a_3) C 103 dX2_frame_96 (by decide) (fun _ _ => ?_) (fun h => nomatch h)
          refine gV_aload_n (pc := 103) (x := ad 0) C dX2_frame_103 1 rfl rfl ?_
          refine gV_aload_n (pc := 104) (x := a_3) C dX2_frame_104 0 rfl rfl ?_
          refine gV_callV (pc := 105) (As := [.ref a_3]) (rest := []) C ml_X2_124 gy_X2_leastHolder gv_X2_leastHolder (c_leastHolder hok m_3) ⟨0, 2, _, _, rfl, rfl, rfl⟩ rfl rfl ⟨by decide, by decide⟩ (Nat.le_of_ble_eq_true rfl) (by decide) (by decide) dX2_frame_105 ?_
          rintro _ _ ⟨rfl, rfl⟩
          refine gV_iret (pc := 108) C dX2_frame_108 (by decide) (by decide) ?_
          exact ⟨by rw [ph_frV, if_neg c_1, if_pos c_2, ph_fr2, er_3]; simp only [ph_fr3]; rw [if_neg t_8, if_pos t_10], rfl⟩
        by_cases t_11 : x = 2
        · refine gV_tableIn (pc := 54) C 109 dX2_frame_54 (by rw [t_11]; decide) (by rw [t_11]; decide) (by rw [t_11]; rfl) (by decide) ?_
          refine gV_aload_n (pc := 109) (x := a_3) C dX2_frame_109 0 rfl rfl ?_
          refine gV_ifnonnull (pc := 110) (r := some a_3) C 117 dX2_frame_110 (by decide) (fun _ _ => ?_) (fun h => nomatch h)
          refine gV_aload_n (pc := 117) (x := a_3) C dX2_frame_117 0 rfl rfl ?_
          refine cg_b_pageNumber (pc := 118) (σ := σ) C m_3 fl_X2_127 dX2_frame_118 ?_
          refine gV_iret (pc := 121) C dX2_frame_121 (by decide) (by decide) ?_
          exact ⟨by rw [ph_frV, if_neg c_1, if_pos c_2, ph_fr2, er_3]; simp only [ph_fr3]; rw [if_neg t_8, if_neg t_10, if_pos t_11], rfl⟩
        have nt_8 : x.toInt ≠ 0 := fun e => t_8 (Int32.toInt_inj.mp (e.trans (by decide)))
        have nt_10 : x.toInt ≠ 1 := fun e => t_10 (Int32.toInt_inj.mp (e.trans (by decide)))
        have nt_11 : x.toInt ≠ 2 := fun e => t_11 (Int32.toInt_inj.mp (e.trans (by decide)))
        refine gV_tableOut (pc := 54) C 122 dX2_frame_54 (by omega) (by decide) ?_
        refine gV_iconst (pc := 122) (v := (-1)) C dX2_frame_122 (by decide) ?_
        refine gV_iret (pc := 123) C dX2_frame_123 (by decide) (by decide) ?_
        exact ⟨by rw [ph_frV, if_neg c_1, if_pos c_2, ph_fr2, er_3]; simp only [ph_fr3]; rw [if_neg t_8, if_neg t_10, if_neg t_11], rfl⟩
    · skip
      refine gV_iload_n (pc := 19) C dX2_frame_19 2 rfl rfl ?_
      refine gV_bipush (pc := 20) (v := 32) C dX2_frame_20 (by decide) ?_
      refine gV_icmp_ge (pc := 22) C 43 dX2_frame_22 (by decide) (fun c_12 => ?_) (fun c_12 => ?_)
      · skip
        refine gV_aload_n (pc := 43) (x := ad 0) C dX2_frame_43 0 rfl rfl ?_
        refine cg_frames (pc := 44) C fl_X2_23 dX2_frame_44 ?_
        refine cg_content1 (pc := 47) C fl_X2_111 dX2_frame_47 ?_
        refine gV_iload_n (pc := 50) C dX2_frame_50 1 rfl rfl ?_
        refine ca_fc (pc := 51) C (has_vin c_1 (by omega)) dX2_frame_51 ?_
        cases er_13 : ph_R σ 0 f.toNatClampNeg with
        | none =>
          refine gV_astoreq_n (pc := 52) (r := none) (lv' := [(3, .null), (0, .ref (ad 0)), (1, .int f), (2, .int x)]) C dX2_frame_52 rfl (by decide) rfl ?_
          refine gV_iload_n (pc := 53) C dX2_frame_53 3 rfl rfl ?_
          by_cases t_14 : x = 0
          · refine gV_tableIn (pc := 54) C 80 dX2_frame_54 (by rw [t_14]; decide) (by rw [t_14]; decide) (by rw [t_14]; rfl) (by decide) ?_
            refine gV_aload_n (pc := 80) (x := ad 0) C dX2_frame_80 1 rfl rfl ?_
            refine cg_used (pc := 81) C fl_X2_30 dX2_frame_81 ?_
            refine gV_iload_n (pc := 84) C dX2_frame_84 2 rfl rfl ?_
            refine ca_us (pc := 85) C (has_vin c_1 (by omega)) dX2_frame_85 ?_
            refine gV_if_eq (pc := 86) C 93 dX2_frame_86 (by decide) (fun c_15 => ?_) (fun c_15 => ?_)
            · skip
              refine gV_iconst (pc := 93) (v := 0) C dX2_frame_93 (by decide) ?_
              refine gV_iret (pc := 94) C dX2_frame_94 (by decide) (by decide) ?_
              exact ⟨by rw [ph_frV, if_neg c_1, if_neg c_2, if_pos c_12, ph_fr2, er_13]; simp only [ph_fr3]; rw [if_pos t_14, if_pos c_15], rfl⟩
            · skip
              refine gV_iconst (pc := 89) (v := 1) C dX2_frame_89 (by decide) ?_
              refine gV_goto (pc := 90) C 94 dX2_frame_90 (by decide) ?_
              refine gV_iret (pc := 94) C dX2_frame_94 (by decide) (by decide) ?_
              exact ⟨by rw [ph_frV, if_neg c_1, if_neg c_2, if_pos c_12, ph_fr2, er_13]; simp only [ph_fr3]; rw [if_pos t_14, if_neg c_15], rfl⟩
          by_cases t_16 : x = 1
          · refine gV_tableIn (pc := 54) C 95 dX2_frame_54 (by rw [t_16]; decide) (by rw [t_16]; decide) (by rw [t_16]; rfl) (by decide) ?_
            refine gV_aloadq_n (pc := 95) (r := none) C dX2_frame_95 0 rfl rfl ?_
            refine gV_ifnonnull (pc := 96) (r := none) C 103 dX2_frame_96 (by decide) (fun _ h => nomatch h) (fun _ => ?_)
            refine gV_iconst (pc := 99) (v := (-1)) C dX2_frame_99 (by decide) ?_
            refine gV_goto (pc := 100) C 108 dX2_frame_100 (by decide) ?_
            refine gV_iret (pc := 108) C dX2_frame_108 (by decide) (by decide) ?_
            exact ⟨by rw [ph_frV, if_neg c_1, if_neg c_2, if_pos c_12, ph_fr2, er_13]; simp only [ph_fr3]; rw [if_neg t_14, if_pos t_16], rfl⟩
          by_cases t_17 : x = 2
          · refine gV_tableIn (pc := 54) C 109 dX2_frame_54 (by rw [t_17]; decide) (by rw [t_17]; decide) (by rw [t_17]; rfl) (by decide) ?_
            refine gV_aloadq_n (pc := 109) (r := none) C dX2_frame_109 0 rfl rfl ?_
            refine gV_ifnonnull (pc := 110) (r := none) C 117 dX2_frame_110 (by decide) (fun _ h => nomatch h) (fun _ => ?_)
            refine gV_iconst (pc := 113) (v := (-1)) C dX2_frame_113 (by decide) ?_
            refine gV_goto (pc := 114) C 121 dX2_frame_114 (by decide) ?_
            refine gV_iret (pc := 121) C dX2_frame_121 (by decide) (by decide) ?_
            exact ⟨by rw [ph_frV, if_neg c_1, if_neg c_2, if_pos c_12, ph_fr2, er_13]; simp only [ph_fr3]; rw [if_neg t_14, if_neg t_16, if_pos t_17], rfl⟩
          have nt_14 : x.toInt ≠ 0 := fun e => t_14 (Int32.toInt_inj.mp (e.trans (by decide)))
          have nt_16 : x.toInt ≠ 1 := fun e => t_16 (Int32.toInt_inj.mp (e.trans (by decide)))
          have nt_17 : x.toInt ≠ 2 := fun e => t_17 (Int32.toInt_inj.mp (e.trans (by decide)))
          refine gV_tableOut (pc := 54) C 122 dX2_frame_54 (by omega) (by decide) ?_
          refine gV_iconst (pc := 122) (v := (-1)) C dX2_frame_122 (by decide) ?_
          refine gV_iret (pc := 123) C dX2_frame_123 (by decide) (by decide) ?_
          exact ⟨by rw [ph_frV, if_neg c_1, if_neg c_2, if_pos c_12, ph_fr2, er_13]; simp only [ph_fr3]; rw [if_neg t_14, if_neg t_16, if_neg t_17], rfl⟩
        | some a_13 =>
          have m_13 : a_13 ∈ ph_L σ := hok.refs _ _ _ er_13
          refine gV_astore_n (pc := 52) (x := a_13) (lv' := [(3, .ref a_13), (0, .ref (ad 0)), (1, .int f), (2, .int x)]) C dX2_frame_52 rfl (by decide) rfl ?_
          refine gV_iload_n (pc := 53) C dX2_frame_53 3 rfl rfl ?_
          by_cases t_18 : x = 0
          · refine gV_tableIn (pc := 54) C 80 dX2_frame_54 (by rw [t_18]; decide) (by rw [t_18]; decide) (by rw [t_18]; rfl) (by decide) ?_
            refine gV_aload_n (pc := 80) (x := ad 0) C dX2_frame_80 1 rfl rfl ?_
            refine cg_used (pc := 81) C fl_X2_30 dX2_frame_81 ?_
            refine gV_iload_n (pc := 84) C dX2_frame_84 2 rfl rfl ?_
            refine ca_us (pc := 85) C (has_vin c_1 (by omega)) dX2_frame_85 ?_
            refine gV_if_eq (pc := 86) C 93 dX2_frame_86 (by decide) (fun c_19 => ?_) (fun c_19 => ?_)
            · skip
              refine gV_iconst (pc := 93) (v := 0) C dX2_frame_93 (by decide) ?_
              refine gV_iret (pc := 94) C dX2_frame_94 (by decide) (by decide) ?_
              exact ⟨by rw [ph_frV, if_neg c_1, if_neg c_2, if_pos c_12, ph_fr2, er_13]; simp only [ph_fr3]; rw [if_pos t_18, if_pos c_19], rfl⟩
            · skip
              refine gV_iconst (pc := 89) (v := 1) C dX2_frame_89 (by decide) ?_
              refine gV_goto (pc := 90) C 94 dX2_frame_90 (by decide) ?_
              refine gV_iret (pc := 94) C dX2_frame_94 (by decide) (by decide) ?_
              exact ⟨by rw [ph_frV, if_neg c_1, if_neg c_2, if_pos c_12, ph_fr2, er_13]; simp only [ph_fr3]; rw [if_pos t_18, if_neg c_19], rfl⟩
          by_cases t_20 : x = 1
          · refine gV_tableIn (pc := 54) C 95 dX2_frame_54 (by rw [t_20]; decide) (by rw [t_20]; decide) (by rw [t_20]; rfl) (by decide) ?_
            refine gV_aload_n (pc := 95) (x := a_13) C dX2_frame_95 0 rfl rfl ?_
            refine gV_ifnonnull (pc := 96) (r := some a_13) C 103 dX2_frame_96 (by decide) (fun _ _ => ?_) (fun h => nomatch h)
            refine gV_aload_n (pc := 103) (x := ad 0) C dX2_frame_103 1 rfl rfl ?_
            refine gV_aload_n (pc := 104) (x := a_13) C dX2_frame_104 0 rfl rfl ?_
            refine gV_callV (pc := 105) (As := [.ref a_13]) (rest := []) C ml_X2_124 gy_X2_leastHolder gv_X2_leastHolder (c_leastHolder hok m_13) ⟨0, 2, _, _, rfl, rfl, rfl⟩ rfl rfl ⟨by decide, by decide⟩ (Nat.le_of_ble_eq_true rfl) (by decide) (by decide) dX2_frame_105 ?_
            rintro _ _ ⟨rfl, rfl⟩
            refine gV_iret (pc := 108) C dX2_frame_108 (by decide) (by decide) ?_
            exact ⟨by rw [ph_frV, if_neg c_1, if_neg c_2, if_pos c_12, ph_fr2, er_13]; simp only [ph_fr3]; rw [if_neg t_18, if_pos t_20], rfl⟩
          by_cases t_21 : x = 2
          · refine gV_tableIn (pc := 54) C 109 dX2_frame_54 (by rw [t_21]; decide) (by rw [t_21]; decide) (by rw [t_21]; rfl) (by decide) ?_
            refine gV_aload_n (pc := 109) (x := a_13) C dX2_frame_109 0 rfl rfl ?_
            refine gV_ifnonnull (pc := 110) (r := some a_13) C 117 dX2_frame_110 (by decide) (fun _ _ => ?_) (fun h => nomatch h)
            refine gV_aload_n (pc := 117) (x := a_13) C dX2_frame_117 0 rfl rfl ?_
            refine cg_b_pageNumber (pc := 118) (σ := σ) C m_13 fl_X2_127 dX2_frame_118 ?_
            refine gV_iret (pc := 121) C dX2_frame_121 (by decide) (by decide) ?_
            exact ⟨by rw [ph_frV, if_neg c_1, if_neg c_2, if_pos c_12, ph_fr2, er_13]; simp only [ph_fr3]; rw [if_neg t_18, if_neg t_20, if_pos t_21], rfl⟩
          have nt_18 : x.toInt ≠ 0 := fun e => t_18 (Int32.toInt_inj.mp (e.trans (by decide)))
          have nt_20 : x.toInt ≠ 1 := fun e => t_20 (Int32.toInt_inj.mp (e.trans (by decide)))
          have nt_21 : x.toInt ≠ 2 := fun e => t_21 (Int32.toInt_inj.mp (e.trans (by decide)))
          refine gV_tableOut (pc := 54) C 122 dX2_frame_54 (by omega) (by decide) ?_
          refine gV_iconst (pc := 122) (v := (-1)) C dX2_frame_122 (by decide) ?_
          refine gV_iret (pc := 123) C dX2_frame_123 (by decide) (by decide) ?_
          exact ⟨by rw [ph_frV, if_neg c_1, if_neg c_2, if_pos c_12, ph_fr2, er_13]; simp only [ph_fr3]; rw [if_neg t_18, if_neg t_20, if_neg t_21], rfl⟩
      · skip
        have hwd : vp_in (f * 16 + x - 16) (16 * F) := by
          obtain ⟨j, hj, rfl⟩ := ph_has_in c_1 (by omega)
          obtain ⟨z, hz, -, e⟩ := wd_in (F := F) (by omega) hj c_2 c_12
          rw [e]; exact vp_in_nI (by omega) (by omega)
        refine gV_aload_n (pc := 25) (x := ad 0) C dX2_frame_25 0 rfl rfl ?_
        refine cg_frames (pc := 26) C fl_X2_23 dX2_frame_26 ?_
        refine cg_words1 (pc := 29) C fl_X2_87 dX2_frame_29 ?_
        refine gV_iload_n (pc := 32) C dX2_frame_32 1 rfl rfl ?_
        refine gV_bipush (pc := 33) (v := 16) C dX2_frame_33 (by decide) ?_
        refine gV_imul (pc := 35) C dX2_frame_35 ?_
        refine gV_iload_n (pc := 36) C dX2_frame_36 2 rfl rfl ?_
        refine gV_iadd (pc := 37) C dX2_frame_37 ?_
        refine gV_bipush (pc := 38) (v := 16) C dX2_frame_38 (by decide) ?_
        refine gV_isub (pc := 40) C dX2_frame_40 ?_
        refine ca_fw (pc := 41) C hwd dX2_frame_41 ?_
        refine gV_iret (pc := 42) C dX2_frame_42 (by decide) (by decide) ?_
        exact ⟨by rw [ph_frV, if_neg c_1, if_neg c_2, if_neg c_12], rfl⟩
  · skip
    refine gV_iconst (pc := 11) (v := (-1)) C dX2_frame_11 (by decide) ?_
    refine gV_iret (pc := 12) C dX2_frame_12 (by decide) (by decide) ?_
    exact ⟨by rw [ph_frV, if_pos c_1], rfl⟩
abbrev rm_X2_look : Room := { frames := 2, cells := 0, slots := 0, locals := 45 }
set_option maxHeartbeats 4000000 in
set_option maxRecDepth 100000 in
/-- look -/
theorem c_look {D : va_G} {ad : Nat → Nat} {ct : Nat → ClassId} {F S : Nat} {σ : ph_S} (x : Int32) (hok : ph_ok F S σ) : gM yX2_look cX2_look 2 (some .int) rm_X2_look D (gt ct) (cw ad ct F S σ) [.ref (ad 0), .int x] (fun v w => v = some (.int (ph_lkV F S σ x)) ∧ w = cw ad ct F S σ) := by
  refine gM_in RX2 rfl (by decide) (Nat.le_of_ble_eq_true rfl) (fun X C => ?_)
  have hF := hok.F16
  have hS := hok.S64
  refine gV_iload_n (pc := 0) C dX2_look_0 1 rfl rfl ?_
  by_cases t_1 : x = 0
  · refine gV_tableIn (pc := 1) C 60 dX2_look_1 (by rw [t_1]; decide) (by rw [t_1]; decide) (by rw [t_1]; rfl) (by decide) ?_
    refine gV_aload_n (pc := 60) (x := ad 0) C dX2_look_60 0 rfl rfl ?_
    refine gV_callV (pc := 61) (As := []) (rest := []) C ml_X2_137 gy_X2_countProcesses gv_X2_countProcesses (c_countProcesses) ⟨0, 2, _, _, rfl, rfl, rfl⟩ rfl rfl ⟨by decide, by decide⟩ (Nat.le_of_ble_eq_true rfl) (by decide) (by decide) dX2_look_61 ?_
    rintro _ _ ⟨rfl, rfl⟩
    refine gV_iret (pc := 64) C dX2_look_64 (by decide) (by decide) ?_
    exact ⟨by rw [ph_lkV, if_pos t_1], rfl⟩
  by_cases t_2 : x = 1
  · refine gV_tableIn (pc := 1) C 65 dX2_look_1 (by rw [t_2]; decide) (by rw [t_2]; decide) (by rw [t_2]; rfl) (by decide) ?_
    refine gV_aload_n (pc := 65) (x := ad 0) C dX2_look_65 0 rfl rfl ?_
    refine cg_frames (pc := 66) C fl_X2_23 dX2_look_66 ?_
    refine gV_callV (pc := 69) (As := []) (rest := []) C ml_X2_108 gy_X1_countFree gv_X1_countFree (c_countFree1 (by omega)) ⟨1, 1, _, _, rfl, rfl, rfl⟩ rfl rfl ⟨by decide, by decide⟩ (Nat.le_of_ble_eq_true rfl) (by decide) (by decide) dX2_look_69 ?_
    rintro _ _ ⟨rfl, rfl⟩
    refine gV_iret (pc := 72) C dX2_look_72 (by decide) (by decide) ?_
    exact ⟨by rw [ph_lkV, if_neg t_1, if_pos t_2], rfl⟩
  by_cases t_3 : x = 2
  · refine gV_tableIn (pc := 1) C 73 dX2_look_1 (by rw [t_3]; decide) (by rw [t_3]; decide) (by rw [t_3]; rfl) (by decide) ?_
    refine gV_aload_n (pc := 73) (x := ad 0) C dX2_look_73 0 rfl rfl ?_
    refine cg_sectors (pc := 74) C fl_X2_27 dX2_look_74 ?_
    refine gV_callV (pc := 77) (As := []) (rest := []) C ml_X2_108 gy_X1_countFree gv_X1_countFree (c_countFree2 (by omega)) ⟨2, 1, _, _, rfl, rfl, rfl⟩ rfl rfl ⟨by decide, by decide⟩ (Nat.le_of_ble_eq_true rfl) (by decide) (by decide) dX2_look_77 ?_
    rintro _ _ ⟨rfl, rfl⟩
    refine gV_iret (pc := 80) C dX2_look_80 (by decide) (by decide) ?_
    exact ⟨by rw [ph_lkV, if_neg t_1, if_neg t_2, if_pos t_3], rfl⟩
  by_cases t_4 : x = 3
  · refine gV_tableIn (pc := 1) C 81 dX2_look_1 (by rw [t_4]; decide) (by rw [t_4]; decide) (by rw [t_4]; rfl) (by decide) ?_
    refine gV_aload_n (pc := 81) (x := ad 0) C dX2_look_81 0 rfl rfl ?_
    refine cg_hand (pc := 82) C fl_X2_140 dX2_look_82 ?_
    refine gV_iret (pc := 85) C dX2_look_85 (by decide) (by decide) ?_
    exact ⟨by rw [ph_lkV, if_neg t_1, if_neg t_2, if_neg t_3, if_pos t_4], rfl⟩
  by_cases t_5 : x = 4
  · refine gV_tableIn (pc := 1) C 86 dX2_look_1 (by rw [t_5]; decide) (by rw [t_5]; decide) (by rw [t_5]; rfl) (by decide) ?_
    refine gV_aload_n (pc := 86) (x := ad 0) C dX2_look_86 0 rfl rfl ?_
    refine gV_callV (pc := 87) (As := []) (rest := []) C ml_X2_143 gy_X2_countBodies gv_X2_countBodies (c_countBodies hok) ⟨0, 2, _, _, rfl, rfl, rfl⟩ rfl rfl ⟨by decide, by decide⟩ (Nat.le_of_ble_eq_true rfl) (by decide) (by decide) dX2_look_87 ?_
    rintro _ _ ⟨rfl, rfl⟩
    refine gV_iret (pc := 90) C dX2_look_90 (by decide) (by decide) ?_
    exact ⟨by rw [ph_lkV, if_neg t_1, if_neg t_2, if_neg t_3, if_neg t_4, if_pos t_5], rfl⟩
  by_cases t_6 : x = 5
  · refine gV_tableIn (pc := 1) C 91 dX2_look_1 (by rw [t_6]; decide) (by rw [t_6]; decide) (by rw [t_6]; rfl) (by decide) ?_
    refine gV_aload_n (pc := 91) (x := ad 0) C dX2_look_91 0 rfl rfl ?_
    refine gV_callV (pc := 92) (As := []) (rest := []) C ml_X2_146 gy_X2_countDirty gv_X2_countDirty (c_countDirty hok) ⟨0, 2, _, _, rfl, rfl, rfl⟩ rfl rfl ⟨by decide, by decide⟩ (Nat.le_of_ble_eq_true rfl) (by decide) (by decide) dX2_look_92 ?_
    rintro _ _ ⟨rfl, rfl⟩
    refine gV_iret (pc := 95) C dX2_look_95 (by decide) (by decide) ?_
    exact ⟨by rw [ph_lkV, if_neg t_1, if_neg t_2, if_neg t_3, if_neg t_4, if_neg t_5, if_pos t_6], rfl⟩
  by_cases t_7 : x = 6
  · refine gV_tableIn (pc := 1) C 96 dX2_look_1 (by rw [t_7]; decide) (by rw [t_7]; decide) (by rw [t_7]; rfl) (by decide) ?_
    refine gV_aload_n (pc := 96) (x := ad 0) C dX2_look_96 0 rfl rfl ?_
    refine cg_accesses (pc := 97) C fl_X2_73 dX2_look_97 ?_
    refine gV_iret (pc := 100) C dX2_look_100 (by decide) (by decide) ?_
    exact ⟨by rw [ph_lkV, if_neg t_1, if_neg t_2, if_neg t_3, if_neg t_4, if_neg t_5, if_neg t_6, if_pos t_7], rfl⟩
  by_cases t_8 : x = 7
  · refine gV_tableIn (pc := 1) C 101 dX2_look_1 (by rw [t_8]; decide) (by rw [t_8]; decide) (by rw [t_8]; rfl) (by decide) ?_
    refine gV_aload_n (pc := 101) (x := ad 0) C dX2_look_101 0 rfl rfl ?_
    refine cg_taken (pc := 102) C fl_X2_149 dX2_look_102 ?_
    refine gV_iret (pc := 105) C dX2_look_105 (by decide) (by decide) ?_
    exact ⟨by rw [ph_lkV, if_neg t_1, if_neg t_2, if_neg t_3, if_neg t_4, if_neg t_5, if_neg t_6, if_neg t_7, if_pos t_8], rfl⟩
  by_cases t_9 : x = 8
  · refine gV_tableIn (pc := 1) C 106 dX2_look_1 (by rw [t_9]; decide) (by rw [t_9]; decide) (by rw [t_9]; rfl) (by decide) ?_
    refine gV_aload_n (pc := 106) (x := ad 0) C dX2_look_106 0 rfl rfl ?_
    refine cg_brought (pc := 107) C fl_X2_152 dX2_look_107 ?_
    refine gV_iret (pc := 110) C dX2_look_110 (by decide) (by decide) ?_
    exact ⟨by rw [ph_lkV, if_neg t_1, if_neg t_2, if_neg t_3, if_neg t_4, if_neg t_5, if_neg t_6, if_neg t_7, if_neg t_8, if_pos t_9], rfl⟩
  by_cases t_10 : x = 9
  · refine gV_tableIn (pc := 1) C 111 dX2_look_1 (by rw [t_10]; decide) (by rw [t_10]; decide) (by rw [t_10]; rfl) (by decide) ?_
    refine gV_aload_n (pc := 111) (x := ad 0) C dX2_look_111 0 rfl rfl ?_
    refine cg_storings (pc := 112) C fl_X2_155 dX2_look_112 ?_
    refine gV_iret (pc := 115) C dX2_look_115 (by decide) (by decide) ?_
    exact ⟨by rw [ph_lkV, if_neg t_1, if_neg t_2, if_neg t_3, if_neg t_4, if_neg t_5, if_neg t_6, if_neg t_7, if_neg t_8, if_neg t_9, if_pos t_10], rfl⟩
  by_cases t_11 : x = 10
  · refine gV_tableIn (pc := 1) C 116 dX2_look_1 (by rw [t_11]; decide) (by rw [t_11]; decide) (by rw [t_11]; rfl) (by decide) ?_
    refine gV_aload_n (pc := 116) (x := ad 0) C dX2_look_116 0 rfl rfl ?_
    refine cg_copies (pc := 117) C fl_X2_158 dX2_look_117 ?_
    refine gV_iret (pc := 120) C dX2_look_120 (by decide) (by decide) ?_
    exact ⟨by rw [ph_lkV, if_neg t_1, if_neg t_2, if_neg t_3, if_neg t_4, if_neg t_5, if_neg t_6, if_neg t_7, if_neg t_8, if_neg t_9, if_neg t_10, if_pos t_11], rfl⟩
  have nt_1 : x.toInt ≠ 0 := fun e => t_1 (Int32.toInt_inj.mp (e.trans (by decide)))
  have nt_2 : x.toInt ≠ 1 := fun e => t_2 (Int32.toInt_inj.mp (e.trans (by decide)))
  have nt_3 : x.toInt ≠ 2 := fun e => t_3 (Int32.toInt_inj.mp (e.trans (by decide)))
  have nt_4 : x.toInt ≠ 3 := fun e => t_4 (Int32.toInt_inj.mp (e.trans (by decide)))
  have nt_5 : x.toInt ≠ 4 := fun e => t_5 (Int32.toInt_inj.mp (e.trans (by decide)))
  have nt_6 : x.toInt ≠ 5 := fun e => t_6 (Int32.toInt_inj.mp (e.trans (by decide)))
  have nt_7 : x.toInt ≠ 6 := fun e => t_7 (Int32.toInt_inj.mp (e.trans (by decide)))
  have nt_8 : x.toInt ≠ 7 := fun e => t_8 (Int32.toInt_inj.mp (e.trans (by decide)))
  have nt_9 : x.toInt ≠ 8 := fun e => t_9 (Int32.toInt_inj.mp (e.trans (by decide)))
  have nt_10 : x.toInt ≠ 9 := fun e => t_10 (Int32.toInt_inj.mp (e.trans (by decide)))
  have nt_11 : x.toInt ≠ 10 := fun e => t_11 (Int32.toInt_inj.mp (e.trans (by decide)))
  refine gV_tableOut (pc := 1) C 121 dX2_look_1 (by omega) (by decide) ?_
  refine gV_iconst (pc := 121) (v := (-1)) C dX2_look_121 (by decide) ?_
  refine gV_iret (pc := 122) C dX2_look_122 (by decide) (by decide) ?_
  exact ⟨by rw [ph_lkV, if_neg t_1, if_neg t_2, if_neg t_3, if_neg t_4, if_neg t_5, if_neg t_6, if_neg t_7, if_neg t_8, if_neg t_9, if_neg t_10, if_neg t_11], rfl⟩
end
section
/-- what a throw rests on beside the tables: two statics of Throwable, three texts -/
def gZ (A : Nat → Prop) (U : State) (H : Heap) : Prop := vx_Zq Bundle.tN "UNASSIGNED_STACK" Bundle.steD A U H ∧ vx_Zq Bundle.tN "SUPPRESSED_SENTINEL" Bundle.listD A U H ∧ (∃ a, vk_R RX2 161 "no such process or address" a U) ∧ (∃ a, vk_R RX2 165 "no room" a U) ∧ ∃ a, vk_R RX2 132 "no such sector or word" a U
theorem gZ.moved {A B : Nat → Prop} {u U : State} {H H1 : Heap} (hW : u.WarmedH U.vm) (h : gZ A u H) (hq : ∀ a : Nat, a < H.size → ¬ A a → H1[a]? = H[a]?) (hAB : ∀ q, B q → A q) : gZ B U H1 := by
  obtain ⟨h1, h2, ⟨a1, h3⟩, ⟨a2, h4⟩, ⟨a3, h5⟩⟩ := h
  exact ⟨((h1.kept hq).narrow hAB).moved hW.alike, ((h2.kept hq).narrow hAB).moved hW.alike, ⟨a1, vk_R.warm hW h3⟩, ⟨a2, vk_R.warm hW h4⟩, ⟨a3, vk_R.warm hW h5⟩⟩
def gXC (postX : String → va_W → Prop) (D : va_G) (A : Nat → Prop) : String → State → State → Prop := fun E st t => (∃ w, postX E w ∧ va_P D vwc w t.heap ∧ va_D A w) ∧ va_F A st t
def gPX (D : va_G) (tys : List (ClassId × FieldType)) (ws : va_W) (sz : Nat) (U : State) : Prop := gP D tys ws sz U ∧ gZ (va_A ws sz) U U.heap
/-- a contract of a method that returns or throws -/
def gMX (y : MethodName) (bytes : ByteArray) (maxL : Nat) (rt : Option FieldType) (rm : Room) (D : va_G) (tys : List (ClassId × FieldType)) (ws : va_W) (av : List Value) (post : Option Value → va_W → Prop) (postX : String → va_W → Prop) : Prop :=
  ∀ (l : Launch) (sz : Nat), l.stackTraces = false → vx_Met l y (Cond.code y bytes maxL rt :: pw_all) rm (va_Pc av (gPX D tys ws sz)) (gQ post D (va_A ws sz)) (gXC postX D (va_A ws sz)) rm.cells rm.slots (va_A ws sz)
def gCX (X : gx_T) (postX : String → va_W → Prop) (rm : Room) (post : Option Value → va_W → Prop) : Prop :=
  match X with
  | ((p, l, e, R, s, m, args, below, meth, c, Q), (nL', D', tys', A)) => gZ A s s.heap ∧ (∀ x ∈ c.exceptionTable.toList, False) ∧ Q = vx_MQ below (gQ post D' A) (gXC postX D' A) args s rm.cells rm.slots A
theorem gMX_in {y : MethodName} {bytes : ByteArray} {maxL : Nat} {rt : Option FieldType} {rm : Room} {D : va_G} {tys : List (ClassId × FieldType)} {ws : va_W} {av : List Value} {post : Option Value → va_W → Prop} {postX : String → va_W → Prop} (own : String) (ho : y.cls = own)
    (hy : plainName own = true) (hav : (lg_sl av).length ≤ maxL) (h : ∀ X : gx_T, gC X bytes maxL own rm rt D tys post → gCX X postX rm post → gV X 0 0 ws 0 (lv_args 0 av) []) : gMX y bytes maxL rt rm D tys ws av post postX := by
  subst ho
  intro l sz hl0
  refine vx_ofW (cc := bytes) (maxL := maxL) (ret := rt) hy rfl ?_
  intro p e s m args below meth c s₁ B hml htab hv
  obtain ⟨rfl, ⟨hsz, hP, hK, hN, hD0⟩, hZ⟩ := hv
  subst hsz
  have hts := atoms_spec (ws := Cond.code y bytes maxL rt :: pw_all) B.pre
  have hl := lv_entry av (n := maxL) hav
  rw [lg_entry_eq]
  exact h ((p, l, e, rm, s, m, av.toArray, below, meth, c, vx_MQ below (gQ post D (va_A ws s.heap.size)) (gXC postX D (va_A ws s.heap.size)) av.toArray s rm.cells rm.slots (va_A ws s.heap.size)), (maxL, D, tys, va_A ws s.heap.size))
    ⟨B.exec, B.bytes, hml, findClass_of_methodNamed B.named, fun w hw => hts w (List.mem_cons_of_mem _ hw), hN, hK, fun q hq => Or.inr hq, B.notSynchronized, rfl, rfl, rfl, rfl, hl0, B.returns, fun _ _ _ _ _ k => vx_ret k⟩
    ⟨hZ, htab, rfl⟩ s.heap [] _ hP (hD0.self (sz := s.heap.size)) va_S.rf hl
theorem gPX_blind {av : List Value} {D : va_G} {tys : List (ClassId × FieldType)} {ws : va_W} {sz : Nat} : FrameBlind (va_Pc av (gPX D tys ws sz)) := by
  intro a U g mk h
  obtain ⟨h0, h1, h2⟩ := h
  obtain ⟨h3, h4⟩ := gP_blind (av := av) a U g mk ⟨h0, h1⟩
  exact ⟨h3, h4, gZ.moved (u := U) (U := U.calling g mk a) (State.WarmedH.refl U) h2 (fun _ _ _ => rfl) (fun _ h => h)⟩
section GXR
variable {X : gx_T} {cc : ByteArray} {nL : Nat} {own : String} {rm : Room} {rt : Option FieldType} {D : va_G} {tys : List (ClassId × FieldType)} {post : Option Value → va_W → Prop} {postX : String → va_W → Prop} {k n : Nat} {ws : va_W} {pc : Nat} {lv : List (Nat × Value)} {st : List Value}
variable {y : MethodName} {bytes : ByteArray} {maxL : Nat} {ret : Option FieldType} {np : Nat} {rm' : Room} {As rest : List Value} {b idx : Nat} {post' : Option Value → va_W → Prop} {postX' : String → va_W → Prop}
/-- throw new cls(text) -/
theorem gV_throwS (C : gC X cc nL own rm rt D tys post) (CX : gCX X postX rm post) {cls text : String} {names : List String} {ik is ic : Nat} (hcls : Bundle.fit cls = true) (hnames : ∀ n ∈ names, Bundle.fit n = true) (hk : Cond.classLink own ik cls ∈ pw_all) (hini : Cond.initialized cls ∈ pw_all)
    (hstr : ∀ A U H, gZ A U H → ∃ a, vk_R own is text a U) (h1 : ∀ w ∈ (vx_atS own ic cls names).filter goodWord, w ∈ lw_tbl) (h2 : ∀ w ∈ (vx_atS own ic cls names).filter (fun w => !goodWord w), w ∈ pw_nst) (hgood : ∀ w ∈ Cond.classLink own ik cls :: Cond.initialized cls :: vx_atS own ic cls names, vx_ot w = true)
    (d0 : decode cc pc = .ok (.new ik, 3)) (d3 : decode cc (pc + 3) = .ok (.dup, 1)) (d4 : decode cc (pc + 4) = .ok (.ldc is, 2)) (d6 : decode cc (pc + 6) = .ok (.invokespecial ic, 3)) (d9 : decode cc (pc + 9) = .ok (.athrow, 1))
    (hRf : names.length + 3 < rm.frames) (hRl : (st.map fun v => v.category).sum + (13 * (names.length + 1) + 43) ≤ rm.locals) (hRc : k + 1 ≤ rm.cells) (hRs : n + 6 ≤ rm.slots) (hp : postX cls ws) : gV X k n ws pc lv st := by
  obtain ⟨⟨p, l, e, R, s, m, args, below, meth, c, Q⟩, nL', D', tys', A⟩ := X
  obtain ⟨hx, hb, hml, hown, hts, hN, hK, hA, hlks, rfl, rfl, rfl, rfl, hl0, hr, hret⟩ := C
  obtain ⟨hZ, htab, rfl⟩ := CX
  intro H locs ls hP hD hS hl
  obtain ⟨sa, hsa⟩ := hstr _ _ _ hZ
  have hat : ∀ w ∈ vx_atS own ic cls names, w.before args s = true := by
    intro w hw
    cases hg : goodWord w with
    | true => exact hts w (List.mem_filter.mpr ⟨h1 w (List.mem_filter.mpr ⟨hw, hg⟩), hg⟩)
    | false =>
      have h9 := h2 w (List.mem_filter.mpr ⟨hw, by rw [hg]; rfl⟩)
      exact pw_nst_use h9 (hN w h9)
  exact vx_throwS hx hb hl0 hown hcls hnames (hts _ hk) (hts _ hini) hsa hat hgood hZ.1 hZ.2.1 hS (hl.1.trans hml.symm) d0 d3 d4 d6 d9 (fun x hx => (htab x hx).elim) hRf hRl hRc hRs hlks
    (fun t _ hz hq => ⟨⟨ws, hp, hP.kept (fun j q hj => hq q.1 (hP j q hj).lt), hD⟩, Nat.le_trans hS.1 hz, fun q h1 h2 => by rw [hq q (Nat.lt_of_lt_of_le h1 hS.1)]; exact hS.2.1 q h1 h2⟩)
    hS.2.2 hRc hRs
/-- a call that may throw; what is thrown goes on to the caller -/
theorem gV_callVX (C : gC X cc nL own rm rt D tys post) (CX : gCX X postX rm post) (hlk : Cond.methodLink own idx y ∈ pw_all) (hY : gl_Y y bytes maxL ret np) (hV : gl_V y) (hM : gMX y bytes maxL ret rm' D tys ws (.ref b :: As) post' postX') (hb0 : ∃ (q0 ci : Nat) (q : vw_C) (fs : List Value), ws[q0]? = some (b, .inr (ci, fs)) ∧ vwc[ci]? = some q ∧ q.1 = y.cls) (hn : As.length = np) (hst : st = As.reverse ++ .ref b :: rest)
    (hR : rm'.frames + 1 ≤ rm.frames ∧ 8 + (maxL + 11) + rm'.locals ≤ rm.locals) (hcat : (rest.map fun v => v.category).sum ≤ 8) (h1 : k + rm'.cells ≤ rm.cells) (h2 : n + rm'.slots ≤ rm.slots) (hdg : decode cc pc = .ok (.invokevirtual idx, 3)) (hthrow : ∀ E w, postX' E w → postX E w)
    (kk : ∀ r w, post' r w → gV X (k + rm'.cells) (n + rm'.slots) w (pc + 3) lv (r.toList ++ rest)) : gV X k n ws pc lv st := by
  obtain ⟨⟨p, l, e, R, s, m, args, below, meth, c, Q⟩, nL', D', tys', A⟩ := X
  obtain ⟨hx, hb, hml, hown, hts, hN, hK, hA, hlks, rfl, rfl, rfl, rfl, hl0, hr, hret⟩ := C
  obtain ⟨hZ, htab, rfl⟩ := CX
  intro H locs ls hP hD hS hl
  have hwn : ws ++ [] = ws := List.append_nil ws
  have hP0 : va_P D' vwc (ws ++ []) H := by rw [hwn]; exact hP
  have hD0 : va_D A (ws ++ []) := by rw [hwn]; exact hD
  have hF := gj_free hD0 hS hA
  have hpre := gc_pre (av := .ref b :: As) hP0 hD0 hK hN
  obtain ⟨q0, ci, q, fs, g1, g2, g3⟩ := hb0
  have hrecv := va_recv hK hP (q0 := q0) (ci := ci) (q := q) (fs := fs) (a := b) g2 g1
  rw [g3] at hrecv
  have hsig : ∀ sig, parseMethodDescriptor y.desc = some sig → np = sig.parameters.length := fun sig h => by
    have h9 := hY.2.2.2.2
    rw [h] at h9
    exact (Option.some.inj h9).symm
  have base := gc_words hts hY.1
  have run := vx_runV (C := y.cls) (b := b) (As := As) (rest := rest) ⟨hx, hb, hml, hown, hts⟩ (hM l H.size hl0) ⟨⟨rfl, rfl, hR.1, hR.2, base, List.mem_cons_self, hts _ hY.1, hts _ hY.2.1, ⟨hY.2.2.1, hY.2.2.2.1⟩, hsig, hts _ hlk⟩, hts _ hV.1, hts _ hV.2⟩ ⟨gPX_blind, hrecv, fun U hU hW => ⟨(hpre.2 U hU hW).1, (hpre.2 U hU hW).2, by rw [hU]; exact gZ.moved hW hZ hS.2.1 hF⟩⟩ (locs := locs) (cells := k) (slots := n) (below := below) (meth := meth) (e := e) (g := F0 m pc ls st) rfl hn hl.1 hst (lv_room hcat) hdg ⟨h1, h2⟩
  intro T hT X
  rcases run T hT X with ⟨v, st₀, t, T', L, h0, X', hL, e1, e2, ⟨⟨r, w, hv, hp, hPw, hDw⟩, hz, hk⟩, go⟩ | ⟨q9, st₀, t, T', L, E, ce, h0, X', hL, e1, e2, ⟨⟨w, hp, hPw, hDw⟩, hz, hk⟩, hce, hcv, hcl, go⟩
  · cases hv
    rw [h0] at hz hk
    obtain ⟨hP2, hD2⟩ := gj_join (w1 := w) hP0 hD0 (H1 := T'.heap) (fun q h1 h2 => by rw [e1]; exact hk q h1 h2) hF (by rw [e1]; exact hPw) hDw
    rw [List.append_nil] at hP2 hD2
    have hS2 : va_S A s.heap T'.heap (locs ++ L) := ⟨Nat.le_trans hS.1 (by rw [e1]; exact hz), fun q h1 h2 => by rw [e1, hk q (Nat.lt_of_lt_of_le h1 hS.1) (fun z => h2 (hF q z))]; exact hS.2.1 q h1 h2, fun q hq => by
        rcases List.mem_append.mp hq with h | h
        · exact hS.2.2 q h
        · exact hF _ (hL q h)⟩
    obtain ⟨t2, a1, b1⟩ := kk v w hp T'.heap (locs ++ L) ls hP2 hD2 hS2 hl T' rfl X'
    exact ⟨t2, go t2 a1, b1⟩
  · rw [h0] at hz hk
    obtain ⟨hP2, hD2⟩ := gj_join (w1 := w) hP0 hD0 (H1 := T'.heap) (fun q h1 h2 => by rw [e1]; exact hk q h1 h2) hF (by rw [e1]; exact hPw) hDw
    rw [List.append_nil] at hP2 hD2
    have hS2 : va_S A s.heap T'.heap (locs ++ L) := ⟨Nat.le_trans hS.1 (by rw [e1]; exact hz), fun q h1 h2 => by rw [e1, hk q (Nat.lt_of_lt_of_le h1 hS.1) (fun z => h2 (hF q z))]; exact hS.2.1 q h1 h2, fun q hq => by
        rcases List.mem_append.mp hq with h | h
        · exact hS.2.2 q h
        · exact hF _ (hL q h)⟩
    obtain ⟨t2, a1, b1⟩ := vx_out (Qc := gQ post D' A) (XC := gXC postX D' A) (free := A) (pc := pc) (ls := ls) (rest := rest) (E := E) (ce := ce) (q := q9) (mc := R.cells) (ms := R.slots) (fun x hx => (htab x hx).elim) hlks (by rw [e1]; exact hce) hcv hcl
      (fun t2 ht2 _ => ⟨⟨w, hthrow E w hp, by rw [ht2]; exact hP2, hD2⟩, hS2.F ht2⟩) hS2.2.2 h1 h2 T' rfl X'
    exact ⟨t2, go.trans a1, b1⟩
end GXR
theorem w_iob_1 : ∀ w ∈ (vx_atS RX2 134 "java/lang/IndexOutOfBoundsException" ["java/lang/RuntimeException", "java/lang/Exception"]).filter goodWord, w ∈ lw_tbl := by decide +kernel
theorem w_iob_2 : ∀ w ∈ (vx_atS RX2 134 "java/lang/IndexOutOfBoundsException" ["java/lang/RuntimeException", "java/lang/Exception"]).filter (fun w => !goodWord w), w ∈ pw_nst := by
  have h : ∀ w ∈ (vx_atS RX2 134 "java/lang/IndexOutOfBoundsException" ["java/lang/RuntimeException", "java/lang/Exception"]).filter (fun w => !goodWord w), w ∈ tables_1 ∧ pw_isN w = true := by decide +kernel
  exact fun w hw => List.mem_filter.mpr (h w hw)
theorem w_ise_1 : ∀ w ∈ (vx_atS RX2 167 "java/lang/IllegalStateException" ["java/lang/RuntimeException", "java/lang/Exception"]).filter goodWord, w ∈ lw_tbl := by decide +kernel
theorem w_ise_2 : ∀ w ∈ (vx_atS RX2 167 "java/lang/IllegalStateException" ["java/lang/RuntimeException", "java/lang/Exception"]).filter (fun w => !goodWord w), w ∈ pw_nst := by
  have h : ∀ w ∈ (vx_atS RX2 167 "java/lang/IllegalStateException" ["java/lang/RuntimeException", "java/lang/Exception"]).filter (fun w => !goodWord w), w ∈ tables_1 ∧ pw_isN w = true := by decide +kernel
  exact fun w hw => List.mem_filter.mpr (h w hw)
theorem w_iob_3 : ∀ w ∈ Cond.classLink RX2 130 "java/lang/IndexOutOfBoundsException" :: Cond.initialized "java/lang/IndexOutOfBoundsException" :: vx_atS RX2 134 "java/lang/IndexOutOfBoundsException" ["java/lang/RuntimeException", "java/lang/Exception"], vx_ot w = true := by decide +kernel
theorem w_iob_k : Cond.classLink RX2 130 "java/lang/IndexOutOfBoundsException" ∈ pw_all := pw_t 205 (by decide +kernel) rfl
theorem w_iob_i : Cond.initialized "java/lang/IndexOutOfBoundsException" ∈ pw_all := pw_t 8 (by decide +kernel) rfl
theorem w_ise_3 : ∀ w ∈ Cond.classLink RX2 163 "java/lang/IllegalStateException" :: Cond.initialized "java/lang/IllegalStateException" :: vx_atS RX2 167 "java/lang/IllegalStateException" ["java/lang/RuntimeException", "java/lang/Exception"], vx_ot w = true := by decide +kernel
theorem w_ise_k : Cond.classLink RX2 163 "java/lang/IllegalStateException" ∈ pw_all := pw_t 280 (by decide +kernel) rfl
theorem w_ise_i : Cond.initialized "java/lang/IllegalStateException" ∈ pw_all := pw_t 9 (by decide +kernel) rfl
end
section
theorem w_ml_62 : Cond.methodLink RX2 62 yX2_checkAddress ∈ pw_all := pw_t 201 (by decide +kernel) rfl
theorem w_ml_70 : Cond.methodLink RX2 70 yX2_checkRoom ∈ pw_all := pw_t 276 (by decide +kernel) rfl
def ph_ca (σ : ph_S) (p a : Int32) : Int32 := if a < 0 then 0 else if ph_hg σ p (a / 16) = 0 then 0 else 1
def ph_cr (F S : Nat) (σ : ph_S) (t : Int32) : Int32 := if t - nI (ph_cf (ph_R σ 0) F) ≤ nI (ph_cf (ph_R σ 1) S) then 1 else 0
def ph_sdT (S : Nat) (s i : Int32) : Nat := if ph_has S s = 0 then 1 else if i < 0 then 1 else if i < 16 then 0 else 1
def ph_sdV (σ : ph_S) (s i : Int32) : Int32 := ph_A σ 1 (s * 16 + i).toNatClampNeg
theorem ca_in {σ : ph_S} {p a : Int32} (h : ¬ ph_ca σ p a = 0) : ¬ a < 0 ∧ ¬ ph_hg σ p (a / 16) = 0 := by
  unfold ph_ca at h
  split at h
  · exact absurd rfl h
  · split at h
    · exact absurd rfl h
    · exact ⟨by assumption, by assumption⟩
theorem div16 {x : Nat} (h : x < 2 ^ 31) : nI x / 16 = nI (x / 16) := by
  rw [show (16 : Int32) = nI 16 from rfl]; exact pk_div h (by decide) (by decide)
theorem rem16 {x : Nat} (h : x < 2 ^ 31) : nI x - nI x / 16 * 16 = nI (x % 16) := by
  rw [show (16 : Int32) = nI 16 from rfl]; exact pk_rem h (by decide) (by decide)
/-- what the class's address check means, in numbers -/
theorem ca_nat {F S : Nat} {σ : ph_S} {p a : Int32} (hok : ph_ok F S σ) (h : ¬ ph_ca σ p a = 0) : ∃ P x m, P < 8 ∧ x < 16 * m ∧ m ≤ 32 ∧ p = nI P ∧ a = nI x ∧ ph_A σ 3 P = nI m := by
  obtain ⟨h1, h2⟩ := ca_in h
  obtain ⟨x, hx, rfl⟩ := nI_of h1
  rw [div16 hx] at h2
  obtain ⟨P, G, m, g1, g2, g3, rfl, g5, g6⟩ := hg_nat hok h2
  have : x / 16 = G := (nI_eq (by omega) (by omega)).mp g5
  exact ⟨P, x, m, g1, by omega, g3, rfl, rfl, g6⟩
theorem cpy_B (N N' kd ks : Nat) (σ : ph_S) (row src : Int32) (k a : Nat) : ph_B (ph_cpy N N' kd ks σ row src) k a = ph_B σ k a := by
  unfold ph_cpy; split
  · rfl
  · split <;> rfl
theorem B_sI (σ : ph_S) (k : Nat) (v : Int32) (k' a : Nat) : ph_B (ph_sI σ k v) k' a = ph_B σ k' a := rfl
theorem B_sR (σ : ph_S) (k j : Nat) (v : Option Nat) (k' a : Nat) : ph_B (ph_sR σ k j v) k' a = ph_B σ k' a := rfl
theorem B_sA (σ : ph_S) (k j : Nat) (v : Int32) (k' a : Nat) : ph_B (ph_sA σ k j v) k' a = ph_B σ k' a := rfl
theorem B_fA (σ : ph_S) (k : Nat) (f : Nat → Int32) (k' a : Nat) : ph_B (ph_fA σ k f) k' a = ph_B σ k' a := rfl
theorem lay_B (σ : ph_S) (a f k b : Nat) : ph_B (ph_lay σ a f) k b = if k = 1 ∧ b = a then nI f else ph_B σ k b := by
  unfold ph_lay; rw [B_sR, B_sB]
theorem br_B (F S : Nat) (σ : ph_S) (a f k b : Nat) : ph_B (ph_br F S σ a f) k b = if k = 1 ∧ b = a then nI f else ph_B σ k b := by
  unfold ph_br ph_br2; rw [B_sI, cpy_B, lay_B]
theorem own1_fr {F S : Nat} {σ : ph_S} {a : Nat} (h : ph_ok F S σ) (ha : a ∈ ph_L σ) : ∃ f, f < F ∧ ph_B (ph_own1 F S σ a) 1 a = nI f := by
  unfold ph_own1; split
  · exact ⟨_, tkN_lt h, by rw [br_B, if_pos ⟨rfl, rfl⟩]⟩
  · rename_i hh
    rcases h.fr ha with h1 | h1
    · exact absurd h1 hh
    · exact h1
theorem nb_B (F : Nat) (σ : ph_S) (q : Nat) (g : Int32) (f k b : Nat) : ph_B (ph_nb F σ q g f) k b = if b = q then (if k = 0 then g else if k = 1 then nI f else if k = 2 then -1 else if k = 3 then 1 else 0) else ph_B σ k b := by
  unfold ph_nb ph_zero
  rw [B_fA, lay_B]
  unfold ph_bi
  simp only [B_sB, B_nB]
  by_cases hb : b = q
  · subst hb
    simp only [and_true, if_true]
    by_cases h1 : k = 1
    · simp [h1]
    · by_cases h0 : k = 0
      · simp [h0]
      · by_cases h2 : k = 2
        · simp [h2]
        · by_cases h3 : k = 3 <;> simp [h0, h1, h2, h3]
  · simp [hb]
theorem cbd_B (F : Nat) (σ : ph_S) (a f q k b : Nat) : ph_B (ph_cbd F σ a f q) k b = if k = 3 ∧ b = a then ph_B (ph_nb F σ q (ph_B σ 0 a) f) 3 a - 1 else ph_B (ph_nb F σ q (ph_B σ 0 a) f) k b := by
  unfold ph_cbd ph_cb1 ph_cb2 ph_cb3
  rw [B_sI, B_sB, cpy_B, cpy_B]
theorem own_fr {F S : Nat} {σ σ' : ph_S} {r : Option Nat} {g : Int32} {b : Nat} (h : ph_ok F S σ) (hr : ∀ a, r = some a → a ∈ ph_L σ) (ho : ph_own F S σ r g b σ') : ∃ f, f < F ∧ ph_B σ' 1 b = nI f := by
  cases r with
  | none =>
    obtain ⟨-, rfl⟩ := ho
    exact ⟨_, tkN_lt (kept := -1) h, by rw [nb_B]; simp⟩
  | some a =>
    have ha := hr a rfl
    have h1 := ok_own1 h ha
    simp only [ph_own, ph_own2] at ho
    split at ho
    · obtain ⟨rfl, rfl⟩ := ho
      exact own1_fr h ha
    · obtain ⟨-, rfl⟩ := ho
      exact ⟨_, tkN_lt (kept := ph_B (ph_own1 F S σ a) 1 a) h1, by rw [cbd_B, if_neg (by omega), nb_B]; simp⟩
def ph_acc (σ : ph_S) : ph_S := ph_sI σ 1 (ph_I σ 1 + 1)
def ph_bo (σ : ph_S) (p a : Int32) : Option Nat := ph_R σ 2 (p * 32 + a / 16).toNatClampNeg
def ph_rdT (F S : Nat) (σ : ph_S) (p a : Int32) : Nat := if ph_ca σ p a = 0 then 1 else if ph_cr F S σ (ph_tr σ (ph_bo σ p a)) = 0 then 2 else 0
def ph_wrT (F S : Nat) (σ : ph_S) (p a : Int32) : Nat := if ph_ca σ p a = 0 then 1 else if ph_cr F S σ (ph_tw σ (ph_bo σ p a)) = 0 then 2 else 0
def ph_rd2 (F S : Nat) (σ : ph_S) (b : Nat) : ph_S := ph_sA (ph_own1 F S σ b) 2 (ph_B (ph_own1 F S σ b) 1 b).toNatClampNeg 1
def ph_rdW (F S : Nat) (σ : ph_S) (r : Option Nat) : ph_S := match r with
  | none => σ
  | some b => ph_rd2 F S σ b
def ph_rdV (F S : Nat) (σ : ph_S) (r : Option Nat) (a : Int32) : Int32 := match r with
  | none => 0
  | some b => ph_A (ph_rd2 F S σ b) 0 (ph_B (ph_rd2 F S σ b) 1 b * 16 + (a - a / 16 * 16)).toNatClampNeg
def ph_wr2 (σ : ph_S) (b s : Nat) (a v : Int32) : ph_S := ph_sB (ph_sA (ph_sA (ph_sR σ 2 s (some b)) 2 (ph_B (ph_sR σ 2 s (some b)) 1 b).toNatClampNeg 1) 0 (ph_B (ph_sA (ph_sR σ 2 s (some b)) 2 (ph_B (ph_sR σ 2 s (some b)) 1 b).toNatClampNeg 1) 1 b * 16 + (a - a / 16 * 16)).toNatClampNeg v) 4 b 1
theorem wrd_in {F f x : Nat} {z a : Int32} (hF : F ≤ 16) (hf : f < F) (hx : x < 2 ^ 31) (hz : z = nI f) (ha : a = nI x) : vp_in (z * 16 + (a - a / 16 * 16)) (16 * F) := by
  rw [hz, ha, rem16 hx, mul16, nI_add]
  exact vp_in_nI (by omega) (by omega)
abbrev rm_X2_checkAddress : Room := { frames := 7, cells := 1, slots := 6, locals := 120 }
set_option maxHeartbeats 4000000 in
set_option maxRecDepth 100000 in
/-- checkAddress -/
theorem c_checkAddress {D : va_G} {ad : Nat → Nat} {ct : Nat → ClassId} {F S : Nat} {σ : ph_S} (p a : Int32) : gMX yX2_checkAddress cX2_checkAddress 3 none rm_X2_checkAddress D (gt ct) (cw ad ct F S σ) [.ref (ad 0), .int p, .int a] (fun v w => v = none ∧ w = cw ad ct F S σ ∧ ¬ ph_ca σ p a = 0) (fun E w => E = "java/lang/IndexOutOfBoundsException" ∧ w = cw ad ct F S σ ∧ ph_ca σ p a = 0) := by
  refine gMX_in RX2 rfl (by decide) (Nat.le_of_ble_eq_true rfl) (fun X C CX => ?_)
  refine gV_iload_n (pc := 0) C dX2_checkAddress_0 2 rfl rfl ?_
  refine gV_if_lt (pc := 1) C 16 dX2_checkAddress_1 (by decide) (fun c_1 => ?_) (fun c_1 => ?_)
  · skip
    refine gV_throwS (pc := 16) C CX (cls := "java/lang/IndexOutOfBoundsException") (text := "no such process or address") (names := ["java/lang/RuntimeException", "java/lang/Exception"]) (by decide) (by decide) w_iob_k w_iob_i (fun _ _ _ h => h.2.2.1) w_iob_1 w_iob_2 w_iob_3 dX2_checkAddress_16 dX2_checkAddress_19 dX2_checkAddress_20 dX2_checkAddress_22 dX2_checkAddress_25 (by decide) (Nat.le_of_ble_eq_true rfl) (by decide) (by decide) ?_
    exact ⟨rfl, rfl, by rw [ph_ca, if_pos c_1]⟩
  · skip
    refine gV_aload_n (pc := 4) (x := ad 0) C dX2_checkAddress_4 0 rfl rfl ?_
    refine gV_iload_n (pc := 5) C dX2_checkAddress_5 1 rfl rfl ?_
    refine gV_iload_n (pc := 6) C dX2_checkAddress_6 2 rfl rfl ?_
    refine gV_bipush (pc := 7) (v := 16) C dX2_checkAddress_7 (by decide) ?_
    refine gV_idiv (pc := 9) C dX2_checkAddress_9 (by decide) ?_
    refine gV_callV (pc := 10) (As := [.int p, .int (a / 16)]) (rest := []) C ml_X2_101 gy_X2_hasPage gv_X2_hasPage (c_hasPage _ _) ⟨0, 2, _, _, rfl, rfl, rfl⟩ rfl rfl ⟨by decide, by decide⟩ (Nat.le_of_ble_eq_true rfl) (by decide) (by decide) dX2_checkAddress_10 ?_
    rintro _ _ ⟨rfl, rfl⟩
    refine gV_if_ne (pc := 13) C 26 dX2_checkAddress_13 (by decide) (fun c_2 => ?_) (fun c_2 => ?_)
    · skip
      refine gV_vret (pc := 26) C dX2_checkAddress_26 (by decide) (by decide) ?_
      exact ⟨rfl, rfl, by rw [ph_ca, if_neg c_1, if_neg c_2]; decide⟩
    · skip
      refine gV_throwS (pc := 16) C CX (cls := "java/lang/IndexOutOfBoundsException") (text := "no such process or address") (names := ["java/lang/RuntimeException", "java/lang/Exception"]) (by decide) (by decide) w_iob_k w_iob_i (fun _ _ _ h => h.2.2.1) w_iob_1 w_iob_2 w_iob_3 dX2_checkAddress_16 dX2_checkAddress_19 dX2_checkAddress_20 dX2_checkAddress_22 dX2_checkAddress_25 (by decide) (Nat.le_of_ble_eq_true rfl) (by decide) (by decide) ?_
      exact ⟨rfl, rfl, by rw [ph_ca, if_neg c_1, if_pos c_2]⟩
abbrev rm_X2_checkRoom : Room := { frames := 7, cells := 1, slots := 6, locals := 120 }
set_option maxHeartbeats 4000000 in
set_option maxRecDepth 100000 in
/-- checkRoom -/
theorem c_checkRoom {D : va_G} {ad : Nat → Nat} {ct : Nat → ClassId} {F S : Nat} {σ : ph_S} (t : Int32) (hF : F ≤ 16) (hS : S ≤ 64) : gMX yX2_checkRoom cX2_checkRoom 2 none rm_X2_checkRoom D (gt ct) (cw ad ct F S σ) [.ref (ad 0), .int t] (fun v w => v = none ∧ w = cw ad ct F S σ ∧ ¬ ph_cr F S σ t = 0) (fun E w => E = "java/lang/IllegalStateException" ∧ w = cw ad ct F S σ ∧ ph_cr F S σ t = 0) := by
  refine gMX_in RX2 rfl (by decide) (Nat.le_of_ble_eq_true rfl) (fun X C CX => ?_)
  refine gV_iload_n (pc := 0) C dX2_checkRoom_0 1 rfl rfl ?_
  refine gV_aload_n (pc := 1) (x := ad 0) C dX2_checkRoom_1 0 rfl rfl ?_
  refine cg_frames (pc := 2) C fl_X2_23 dX2_checkRoom_2 ?_
  refine gV_callV (pc := 5) (As := []) (rest := [.int t]) C ml_X2_108 gy_X1_countFree gv_X1_countFree (c_countFree1 (by omega)) ⟨1, 1, _, _, rfl, rfl, rfl⟩ rfl rfl ⟨by decide, by decide⟩ (Nat.le_of_ble_eq_true rfl) (by decide) (by decide) dX2_checkRoom_5 ?_
  rintro _ _ ⟨rfl, rfl⟩
  refine gV_isub (pc := 8) C dX2_checkRoom_8 ?_
  refine gV_aload_n (pc := 9) (x := ad 0) C dX2_checkRoom_9 0 rfl rfl ?_
  refine cg_sectors (pc := 10) C fl_X2_27 dX2_checkRoom_10 ?_
  refine gV_callV (pc := 13) (As := []) (rest := [.int (t - (nI (ph_cf (ph_R σ 0) F)))]) C ml_X2_108 gy_X1_countFree gv_X1_countFree (c_countFree2 (by omega)) ⟨2, 1, _, _, rfl, rfl, rfl⟩ rfl rfl ⟨by decide, by decide⟩ (Nat.le_of_ble_eq_true rfl) (by decide) (by decide) dX2_checkRoom_13 ?_
  rintro _ _ ⟨rfl, rfl⟩
  refine gV_icmp_le (pc := 16) C 29 dX2_checkRoom_16 (by decide) (fun c_1 => ?_) (fun c_1 => ?_)
  · skip
    refine gV_vret (pc := 29) C dX2_checkRoom_29 (by decide) (by decide) ?_
    exact ⟨rfl, rfl, by rw [ph_cr, if_pos c_1]; decide⟩
  · skip
    refine gV_throwS (pc := 19) C CX (cls := "java/lang/IllegalStateException") (text := "no room") (names := ["java/lang/RuntimeException", "java/lang/Exception"]) (by decide) (by decide) w_ise_k w_ise_i (fun _ _ _ h => h.2.2.2.1) w_ise_1 w_ise_2 w_ise_3 dX2_checkRoom_19 dX2_checkRoom_22 dX2_checkRoom_23 dX2_checkRoom_25 dX2_checkRoom_28 (by decide) (Nat.le_of_ble_eq_true rfl) (by decide) (by decide) ?_
    exact ⟨rfl, rfl, by rw [ph_cr, if_neg c_1]⟩
abbrev rm_X2_stored : Room := { frames := 7, cells := 1, slots := 6, locals := 120 }
set_option maxHeartbeats 4000000 in
set_option maxRecDepth 100000 in
/-- stored -/
theorem c_stored {D : va_G} {ad : Nat → Nat} {ct : Nat → ClassId} {F S : Nat} {σ : ph_S} (s i : Int32) (hF : F ≤ 16) (hS : S ≤ 64) : gMX yX2_stored cX2_stored 3 (some .int) rm_X2_stored D (gt ct) (cw ad ct F S σ) [.ref (ad 0), .int s, .int i] (fun v w => ph_sdT S s i = 0 ∧ v = some (.int (ph_sdV σ s i)) ∧ w = cw ad ct F S σ) (fun E w => E = "java/lang/IndexOutOfBoundsException" ∧ w = cw ad ct F S σ ∧ ph_sdT S s i = 1) := by
  refine gMX_in RX2 rfl (by decide) (Nat.le_of_ble_eq_true rfl) (fun X C CX => ?_)
  refine gV_aload_n (pc := 0) (x := ad 0) C dX2_stored_0 0 rfl rfl ?_
  refine cg_sectors (pc := 1) C fl_X2_27 dX2_stored_1 ?_
  refine gV_iload_n (pc := 4) C dX2_stored_4 1 rfl rfl ?_
  refine gV_callV (pc := 5) (As := [.int s]) (rest := []) C ml_X2_121 gy_X1_has gv_X1_has (c_has2 _) ⟨2, 1, _, _, rfl, rfl, rfl⟩ rfl rfl ⟨by decide, by decide⟩ (Nat.le_of_ble_eq_true rfl) (by decide) (by decide) dX2_stored_5 ?_
  rintro _ _ ⟨rfl, rfl⟩
  refine gV_if_eq (pc := 8) C 21 dX2_stored_8 (by decide) (fun c_1 => ?_) (fun c_1 => ?_)
  · skip
    refine gV_throwS (pc := 21) C CX (cls := "java/lang/IndexOutOfBoundsException") (text := "no such sector or word") (names := ["java/lang/RuntimeException", "java/lang/Exception"]) (by decide) (by decide) w_iob_k w_iob_i (fun _ _ _ h => h.2.2.2.2) w_iob_1 w_iob_2 w_iob_3 dX2_stored_21 dX2_stored_24 dX2_stored_25 dX2_stored_27 dX2_stored_30 (by decide) (Nat.le_of_ble_eq_true rfl) (by decide) (by decide) ?_
    exact ⟨rfl, rfl, by rw [ph_sdT, if_pos c_1]⟩
  · skip
    refine gV_iload_n (pc := 11) C dX2_stored_11 2 rfl rfl ?_
    refine gV_if_lt (pc := 12) C 21 dX2_stored_12 (by decide) (fun c_2 => ?_) (fun c_2 => ?_)
    · skip
      refine gV_throwS (pc := 21) C CX (cls := "java/lang/IndexOutOfBoundsException") (text := "no such sector or word") (names := ["java/lang/RuntimeException", "java/lang/Exception"]) (by decide) (by decide) w_iob_k w_iob_i (fun _ _ _ h => h.2.2.2.2) w_iob_1 w_iob_2 w_iob_3 dX2_stored_21 dX2_stored_24 dX2_stored_25 dX2_stored_27 dX2_stored_30 (by decide) (Nat.le_of_ble_eq_true rfl) (by decide) (by decide) ?_
      exact ⟨rfl, rfl, by rw [ph_sdT, if_neg c_1, if_pos c_2]⟩
    · skip
      refine gV_iload_n (pc := 15) C dX2_stored_15 2 rfl rfl ?_
      refine gV_bipush (pc := 16) (v := 16) C dX2_stored_16 (by decide) ?_
      refine gV_icmp_lt (pc := 18) C 31 dX2_stored_18 (by decide) (fun c_3 => ?_) (fun c_3 => ?_)
      · skip
        refine gV_aload_n (pc := 31) (x := ad 0) C dX2_stored_31 0 rfl rfl ?_
        refine cg_sectors (pc := 32) C fl_X2_27 dX2_stored_32 ?_
        refine cg_words2 (pc := 35) C fl_X2_87 dX2_stored_35 ?_
        refine gV_iload_n (pc := 38) C dX2_stored_38 1 rfl rfl ?_
        refine gV_bipush (pc := 39) (v := 16) C dX2_stored_39 (by decide) ?_
        refine gV_imul (pc := 41) C dX2_stored_41 ?_
        refine gV_iload_n (pc := 42) C dX2_stored_42 2 rfl rfl ?_
        refine gV_iadd (pc := 43) C dX2_stored_43 ?_
        refine ca_sw (pc := 44) C (by obtain ⟨j, hj, e⟩ := ph_has_in c_1 (by omega); obtain ⟨z, hz, e2⟩ := nI_of c_2; rw [e, e2, mul16, nI_add]; exact vp_in_nI (by have h9 : z < 16 := Nat.lt_of_not_le (fun h => (nI_nlt (b := 16) h hz) (by rw [← e2]; exact c_3)); omega) (by omega)) dX2_stored_44 ?_
        refine gV_iret (pc := 45) C dX2_stored_45 (by decide) (by decide) ?_
        exact ⟨by rw [ph_sdT, if_neg c_1, if_neg c_2, if_pos c_3], rfl, rfl⟩
      · skip
        refine gV_throwS (pc := 21) C CX (cls := "java/lang/IndexOutOfBoundsException") (text := "no such sector or word") (names := ["java/lang/RuntimeException", "java/lang/Exception"]) (by decide) (by decide) w_iob_k w_iob_i (fun _ _ _ h => h.2.2.2.2) w_iob_1 w_iob_2 w_iob_3 dX2_stored_21 dX2_stored_24 dX2_stored_25 dX2_stored_27 dX2_stored_30 (by decide) (Nat.le_of_ble_eq_true rfl) (by decide) (by decide) ?_
        exact ⟨rfl, rfl, by rw [ph_sdT, if_neg c_1, if_neg c_2, if_neg c_3]⟩
abbrev rm_X2_read : Room := { frames := 8, cells := 2, slots := 12, locals := 149 }
set_option maxHeartbeats 4000000 in
set_option maxRecDepth 100000 in
/-- read -/
theorem c_read {D : va_G} {ad : Nat → Nat} {ct : Nat → ClassId} {F S : Nat} {σ : ph_S} (p a : Int32) (hok : ph_ok F S σ) : gMX yX2_read cX2_read 4 (some .int) rm_X2_read D (gt ct) (cw ad ct F S σ) [.ref (ad 0), .int p, .int a] (fun v w => ph_rdT F S σ p a = 0 ∧ v = some (.int (ph_rdV F S (ph_acc σ) (ph_bo σ p a) a)) ∧ w = cw ad ct F S (ph_rdW F S (ph_acc σ) (ph_bo σ p a))) (fun E w => w = cw ad ct F S σ ∧ ((ph_rdT F S σ p a = 1 ∧ E = "java/lang/IndexOutOfBoundsException") ∨ (ph_rdT F S σ p a = 2 ∧ E = "java/lang/IllegalStateException"))) := by
  refine gMX_in RX2 rfl (by decide) (Nat.le_of_ble_eq_true rfl) (fun X C CX => ?_)
  have hF := hok.F16
  have hS := hok.S64
  refine gV_aload_n (pc := 0) (x := ad 0) C dX2_read_0 0 rfl rfl ?_
  refine gV_iload_n (pc := 1) C dX2_read_1 1 rfl rfl ?_
  refine gV_iload_n (pc := 2) C dX2_read_2 2 rfl rfl ?_
  refine gV_callVX (pc := 3) (As := [.int p, .int a]) (rest := []) C CX w_ml_62 gy_X2_checkAddress gv_X2_checkAddress (c_checkAddress p a) ⟨0, 2, _, _, rfl, rfl, rfl⟩ rfl rfl ⟨by decide, by decide⟩ (Nat.le_of_ble_eq_true rfl) (by decide) (by decide) dX2_read_3 (by rintro _ _ ⟨rfl, rfl, h⟩; exact ⟨rfl, Or.inl ⟨by rw [ph_rdT, if_pos h], rfl⟩⟩) ?_
  rintro _ _ ⟨rfl, rfl, hca⟩
  obtain ⟨P, x, m, hP, hx0, hm, rfl, rfl, em⟩ := ca_nat hok hca
  have hx : x < 2 ^ 31 := by omega
  have hsl := hg_slot hok (ca_in hca).2
  refine gV_aload_n (pc := 6) (x := ad 0) C dX2_read_6 0 rfl rfl ?_
  refine cg_bodies (pc := 7) C fl_X2_40 dX2_read_7 ?_
  refine gV_iload_n (pc := 10) C dX2_read_10 1 rfl rfl ?_
  refine gV_iload_n (pc := 11) C dX2_read_11 2 rfl rfl ?_
  refine gV_bipush (pc := 12) (v := 16) C dX2_read_12 (by decide) ?_
  refine gV_idiv (pc := 14) C dX2_read_14 (by decide) ?_
  refine gV_callS (pc := 15) (As := [.int (nI P), .int ((nI x) / 16)]) (rest := [.ref (ad 9)]) C ml_X2_52 gy_X2_slot gs_X2_slot (c_slot _ _)  rfl rfl ⟨by decide, by decide⟩ (Nat.le_of_ble_eq_true rfl) (by decide) (by decide) dX2_read_15 ?_
  rintro _ _ ⟨rfl, rfl⟩
  refine ca_bo (pc := 18) C hsl dX2_read_18 ?_
  cases er_1 : ph_R σ 2 (((nI P) * 32 + ((nI x) / 16)).toNatClampNeg) with
  | none =>
    refine gV_astoreq_n (pc := 19) (r := none) (lv' := [(3, .null), (0, .ref (ad 0)), (1, .int (nI P)), (2, .int (nI x))]) C dX2_read_19 rfl (by decide) rfl ?_
    refine gV_aload_n (pc := 20) (x := ad 0) C dX2_read_20 1 rfl rfl ?_
    refine gV_aloadq_n (pc := 21) (r := none) C dX2_read_21 0 rfl rfl ?_
    refine gV_callS (pc := 22) (As := [.null]) (rest := [.ref (ad 0)]) C ml_X2_66 gy_X2_takesToRead gs_X2_takesToRead (c_takesToRead (none) hok (fun _ h => nomatch h))  rfl rfl ⟨by decide, by decide⟩ (Nat.le_of_ble_eq_true rfl) (by decide) (by decide) dX2_read_22 ?_
    rintro _ _ ⟨rfl, rfl⟩
    refine gV_callVX (pc := 25) (As := [.int (ph_tr σ (none))]) (rest := []) C CX w_ml_70 gy_X2_checkRoom gv_X2_checkRoom (c_checkRoom (ph_tr σ (none)) (by omega) (by omega)) ⟨0, 2, _, _, rfl, rfl, rfl⟩ rfl rfl ⟨by decide, by decide⟩ (Nat.le_of_ble_eq_true rfl) (by decide) (by decide) dX2_read_25 (by rintro _ _ ⟨rfl, rfl, h⟩; exact ⟨rfl, Or.inr ⟨by rw [ph_rdT, if_neg hca, ph_bo, er_1]; exact if_pos h, rfl⟩⟩) ?_
    rintro _ _ ⟨rfl, rfl, hcr⟩
    refine gV_aload_n (pc := 28) (x := ad 0) C dX2_read_28 1 rfl rfl ?_
    refine gV_dup (pc := 29) C dX2_read_29 rfl ?_
    refine cg_accesses (pc := 30) C fl_X2_73 dX2_read_30 ?_
    refine gV_iconst (pc := 33) (v := 1) C dX2_read_33 (by decide) ?_
    refine gV_iadd (pc := 34) C dX2_read_34 ?_
    refine cp_accesses (pc := 35) C fl_X2_73 dX2_read_35 ?_
    refine gV_aloadq_n (pc := 38) (r := none) C dX2_read_38 0 rfl rfl ?_
    refine gV_ifnonnull (pc := 39) (r := none) C 44 dX2_read_39 (by decide) (fun _ h => nomatch h) (fun _ => ?_)
    refine gV_iconst (pc := 42) (v := 0) C dX2_read_42 (by decide) ?_
    refine gV_iret (pc := 43) C dX2_read_43 (by decide) (by decide) ?_
    exact ⟨by rw [ph_rdT, if_neg hca, ph_bo, er_1]; exact if_neg hcr, by rw [ph_bo, er_1]; rfl, by rw [ph_bo, er_1]; rfl⟩
  | some a_1 =>
    have m_1 : a_1 ∈ ph_L σ := hok.refs _ _ _ er_1
    refine gV_astore_n (pc := 19) (x := a_1) (lv' := [(3, .ref a_1), (0, .ref (ad 0)), (1, .int (nI P)), (2, .int (nI x))]) C dX2_read_19 rfl (by decide) rfl ?_
    refine gV_aload_n (pc := 20) (x := ad 0) C dX2_read_20 1 rfl rfl ?_
    refine gV_aload_n (pc := 21) (x := a_1) C dX2_read_21 0 rfl rfl ?_
    refine gV_callS (pc := 22) (As := [.ref a_1]) (rest := [.ref (ad 0)]) C ml_X2_66 gy_X2_takesToRead gs_X2_takesToRead (c_takesToRead (some a_1) hok (fun _ h => by cases h; exact m_1))  rfl rfl ⟨by decide, by decide⟩ (Nat.le_of_ble_eq_true rfl) (by decide) (by decide) dX2_read_22 ?_
    rintro _ _ ⟨rfl, rfl⟩
    refine gV_callVX (pc := 25) (As := [.int (ph_tr σ (some a_1))]) (rest := []) C CX w_ml_70 gy_X2_checkRoom gv_X2_checkRoom (c_checkRoom (ph_tr σ (some a_1)) (by omega) (by omega)) ⟨0, 2, _, _, rfl, rfl, rfl⟩ rfl rfl ⟨by decide, by decide⟩ (Nat.le_of_ble_eq_true rfl) (by decide) (by decide) dX2_read_25 (by rintro _ _ ⟨rfl, rfl, h⟩; exact ⟨rfl, Or.inr ⟨by rw [ph_rdT, if_neg hca, ph_bo, er_1]; exact if_pos h, rfl⟩⟩) ?_
    rintro _ _ ⟨rfl, rfl, hcr⟩
    refine gV_aload_n (pc := 28) (x := ad 0) C dX2_read_28 1 rfl rfl ?_
    refine gV_dup (pc := 29) C dX2_read_29 rfl ?_
    refine cg_accesses (pc := 30) C fl_X2_73 dX2_read_30 ?_
    refine gV_iconst (pc := 33) (v := 1) C dX2_read_33 (by decide) ?_
    refine gV_iadd (pc := 34) C dX2_read_34 ?_
    refine cp_accesses (pc := 35) C fl_X2_73 dX2_read_35 ?_
    refine gV_aload_n (pc := 38) (x := a_1) C dX2_read_38 0 rfl rfl ?_
    refine gV_ifnonnull (pc := 39) (r := some a_1) C 44 dX2_read_39 (by decide) (fun _ _ => ?_) (fun h => nomatch h)
    have m_b : a_1 ∈ ph_L (ph_acc σ) := m_1
    have hok1 : ph_ok F S (ph_acc σ) := ok_sI hok _ (by decide)
    obtain ⟨f, hf, ef⟩ := own1_fr hok1 m_b
    have hfr : vp_in (ph_B (ph_own1 F S (ph_acc σ) a_1) 1 a_1) F := by rw [ef]; exact vp_in_nI hf (by omega)
    refine gV_aload_n (pc := 44) (x := a_1) C dX2_read_44 0 rfl rfl ?_
    refine cg_b_frame (pc := 45) (σ := ph_sI σ 1 ((ph_I σ 1) + 1)) C m_1 fl_X2_76 dX2_read_45 ?_
    refine gV_iconst (pc := 48) (v := (-1)) C dX2_read_48 (by decide) ?_
    refine gV_icmp_ne (pc := 49) C 62 dX2_read_49 (by decide) (fun c_2 => ?_) (fun c_2 => ?_)
    · skip
      refine gV_ws (congrArg (cw ad ct F S) (show ph_sI σ 1 ((ph_I σ 1) + 1) = ph_own1 F S (ph_acc σ) a_1 by unfold ph_own1; exact (if_neg c_2).symm)) ?_
      have m_o : a_1 ∈ ph_L (ph_own1 F S (ph_acc σ) a_1) := by rw [ph_own1_L]; exact m_b
      refine gV_aload_n (pc := 62) (x := ad 0) C dX2_read_62 1 rfl rfl ?_
      refine cg_used (pc := 63) C fl_X2_30 dX2_read_63 ?_
      refine gV_aload_n (pc := 66) (x := a_1) C dX2_read_66 0 rfl rfl ?_
      refine cg_b_frame (pc := 67) (σ := ph_own1 F S (ph_acc σ) a_1) C m_o fl_X2_76 dX2_read_67 ?_
      refine gV_iconst (pc := 70) (v := 1) C dX2_read_70 (by decide) ?_
      refine cs_us (pc := 71) C hfr (by decide) dX2_read_71 ?_
      refine gV_aload_n (pc := 72) (x := ad 0) C dX2_read_72 1 rfl rfl ?_
      refine cg_frames (pc := 73) C fl_X2_23 dX2_read_73 ?_
      refine cg_words1 (pc := 76) C fl_X2_87 dX2_read_76 ?_
      refine gV_aload_n (pc := 79) (x := a_1) C dX2_read_79 0 rfl rfl ?_
      refine cg_b_frame (pc := 80) (σ := ph_sA (ph_own1 F S (ph_acc σ) a_1) 2 ((ph_B (ph_own1 F S (ph_acc σ) a_1) 1 a_1).toNatClampNeg) 1) C m_o fl_X2_76 dX2_read_80 ?_
      refine gV_bipush (pc := 83) (v := 16) C dX2_read_83 (by decide) ?_
      refine gV_imul (pc := 85) C dX2_read_85 ?_
      refine gV_iload_n (pc := 86) C dX2_read_86 3 rfl rfl ?_
      refine gV_bipush (pc := 87) (v := 16) C dX2_read_87 (by decide) ?_
      refine gV_irem (pc := 89) C dX2_read_89 (by decide) ?_
      refine gV_iadd (pc := 90) C dX2_read_90 ?_
      refine ca_fw (pc := 91) C (wrd_in (by omega) hf hx ef rfl) dX2_read_91 ?_
      refine gV_iret (pc := 92) C dX2_read_92 (by decide) (by decide) ?_
      exact ⟨by rw [ph_rdT, if_neg hca, ph_bo, er_1]; exact if_neg hcr, by rw [ph_bo, er_1]; rfl, by rw [ph_bo, er_1]; rfl⟩
    · skip
      refine gV_aload_n (pc := 52) (x := ad 0) C dX2_read_52 1 rfl rfl ?_
      refine gV_aload_n (pc := 53) (x := a_1) C dX2_read_53 0 rfl rfl ?_
      refine gV_aload_n (pc := 54) (x := ad 0) C dX2_read_54 1 rfl rfl ?_
      refine gV_iconst (pc := 55) (v := (-1)) C dX2_read_55 (by decide) ?_
      refine gV_callV (pc := 56) (As := [.int ((-1))]) (rest := [.ref a_1, .ref (ad 0)]) C ml_X2_79 gy_X2_take gv_X2_take (c_take ((-1)) hok1) ⟨0, 2, _, _, rfl, rfl, rfl⟩ rfl rfl ⟨by decide, by decide⟩ (Nat.le_of_ble_eq_true rfl) (by decide) (by decide) dX2_read_56 ?_
      rintro _ _ ⟨rfl, rfl⟩
      have m_8 : a_1 ∈ ph_L (ph_tkS F S ((-1)) (ph_sI σ 1 ((ph_I σ 1) + 1))) := by rw [ph_tkS_L]; exact m_1
      refine gV_callV (pc := 59) (As := [.ref a_1, .int (nI (ph_tkN F S ((-1)) (ph_sI σ 1 ((ph_I σ 1) + 1))))]) (rest := []) C ml_X2_83 gy_X2_bring gv_X2_bring (c_bring (a := a_1) (f := (ph_tkN F S ((-1)) (ph_sI σ 1 ((ph_I σ 1) + 1)))) (ok_tkS hok1) m_8 (tkN_lt hok1)) ⟨0, 2, _, _, rfl, rfl, rfl⟩ rfl rfl ⟨by decide, by decide⟩ (Nat.le_of_ble_eq_true rfl) (by decide) (by decide) dX2_read_59 ?_
      rintro _ _ ⟨rfl, rfl⟩
      have m_9 : a_1 ∈ ph_L (ph_br F S (ph_tkS F S ((-1)) (ph_sI σ 1 ((ph_I σ 1) + 1))) a_1 (ph_tkN F S ((-1)) (ph_sI σ 1 ((ph_I σ 1) + 1)))) := by rw [ph_br_L]; exact m_8
      refine gV_ws (congrArg (cw ad ct F S) (show ph_br F S (ph_tkS F S ((-1)) (ph_sI σ 1 ((ph_I σ 1) + 1))) a_1 (ph_tkN F S ((-1)) (ph_sI σ 1 ((ph_I σ 1) + 1))) = ph_own1 F S (ph_acc σ) a_1 by unfold ph_own1; exact (if_pos c_2).symm)) ?_
      have m_o : a_1 ∈ ph_L (ph_own1 F S (ph_acc σ) a_1) := by rw [ph_own1_L]; exact m_b
      refine gV_aload_n (pc := 62) (x := ad 0) C dX2_read_62 1 rfl rfl ?_
      refine cg_used (pc := 63) C fl_X2_30 dX2_read_63 ?_
      refine gV_aload_n (pc := 66) (x := a_1) C dX2_read_66 0 rfl rfl ?_
      refine cg_b_frame (pc := 67) (σ := ph_own1 F S (ph_acc σ) a_1) C m_o fl_X2_76 dX2_read_67 ?_
      refine gV_iconst (pc := 70) (v := 1) C dX2_read_70 (by decide) ?_
      refine cs_us (pc := 71) C hfr (by decide) dX2_read_71 ?_
      refine gV_aload_n (pc := 72) (x := ad 0) C dX2_read_72 1 rfl rfl ?_
      refine cg_frames (pc := 73) C fl_X2_23 dX2_read_73 ?_
      refine cg_words1 (pc := 76) C fl_X2_87 dX2_read_76 ?_
      refine gV_aload_n (pc := 79) (x := a_1) C dX2_read_79 0 rfl rfl ?_
      refine cg_b_frame (pc := 80) (σ := ph_sA (ph_own1 F S (ph_acc σ) a_1) 2 ((ph_B (ph_own1 F S (ph_acc σ) a_1) 1 a_1).toNatClampNeg) 1) C m_o fl_X2_76 dX2_read_80 ?_
      refine gV_bipush (pc := 83) (v := 16) C dX2_read_83 (by decide) ?_
      refine gV_imul (pc := 85) C dX2_read_85 ?_
      refine gV_iload_n (pc := 86) C dX2_read_86 3 rfl rfl ?_
      refine gV_bipush (pc := 87) (v := 16) C dX2_read_87 (by decide) ?_
      refine gV_irem (pc := 89) C dX2_read_89 (by decide) ?_
      refine gV_iadd (pc := 90) C dX2_read_90 ?_
      refine ca_fw (pc := 91) C (wrd_in (by omega) hf hx ef rfl) dX2_read_91 ?_
      refine gV_iret (pc := 92) C dX2_read_92 (by decide) (by decide) ?_
      exact ⟨by rw [ph_rdT, if_neg hca, ph_bo, er_1]; exact if_neg hcr, by rw [ph_bo, er_1]; rfl, by rw [ph_bo, er_1]; rfl⟩
abbrev rm_X2_write : Room := { frames := 8, cells := 3, slots := 17, locals := 171 }
set_option maxHeartbeats 4000000 in
set_option maxRecDepth 100000 in
/-- write -/
theorem c_write {D : va_G} {ad : Nat → Nat} {ct : Nat → ClassId} {F S : Nat} {σ : ph_S} (p a v : Int32) (hok : ph_ok F S σ) : gMX yX2_write cX2_write 8 (some .int) rm_X2_write D (gt ct) (cw ad ct F S σ) [.ref (ad 0), .int p, .int a, .int v] (fun r w => ph_wrT F S σ p a = 0 ∧ ∃ b σ2, ph_own F S (ph_acc σ) (ph_bo σ p a) (a / 16) b σ2 ∧ r = some (.int (ph_tw σ (ph_bo σ p a))) ∧ w = cw ad ct F S (ph_wr2 σ2 b (p * 32 + a / 16).toNatClampNeg a v)) (fun E w => w = cw ad ct F S σ ∧ ((ph_wrT F S σ p a = 1 ∧ E = "java/lang/IndexOutOfBoundsException") ∨ (ph_wrT F S σ p a = 2 ∧ E = "java/lang/IllegalStateException"))) := by
  refine gMX_in RX2 rfl (by decide) (Nat.le_of_ble_eq_true rfl) (fun X C CX => ?_)
  have hF := hok.F16
  have hS := hok.S64
  refine gV_aload_n (pc := 0) (x := ad 0) C dX2_write_0 0 rfl rfl ?_
  refine gV_iload_n (pc := 1) C dX2_write_1 1 rfl rfl ?_
  refine gV_iload_n (pc := 2) C dX2_write_2 2 rfl rfl ?_
  refine gV_callVX (pc := 3) (As := [.int p, .int a]) (rest := []) C CX w_ml_62 gy_X2_checkAddress gv_X2_checkAddress (c_checkAddress p a) ⟨0, 2, _, _, rfl, rfl, rfl⟩ rfl rfl ⟨by decide, by decide⟩ (Nat.le_of_ble_eq_true rfl) (by decide) (by decide) dX2_write_3 (by rintro _ _ ⟨rfl, rfl, h⟩; exact ⟨rfl, Or.inl ⟨by rw [ph_wrT, if_pos h], rfl⟩⟩) ?_
  rintro _ _ ⟨rfl, rfl, hca⟩
  obtain ⟨P, x, m, hP, hx0, hm, rfl, rfl, em⟩ := ca_nat hok hca
  have hx : x < 2 ^ 31 := by omega
  have hsl := hg_slot hok (ca_in hca).2
  refine gV_iload_n (pc := 6) C dX2_write_6 2 rfl rfl ?_
  refine gV_bipush (pc := 7) (v := 16) C dX2_write_7 (by decide) ?_
  refine gV_idiv (pc := 9) C dX2_write_9 (by decide) ?_
  refine gV_istore (pc := 10) (lv' := [(4, .int ((nI x) / 16)), (0, .ref (ad 0)), (1, .int (nI P)), (2, .int (nI x)), (3, .int v)]) C dX2_write_10 (by decide) rfl ?_
  refine gV_aload_n (pc := 12) (x := ad 0) C dX2_write_12 1 rfl rfl ?_
  refine cg_bodies (pc := 13) C fl_X2_40 dX2_write_13 ?_
  refine gV_iload_n (pc := 16) C dX2_write_16 2 rfl rfl ?_
  refine gV_iload (pc := 17) C dX2_write_17 0 rfl ?_
  refine gV_callS (pc := 19) (As := [.int (nI P), .int ((nI x) / 16)]) (rest := [.ref (ad 9)]) C ml_X2_52 gy_X2_slot gs_X2_slot (c_slot _ _)  rfl rfl ⟨by decide, by decide⟩ (Nat.le_of_ble_eq_true rfl) (by decide) (by decide) dX2_write_19 ?_
  rintro _ _ ⟨rfl, rfl⟩
  refine ca_bo (pc := 22) C hsl dX2_write_22 ?_
  cases er_1 : ph_R σ 2 (((nI P) * 32 + ((nI x) / 16)).toNatClampNeg) with
  | none =>
    refine gV_astoreq (pc := 23) (r := none) (lv' := [(5, .null), (4, .int ((nI x) / 16)), (0, .ref (ad 0)), (1, .int (nI P)), (2, .int (nI x)), (3, .int v)]) C dX2_write_23 (by decide) rfl ?_
    refine gV_aloadq (pc := 25) (r := none) C dX2_write_25 0 rfl ?_
    refine gV_callS (pc := 27) (As := [.null]) (rest := []) C ml_X2_90 gy_X2_takesToWrite gs_X2_takesToWrite (c_takesToWrite (none) hok (fun _ h => nomatch h))  rfl rfl ⟨by decide, by decide⟩ (Nat.le_of_ble_eq_true rfl) (by decide) (by decide) dX2_write_27 ?_
    rintro _ _ ⟨rfl, rfl⟩
    refine gV_istore (pc := 30) (lv' := [(6, .int (ph_tw σ (none))), (5, .null), (4, .int ((nI x) / 16)), (0, .ref (ad 0)), (1, .int (nI P)), (2, .int (nI x)), (3, .int v)]) C dX2_write_30 (by decide) rfl ?_
    refine gV_aload_n (pc := 32) (x := ad 0) C dX2_write_32 3 rfl rfl ?_
    refine gV_iload (pc := 33) C dX2_write_33 0 rfl ?_
    refine gV_callVX (pc := 35) (As := [.int (ph_tw σ (none))]) (rest := []) C CX w_ml_70 gy_X2_checkRoom gv_X2_checkRoom (c_checkRoom (ph_tw σ (none)) (by omega) (by omega)) ⟨0, 2, _, _, rfl, rfl, rfl⟩ rfl rfl ⟨by decide, by decide⟩ (Nat.le_of_ble_eq_true rfl) (by decide) (by decide) dX2_write_35 (by rintro _ _ ⟨rfl, rfl, h⟩; exact ⟨rfl, Or.inr ⟨by rw [ph_wrT, if_neg hca, ph_bo, er_1]; exact if_pos h, rfl⟩⟩) ?_
    rintro _ _ ⟨rfl, rfl, hcr⟩
    have hok1 : ph_ok F S (ph_acc σ) := ok_sI hok _ (by decide)
    have hr1 : ∀ z, (none : Option Nat) = some z → z ∈ ph_L (ph_acc σ) := fun _ h => nomatch h
    refine gV_aload_n (pc := 38) (x := ad 0) C dX2_write_38 3 rfl rfl ?_
    refine gV_dup (pc := 39) C dX2_write_39 rfl ?_
    refine cg_accesses (pc := 40) C fl_X2_73 dX2_write_40 ?_
    refine gV_iconst (pc := 43) (v := 1) C dX2_write_43 (by decide) ?_
    refine gV_iadd (pc := 44) C dX2_write_44 ?_
    refine cp_accesses (pc := 45) C fl_X2_73 dX2_write_45 ?_
    refine gV_aload_n (pc := 48) (x := ad 0) C dX2_write_48 3 rfl rfl ?_
    refine gV_aloadq (pc := 49) (r := none) C dX2_write_49 1 rfl ?_
    refine gV_iload (pc := 51) C dX2_write_51 2 rfl ?_
    refine gV_callV (pc := 53) (As := [.null, .int ((nI x) / 16)]) (rest := []) C ml_X2_93 gy_X2_ownBody gv_X2_ownBody (c_ownBody (r := none) (g := ((nI x) / 16)) hok1 hr1) ⟨0, 2, _, _, rfl, rfl, rfl⟩ rfl rfl ⟨by decide, by decide⟩ (Nat.le_of_ble_eq_true rfl) (by decide) (by decide) dX2_write_53 ?_
    rintro _ _ ⟨b, σ2, ho, rfl, rfl⟩
    obtain ⟨hok2, m_b⟩ := ok_own hok1 hr1 ⟨x / 16, by omega, div16 hx⟩ ho
    obtain ⟨f, hf, ef⟩ := own_fr hok1 hr1 ho
    have hfr : vp_in (ph_B σ2 1 b) F := by rw [ef]; exact vp_in_nI hf (by omega)
    refine gV_astore (pc := 56) (x := b) (lv' := [(7, .ref b), (6, .int (ph_tw σ (none))), (5, .null), (4, .int ((nI x) / 16)), (0, .ref (ad 0)), (1, .int (nI P)), (2, .int (nI x)), (3, .int v)]) C dX2_write_56 (by decide) rfl ?_
    refine gV_aload_n (pc := 58) (x := ad 0) C dX2_write_58 4 rfl rfl ?_
    refine cg_bodies (pc := 59) C fl_X2_40 dX2_write_59 ?_
    refine gV_iload_n (pc := 62) C dX2_write_62 5 rfl rfl ?_
    refine gV_iload (pc := 63) C dX2_write_63 3 rfl ?_
    refine gV_callS (pc := 65) (As := [.int (nI P), .int ((nI x) / 16)]) (rest := [.ref (ad 9)]) C ml_X2_52 gy_X2_slot gs_X2_slot (c_slot _ _)  rfl rfl ⟨by decide, by decide⟩ (Nat.le_of_ble_eq_true rfl) (by decide) (by decide) dX2_write_65 ?_
    rintro _ _ ⟨rfl, rfl⟩
    refine gV_aload (pc := 68) (x := b) C dX2_write_68 0 rfl ?_
    refine cs_bo (pc := 70) (σ := σ2) C m_b hsl dX2_write_70 ?_
    refine gV_aload_n (pc := 71) (x := ad 0) C dX2_write_71 4 rfl rfl ?_
    refine cg_used (pc := 72) C fl_X2_30 dX2_write_72 ?_
    refine gV_aload (pc := 75) (x := b) C dX2_write_75 0 rfl ?_
    refine cg_b_frame (pc := 77) (σ := ph_sR σ2 2 (((nI P) * 32 + ((nI x) / 16)).toNatClampNeg) (some b)) C m_b fl_X2_76 dX2_write_77 ?_
    refine gV_iconst (pc := 80) (v := 1) C dX2_write_80 (by decide) ?_
    refine cs_us (pc := 81) C hfr (by decide) dX2_write_81 ?_
    refine gV_aload_n (pc := 82) (x := ad 0) C dX2_write_82 4 rfl rfl ?_
    refine cg_frames (pc := 83) C fl_X2_23 dX2_write_83 ?_
    refine cg_words1 (pc := 86) C fl_X2_87 dX2_write_86 ?_
    refine gV_aload (pc := 89) (x := b) C dX2_write_89 0 rfl ?_
    refine cg_b_frame (pc := 91) (σ := ph_sA (ph_sR σ2 2 (((nI P) * 32 + ((nI x) / 16)).toNatClampNeg) (some b)) 2 ((ph_B (ph_sR σ2 2 (((nI P) * 32 + ((nI x) / 16)).toNatClampNeg) (some b)) 1 b).toNatClampNeg) 1) C m_b fl_X2_76 dX2_write_91 ?_
    refine gV_bipush (pc := 94) (v := 16) C dX2_write_94 (by decide) ?_
    refine gV_imul (pc := 96) C dX2_write_96 ?_
    refine gV_iload_n (pc := 97) C dX2_write_97 6 rfl rfl ?_
    refine gV_bipush (pc := 98) (v := 16) C dX2_write_98 (by decide) ?_
    refine gV_irem (pc := 100) C dX2_write_100 (by decide) ?_
    refine gV_iadd (pc := 101) C dX2_write_101 ?_
    refine gV_iload_n (pc := 102) C dX2_write_102 7 rfl rfl ?_
    refine cs_fw (pc := 103) C (wrd_in (by omega) hf hx ef rfl) dX2_write_103 ?_
    refine gV_aload (pc := 104) (x := b) C dX2_write_104 0 rfl ?_
    refine gV_iconst (pc := 106) (v := 1) C dX2_write_106 (by decide) ?_
    refine cp_b_dirty (pc := 107) (σ := ph_sA (ph_sA (ph_sR σ2 2 (((nI P) * 32 + ((nI x) / 16)).toNatClampNeg) (some b)) 2 ((ph_B (ph_sR σ2 2 (((nI P) * 32 + ((nI x) / 16)).toNatClampNeg) (some b)) 1 b).toNatClampNeg) 1) 0 ((((ph_B (ph_sA (ph_sR σ2 2 (((nI P) * 32 + ((nI x) / 16)).toNatClampNeg) (some b)) 2 ((ph_B (ph_sR σ2 2 (((nI P) * 32 + ((nI x) / 16)).toNatClampNeg) (some b)) 1 b).toNatClampNeg) 1) 1 b) * 16) + ((nI x) - (nI x) / 16 * 16)).toNatClampNeg) v) C m_b fl_X2_97 (by decide) dX2_write_107 ?_
    refine gV_iload (pc := 110) C dX2_write_110 1 rfl ?_
    refine gV_iret (pc := 112) C dX2_write_112 (by decide) (by decide) ?_
    exact ⟨by rw [ph_wrT, if_neg hca, ph_bo, er_1]; exact if_neg hcr, b, σ2, by rw [ph_bo, er_1]; exact ho, by rw [ph_bo, er_1], rfl⟩
  | some a_1 =>
    have m_1 : a_1 ∈ ph_L σ := hok.refs _ _ _ er_1
    refine gV_astore (pc := 23) (x := a_1) (lv' := [(5, .ref a_1), (4, .int ((nI x) / 16)), (0, .ref (ad 0)), (1, .int (nI P)), (2, .int (nI x)), (3, .int v)]) C dX2_write_23 (by decide) rfl ?_
    refine gV_aload (pc := 25) (x := a_1) C dX2_write_25 0 rfl ?_
    refine gV_callS (pc := 27) (As := [.ref a_1]) (rest := []) C ml_X2_90 gy_X2_takesToWrite gs_X2_takesToWrite (c_takesToWrite (some a_1) hok (fun _ h => by cases h; exact m_1))  rfl rfl ⟨by decide, by decide⟩ (Nat.le_of_ble_eq_true rfl) (by decide) (by decide) dX2_write_27 ?_
    rintro _ _ ⟨rfl, rfl⟩
    refine gV_istore (pc := 30) (lv' := [(6, .int (ph_tw σ (some a_1))), (5, .ref a_1), (4, .int ((nI x) / 16)), (0, .ref (ad 0)), (1, .int (nI P)), (2, .int (nI x)), (3, .int v)]) C dX2_write_30 (by decide) rfl ?_
    refine gV_aload_n (pc := 32) (x := ad 0) C dX2_write_32 3 rfl rfl ?_
    refine gV_iload (pc := 33) C dX2_write_33 0 rfl ?_
    refine gV_callVX (pc := 35) (As := [.int (ph_tw σ (some a_1))]) (rest := []) C CX w_ml_70 gy_X2_checkRoom gv_X2_checkRoom (c_checkRoom (ph_tw σ (some a_1)) (by omega) (by omega)) ⟨0, 2, _, _, rfl, rfl, rfl⟩ rfl rfl ⟨by decide, by decide⟩ (Nat.le_of_ble_eq_true rfl) (by decide) (by decide) dX2_write_35 (by rintro _ _ ⟨rfl, rfl, h⟩; exact ⟨rfl, Or.inr ⟨by rw [ph_wrT, if_neg hca, ph_bo, er_1]; exact if_pos h, rfl⟩⟩) ?_
    rintro _ _ ⟨rfl, rfl, hcr⟩
    have hok1 : ph_ok F S (ph_acc σ) := ok_sI hok _ (by decide)
    have hr1 : ∀ z, some a_1 = some z → z ∈ ph_L (ph_acc σ) := fun _ h => by cases h; exact m_1
    refine gV_aload_n (pc := 38) (x := ad 0) C dX2_write_38 3 rfl rfl ?_
    refine gV_dup (pc := 39) C dX2_write_39 rfl ?_
    refine cg_accesses (pc := 40) C fl_X2_73 dX2_write_40 ?_
    refine gV_iconst (pc := 43) (v := 1) C dX2_write_43 (by decide) ?_
    refine gV_iadd (pc := 44) C dX2_write_44 ?_
    refine cp_accesses (pc := 45) C fl_X2_73 dX2_write_45 ?_
    refine gV_aload_n (pc := 48) (x := ad 0) C dX2_write_48 3 rfl rfl ?_
    refine gV_aload (pc := 49) (x := a_1) C dX2_write_49 1 rfl ?_
    refine gV_iload (pc := 51) C dX2_write_51 2 rfl ?_
    refine gV_callV (pc := 53) (As := [.ref a_1, .int ((nI x) / 16)]) (rest := []) C ml_X2_93 gy_X2_ownBody gv_X2_ownBody (c_ownBody (r := some a_1) (g := ((nI x) / 16)) hok1 hr1) ⟨0, 2, _, _, rfl, rfl, rfl⟩ rfl rfl ⟨by decide, by decide⟩ (Nat.le_of_ble_eq_true rfl) (by decide) (by decide) dX2_write_53 ?_
    rintro _ _ ⟨b, σ2, ho, rfl, rfl⟩
    obtain ⟨hok2, m_b⟩ := ok_own hok1 hr1 ⟨x / 16, by omega, div16 hx⟩ ho
    obtain ⟨f, hf, ef⟩ := own_fr hok1 hr1 ho
    have hfr : vp_in (ph_B σ2 1 b) F := by rw [ef]; exact vp_in_nI hf (by omega)
    refine gV_astore (pc := 56) (x := b) (lv' := [(7, .ref b), (6, .int (ph_tw σ (some a_1))), (5, .ref a_1), (4, .int ((nI x) / 16)), (0, .ref (ad 0)), (1, .int (nI P)), (2, .int (nI x)), (3, .int v)]) C dX2_write_56 (by decide) rfl ?_
    refine gV_aload_n (pc := 58) (x := ad 0) C dX2_write_58 4 rfl rfl ?_
    refine cg_bodies (pc := 59) C fl_X2_40 dX2_write_59 ?_
    refine gV_iload_n (pc := 62) C dX2_write_62 5 rfl rfl ?_
    refine gV_iload (pc := 63) C dX2_write_63 3 rfl ?_
    refine gV_callS (pc := 65) (As := [.int (nI P), .int ((nI x) / 16)]) (rest := [.ref (ad 9)]) C ml_X2_52 gy_X2_slot gs_X2_slot (c_slot _ _)  rfl rfl ⟨by decide, by decide⟩ (Nat.le_of_ble_eq_true rfl) (by decide) (by decide) dX2_write_65 ?_
    rintro _ _ ⟨rfl, rfl⟩
    refine gV_aload (pc := 68) (x := b) C dX2_write_68 0 rfl ?_
    refine cs_bo (pc := 70) (σ := σ2) C m_b hsl dX2_write_70 ?_
    refine gV_aload_n (pc := 71) (x := ad 0) C dX2_write_71 4 rfl rfl ?_
    refine cg_used (pc := 72) C fl_X2_30 dX2_write_72 ?_
    refine gV_aload (pc := 75) (x := b) C dX2_write_75 0 rfl ?_
    refine cg_b_frame (pc := 77) (σ := ph_sR σ2 2 (((nI P) * 32 + ((nI x) / 16)).toNatClampNeg) (some b)) C m_b fl_X2_76 dX2_write_77 ?_
    refine gV_iconst (pc := 80) (v := 1) C dX2_write_80 (by decide) ?_
    refine cs_us (pc := 81) C hfr (by decide) dX2_write_81 ?_
    refine gV_aload_n (pc := 82) (x := ad 0) C dX2_write_82 4 rfl rfl ?_
    refine cg_frames (pc := 83) C fl_X2_23 dX2_write_83 ?_
    refine cg_words1 (pc := 86) C fl_X2_87 dX2_write_86 ?_
    refine gV_aload (pc := 89) (x := b) C dX2_write_89 0 rfl ?_
    refine cg_b_frame (pc := 91) (σ := ph_sA (ph_sR σ2 2 (((nI P) * 32 + ((nI x) / 16)).toNatClampNeg) (some b)) 2 ((ph_B (ph_sR σ2 2 (((nI P) * 32 + ((nI x) / 16)).toNatClampNeg) (some b)) 1 b).toNatClampNeg) 1) C m_b fl_X2_76 dX2_write_91 ?_
    refine gV_bipush (pc := 94) (v := 16) C dX2_write_94 (by decide) ?_
    refine gV_imul (pc := 96) C dX2_write_96 ?_
    refine gV_iload_n (pc := 97) C dX2_write_97 6 rfl rfl ?_
    refine gV_bipush (pc := 98) (v := 16) C dX2_write_98 (by decide) ?_
    refine gV_irem (pc := 100) C dX2_write_100 (by decide) ?_
    refine gV_iadd (pc := 101) C dX2_write_101 ?_
    refine gV_iload_n (pc := 102) C dX2_write_102 7 rfl rfl ?_
    refine cs_fw (pc := 103) C (wrd_in (by omega) hf hx ef rfl) dX2_write_103 ?_
    refine gV_aload (pc := 104) (x := b) C dX2_write_104 0 rfl ?_
    refine gV_iconst (pc := 106) (v := 1) C dX2_write_106 (by decide) ?_
    refine cp_b_dirty (pc := 107) (σ := ph_sA (ph_sA (ph_sR σ2 2 (((nI P) * 32 + ((nI x) / 16)).toNatClampNeg) (some b)) 2 ((ph_B (ph_sR σ2 2 (((nI P) * 32 + ((nI x) / 16)).toNatClampNeg) (some b)) 1 b).toNatClampNeg) 1) 0 ((((ph_B (ph_sA (ph_sR σ2 2 (((nI P) * 32 + ((nI x) / 16)).toNatClampNeg) (some b)) 2 ((ph_B (ph_sR σ2 2 (((nI P) * 32 + ((nI x) / 16)).toNatClampNeg) (some b)) 1 b).toNatClampNeg) 1) 1 b) * 16) + ((nI x) - (nI x) / 16 * 16)).toNatClampNeg) v) C m_b fl_X2_97 (by decide) dX2_write_107 ?_
    refine gV_iload (pc := 110) C dX2_write_110 1 rfl ?_
    refine gV_iret (pc := 112) C dX2_write_112 (by decide) (by decide) ?_
    exact ⟨by rw [ph_wrT, if_neg hca, ph_bo, er_1]; exact if_neg hcr, b, σ2, by rw [ph_bo, er_1]; exact ho, by rw [ph_bo, er_1], rfl⟩
end
section
section GAR
variable {X : gx_T} {cc : ByteArray} {nL : Nat} {own : String} {rm : Room} {rt : Option FieldType} {D : va_G} {tys : List (ClassId × FieldType)} {post : Option Value → va_W → Prop} {k n : Nat} {ws : va_W} {pc : Nat} {lv : List (Nat × Value)} {st : List Value} {idx : Nat}
theorem va_K_cls {D : va_G} {tys : List (ClassId × FieldType)} {s : State} {cA c0 : ClassId} {ty : FieldType} {t0 : Nat} (hK : va_K D vwc (tys ++ [(cA, ty)]) s) (ht : tys[t0]? = some (c0, ty)) : cA = c0 := by
  have h1 := (hK.2 t0 (c0, ty) (by rw [List.getElem?_append_left (List.getElem?_eq_some_iff.mp ht).1]; exact ht)).2
  have h2 := (hK.2 tys.length (cA, ty) (by rw [List.getElem?_append_right (Nat.le_refl _), Nat.sub_self]; rfl)).2
  have find : ∀ c, va_RA s c ty → s.vm.findClass ("[" ++ ty.toString) = some c := by
    intro c h
    cases ty with
    | object C => obtain ⟨kA, comp, -, -, -, h4⟩ := h; exact h4
    | _ => exact h
  exact Option.some.inj ((find cA h2).symm.trans (find c0 h1))
theorem gV_newa (C : gC X cc nL own rm rt D tys post) {atype : ArrayType} (harr : Cond.arrayClass (newarray.typeOf atype) ∈ pw_all) {ty : FieldType} (hty : newarray.typeOf atype = ty) (t0 : Nat) {c0 : ClassId} (ht : tys[t0]? = some (c0, ty)) {z : Int32} {N : Nat} {a0 : vp_A} (ha : ∀ cA : ClassId, vp_cell cA a0 = arrV cA N (fun _ => defaultValue ty)) (hn : ¬ z < 0) (hN : z.toNatClampNeg = N) (hbytes : N * componentBytes ty ≤ 536870912) (hcells : k + 1 ≤ rm.cells) (hslots : n + N ≤ rm.slots) (hdg : decode cc pc = .ok (.newarray atype, 2))
    (kk : ∀ q : Nat, gV X (k + 1) (n + N) (ws ++ [(q, .inl (c0, a0))]) (pc + 2) lv (.ref q :: st)) : gV X k n ws pc lv (.int z :: st) := by
  obtain ⟨⟨p, l, e, R, s, m, args, below, meth, c, Q⟩, nL', D', tys', A⟩ := X
  obtain ⟨hx, hb, hml, hown, hts, hN, hK, hA, hlks, rfl, rfl, rfl, rfl, hl0, hr, hret⟩ := C
  intro H locs ls hP hD hS hl
  exact va_newa hx hb (hts _ harr) hty hK hP hD hS hA ha hn ‹_› hbytes hcells hslots hdg (fun q cA H1 hK1 hP1 hD1 hS1 => by
    have e := va_K_cls hK1 ht
    subst e
    exact kk q H1 locs ls hP1 hD1 hS1 hl)
theorem gV_newq (C : gC X cc nL own rm rt D tys post) {Cn : String} (hclink : Cond.classLink own idx Cn ∈ pw_all) (hover : Cond.arrayOver (.object Cn) ∈ pw_nst) (t0 : Nat) {c0 : ClassId} (ht : tys[t0]? = some (c0, .object Cn)) {z : Int32} {N : Nat} (hn : ¬ z < 0) (hN : z.toNatClampNeg = N) (hbytes : N * 4 ≤ 536870912) (hcells : k + 1 ≤ rm.cells) (hslots : n + N ≤ rm.slots) (hdg : decode cc pc = .ok (.anewarray idx, 3))
    (kk : ∀ q : Nat, gV X (k + 1) (n + N) (ws ++ [(q, .inl (c0, N, .inr (.inr (.inr (.inr (fun _ => none))))))]) (pc + 3) lv (.ref q :: st)) : gV X k n ws pc lv (.int z :: st) := by
  have hNN := hN
  obtain ⟨⟨p, l, e, R, s, m, args, below, meth, c, Q⟩, nL', D', tys', A⟩ := X
  obtain ⟨hx, hb, hml, hown, hts, hN, hK, hA, hlks, rfl, rfl, rfl, rfl, hl0, hr, hret⟩ := C
  intro H locs ls hP hD hS hl
  exact va_newq hx hb hown (hts _ hclink) (hN _ hover) hK hP hD hS hA hn hNN hbytes hcells hslots hdg (fun q cA H1 hK1 hP1 hD1 hS1 => by
    have e := va_K_cls hK1 ht
    subst e
    exact kk q H1 locs ls hP1 hD1 hS1 hl)
theorem gV_mmax (C : gC X cc nL own rm rt D tys post) (hlink : Cond.methodLink own idx Lib.Math.max.name ∈ pw_all) (hf : 1 ≤ rm.frames) (hlo : (st.map fun v => v.category).sum + 13 ≤ rm.locals) (hc : k ≤ rm.cells) (hs : n ≤ rm.slots) {x y : Int32} (hdg : decode cc pc = .ok (.invokestatic idx, 3)) (kk : gV X k n ws (pc + 3) lv (.int (if x < y then y else x) :: st)) : gV X k n ws pc lv (.int y :: .int x :: st) := by
  obtain ⟨⟨p, l, e, R, s, m, args, below, meth, c, Q⟩, nL', D', tys', A⟩ := X
  obtain ⟨hx, hb, hml, hown, hts, hN, hK, hA, hlks, rfl, rfl, rfl, rfl, hl0, hr, hret⟩ := C
  intro H locs ls hP hD hS hl
  exact va_mmax hx hb (hml.trans hl.1.symm) hown (hts _ hlink) (hts _ (pw_t 31 (by decide +kernel) rfl)) (hts _ (pw_t 2 (by decide +kernel) rfl)) (hts _ (pw_t 32 rfl rfl)) hf hlo hc hs hdg (kk H locs ls hP hD hS hl)
theorem gV_mmin (C : gC X cc nL own rm rt D tys post) (hlink : Cond.methodLink own idx Lib.Math.min.name ∈ pw_all) (hf : 1 ≤ rm.frames) (hlo : (st.map fun v => v.category).sum + 13 ≤ rm.locals) (hc : k ≤ rm.cells) (hs : n ≤ rm.slots) {x y : Int32} (hdg : decode cc pc = .ok (.invokestatic idx, 3)) (kk : gV X k n ws (pc + 3) lv (.int (if y < x then y else x) :: st)) : gV X k n ws pc lv (.int y :: .int x :: st) := by
  obtain ⟨⟨p, l, e, R, s, m, args, below, meth, c, Q⟩, nL', D', tys', A⟩ := X
  obtain ⟨hx, hb, hml, hown, hts, hN, hK, hA, hlks, rfl, rfl, rfl, rfl, hl0, hr, hret⟩ := C
  intro H locs ls hP hD hS hl
  exact va_mmin hx hb (hml.trans hl.1.symm) hown (hts _ hlink) (hts _ (pw_t 34 (by decide +kernel) rfl)) (hts _ (pw_t 2 (by decide +kernel) rfl)) (hts _ (pw_t 35 rfl rfl)) hf hlo hc hs hdg (kk H locs ls hP hD hS hl)
theorem gV_sub {ws' : va_W} (is : List Nat) (h1 : is.filterMap (fun i => ws[i]?) = ws') (h2 : va_nd is = true) (h3 : is.map (fun i => ws[i]?) = ws'.map some) (kk : gV X k n ws' pc lv st) : gV X k n ws pc lv st := by
  obtain ⟨⟨p, l, e, R, s, m, args, below, meth, c, Q⟩, nL', D', tys', A⟩ := X
  intro H locs ls hP hD hS hl
  exact kk H locs ls (hP.sub is h1) (hD.sub is h2 h3) hS hl
end GAR
theorem w_over : Cond.arrayOver (.object RX0) ∈ pw_nst := pw_n 43 (by decide +kernel) rfl
theorem w_arrI : Cond.arrayClass (newarray.typeOf .int) ∈ pw_all := pw_t 53 (by decide +kernel) rfl
theorem w_arrZ : Cond.arrayClass (newarray.typeOf .boolean) ∈ pw_all := pw_t 89 (by decide +kernel) rfl
theorem w_arrJ : Cond.arrayClass (newarray.typeOf .long) ∈ pw_all := pw_t 798 (by decide +kernel) rfl
theorem wf_X1_11 : Cond.fieldLink RX1 11 "PagerHouse$Rows" "content" "[LPagerHouse$Body;" ∈ pw_all := pw_t 44 (by decide +kernel) rfl
theorem wf_X1_17 : Cond.fieldLink RX1 17 "PagerHouse$Rows" "words" "[I" ∈ pw_all := pw_t 46 (by decide +kernel) rfl
theorem wf_X2_23 : Cond.fieldLink RX2 23 "PagerHouse" "frames" "LPagerHouse$Rows;" ∈ pw_all := pw_t 55 (by decide +kernel) rfl
theorem wf_X2_27 : Cond.fieldLink RX2 27 "PagerHouse" "sectors" "LPagerHouse$Rows;" ∈ pw_all := pw_t 56 (by decide +kernel) rfl
theorem wf_X2_30 : Cond.fieldLink RX2 30 "PagerHouse" "used" "[Z" ∈ pw_all := pw_t 57 (by decide +kernel) rfl
theorem wf_X2_34 : Cond.fieldLink RX2 34 "PagerHouse" "pageCounts" "[I" ∈ pw_all := pw_t 59 (by decide +kernel) rfl
theorem wf_X2_40 : Cond.fieldLink RX2 40 "PagerHouse" "bodies" "[LPagerHouse$Body;" ∈ pw_all := pw_t 60 (by decide +kernel) rfl
theorem w_m_9 : Cond.methodLink RX2 9 Lib.Math.max.name ∈ pw_all := pw_t 30 (by decide +kernel) rfl
theorem w_m_15 : Cond.methodLink RX2 15 Lib.Math.min.name ∈ pw_all := pw_t 33 (by decide +kernel) rfl
abbrev rm_X1_init : Room := { frames := 1, cells := 2, slots := 1088, locals := 60 }
set_option maxHeartbeats 4000000 in
set_option maxRecDepth 100000 in
/-- Rows(N) -/
theorem c_rows {D : va_G} {ct : Nat → ClassId} {b N : Nat} (hN : N ≤ 64) : gM yX1_init cX1_init 2 none rm_X1_init D (gt ct) [(b, .inr (1, [.null, .null]))] [.ref b, .int (nI N)] (fun v w => ∃ c e, v = none ∧ w = [(b, .inr (1, [.ref c, .ref e])), (c, .inl (ct 2, N, .inr (.inr (.inr (.inr (fun _ => none)))))), (e, .inl (ct 0, 16 * N, .inl (fun _ => 0)))]) := by
  refine gM_inI RX1 rfl rfl (by decide) (Nat.le_of_ble_eq_true rfl) (fun X C hI => ?_)
  refine gV_aload_n (pc := 0) (x := b) C dX1_init_0 0 rfl rfl ?_
  refine gV_objInit (pc := 1) C w_obj_X1 w_obj_i w_obj_c (Nat.le_of_ble_eq_true rfl) (by decide) dX1_init_1 ?_
  refine gV_aload_n (pc := 4) (x := b) C dX1_init_4 0 rfl rfl ?_
  refine gV_iload_n (pc := 5) C dX1_init_5 1 rfl rfl ?_
  refine gV_newq (pc := 6) C cl_X1_9 w_over 2 rfl (nI_pos (by omega)) (nI_clamp (by omega)) (by omega) (by decide) (show 0 + N ≤ 1088 by omega) dX1_init_6 (fun c => ?_)
  refine gV_putF (pc := 9) (ty := .array (.object "PagerHouse$Body")) C hI pw_fl_X1 tyX1 tyX1_ok nmX1 0 1 0 wf_X1_11 rfl rfl (by decide) rfl rfl (by decide +kernel) rfl rfl (Nat.le_of_ble_eq_true rfl) dX1_init_9 ?_
  refine gV_aload_n (pc := 12) (x := b) C dX1_init_12 0 rfl rfl ?_
  refine gV_iload_n (pc := 13) C dX1_init_13 1 rfl rfl ?_
  refine gV_bipush (pc := 14) (v := 16) C dX1_init_14 (by decide) ?_
  refine gV_imul (pc := 16) C dX1_init_16 ?_
  rw [mul16]
  refine gV_newa (pc := 17) C w_arrI rfl 0 (a0 := (16 * N, .inl (fun _ => 0))) rfl (fun _ => rfl) (nI_pos (by omega)) (nI_clamp (by omega)) (show 16 * N * 4 ≤ 536870912 by omega) (by decide) (show 0 + N + 16 * N ≤ 1088 by omega) dX1_init_17 (fun e => ?_)
  refine gV_putF (pc := 19) (ty := .array .int) C hI pw_fl_X1 tyX1 tyX1_ok nmX1 0 1 1 wf_X1_17 rfl rfl (by decide) rfl rfl (by decide +kernel) rfl rfl (Nat.le_of_ble_eq_true rfl) dX1_init_19 ?_
  refine gV_vret (pc := 22) C dX1_init_22 (by decide) (show 0 + N + 16 * N ≤ 1088 by omega) ?_
  exact ⟨c, e, rfl, rfl⟩
def ph_cl (lo hi x : Int32) : Int32 := if hi < (if x < lo then lo else x) then hi else (if x < lo then lo else x)
theorem cl_in {x : Int32} (a b : Nat) (hab : a ≤ b) (hb : b < 2 ^ 31) : ∃ j, a ≤ j ∧ j ≤ b ∧ ph_cl (nI a) (nI b) x = nI j := by
  unfold ph_cl
  by_cases h : x < nI a
  · rw [if_pos h, if_neg (nI_nlt hab hb)]
    exact ⟨a, Nat.le_refl a, hab, rfl⟩
  · rw [if_neg h]
    have h0 : ¬ x < 0 := fun z => h (Int32.lt_of_lt_of_le z (nI_pos' (by omega)))
    obtain ⟨j, hj, rfl⟩ := nI_of h0
    have h1 : a ≤ j := Nat.le_of_not_lt fun z => h (nI_lt z (by omega))
    by_cases h2 : nI b < nI j
    · rw [if_pos h2]; exact ⟨b, hab, Nat.le_refl b, rfl⟩
    · rw [if_neg h2]
      exact ⟨j, h1, Nat.le_of_not_lt fun z => h2 (nI_lt z hj), rfl⟩
def ph_F (x : Int32) : Nat := (ph_cl 2 16 x).toNatClampNeg
def ph_Sn (x : Int32) : Nat := (ph_cl 0 64 x).toNatClampNeg
theorem ph_F_in (x : Int32) : 2 ≤ ph_F x ∧ ph_F x ≤ 16 ∧ ph_cl 2 16 x = nI (ph_F x) := by
  obtain ⟨j, h1, h2, h3⟩ := cl_in (x := x) 2 16 (by decide) (by decide)
  have e : ph_cl 2 16 x = nI j := h3
  unfold ph_F
  rw [e, nI_clamp (by omega)]
  exact ⟨h1, h2, rfl⟩
theorem ph_Sn_in (x : Int32) : ph_Sn x ≤ 64 ∧ ph_cl 0 64 x = nI (ph_Sn x) := by
  obtain ⟨j, h1, h2, h3⟩ := cl_in (x := x) 0 64 (by decide) (by decide)
  have e : ph_cl 0 64 x = nI j := h3
  unfold ph_Sn
  rw [e, nI_clamp (by omega)]
  exact ⟨h2, rfl⟩
/-- a new object's state -/
def ph_0 : ph_S := (fun _ => 0, fun _ _ => none, fun _ _ => 0, fun _ _ => 0, [])
theorem ok_0 {F S : Nat} (h1 : 2 ≤ F) (h2 : F ≤ 16) (h3 : S ≤ 64) : ph_ok F S ph_0 :=
  ⟨⟨h1, h2, h3⟩, fun k j a e => (nomatch e), fun a ha => (nomatch ha), ⟨0, by omega, rfl⟩, fun p _ => ⟨0, by omega, rfl⟩, fun f => Or.inl rfl⟩
def ad_of (l : List Nat) (k : Nat) : Nat := l.getD k 0
abbrev rm_X2_init : Room := { frames := 2, cells := 9, slots := 2600, locals := 81 }
set_option maxHeartbeats 4000000 in
set_option maxRecDepth 100000 in
/-- PagerHouse(frames, sectors) -/
theorem c_pager {D : va_G} {ct : Nat → ClassId} {h0 : Nat} (f s : Int32) : gM yX2_init cX2_init 5 none rm_X2_init D (gt ct) [(h0, .inr (2, [.null, .null, .null, .int 0, .null, .null, .int 0, .int 0, .int 0, .int 0, .int 0]))] [.ref h0, .int f, .int s] (fun v w => ∃ ad : Nat → Nat, ad 0 = h0 ∧ v = none ∧ w = cw ad ct (ph_F f) (ph_Sn s) ph_0) := by
  obtain ⟨hF2, hF16, eF⟩ := ph_F_in f
  obtain ⟨hS64, eS⟩ := ph_Sn_in s
  refine gM_inI RX2 rfl rfl (by decide) (Nat.le_of_ble_eq_true rfl) (fun X C hI => ?_)
  refine gV_aload_n (pc := 0) (x := h0) C dX2_init_0 0 rfl rfl ?_
  refine gV_objInit (pc := 1) C w_obj_X2 w_obj_i w_obj_c (Nat.le_of_ble_eq_true rfl) (by decide) dX2_init_1 ?_
  refine gV_iload_n (pc := 4) C dX2_init_4 1 rfl rfl ?_
  refine gV_iconst (pc := 5) (v := 2) C dX2_init_5 (by decide) ?_
  refine gV_mmax (pc := 6) C w_m_9 (by decide) (Nat.le_of_ble_eq_true rfl) (by decide) (by decide) dX2_init_6 ?_
  refine gV_bipush (pc := 9) (v := 16) C dX2_init_9 (by decide) ?_
  refine gV_mmin (pc := 11) C w_m_15 (by decide) (Nat.le_of_ble_eq_true rfl) (by decide) (by decide) dX2_init_11 ?_
  refine gV_st (congrArg (fun z => [Value.int z]) (show _ = nI (ph_F f) from eF)) ?_
  refine gV_istore_n (pc := 14) (lv' := [(3, .int (nI (ph_F f))), (0, .ref h0), (1, .int f), (2, .int s)]) C dX2_init_14 rfl (by decide) rfl ?_
  refine gV_iload_n (pc := 15) C dX2_init_15 3 rfl rfl ?_
  refine gV_iconst (pc := 16) (v := 0) C dX2_init_16 (by decide) ?_
  refine gV_mmax (pc := 17) C w_m_9 (by decide) (Nat.le_of_ble_eq_true rfl) (by decide) (by decide) dX2_init_17 ?_
  refine gV_bipush (pc := 20) (v := 64) C dX2_init_20 (by decide) ?_
  refine gV_mmin (pc := 22) C w_m_15 (by decide) (Nat.le_of_ble_eq_true rfl) (by decide) (by decide) dX2_init_22 ?_
  refine gV_st (congrArg (fun z => [Value.int z]) (show _ = nI (ph_Sn s) from eS)) ?_
  refine gV_istore (pc := 25) (lv' := [(4, .int (nI (ph_Sn s))), (3, .int (nI (ph_F f))), (0, .ref h0), (1, .int f), (2, .int s)]) C dX2_init_25 (by decide) rfl ?_
  refine gV_aload_n (pc := 27) (x := h0) C dX2_init_27 2 rfl rfl ?_
  refine gV_new (pc := 28) C pw_fl_X1 tyX1 tyX1_ok cl_X2_18 in_X1 ini_X1 1 rfl (fs := [.null, .null]) (fun j hj => by rcases (show j = 0 ∨ j = 1 by omega) with rfl | rfl <;> rfl) (by decide) (by decide) dX2_init_28 (fun q1 _ => ?_)
  refine gV_dup (pc := 31) C dX2_init_31 rfl ?_
  refine gV_iload_n (pc := 32) C dX2_init_32 1 rfl rfl ?_
  refine gV_sub (ws' := [(q1, .inr (1, [.null, .null]))] ++ [(h0, .inr (2, [.null, .null, .null, .int 0, .null, .null, .int 0, .int 0, .int 0, .int 0, .int 0]))]) [1, 0] rfl (by decide) rfl ?_
  refine gV_callIr (pc := 33) (As := [.int (nI (ph_F f))]) (rest := [.ref q1, .ref h0]) C ml_X2_20 gy_X1_init gi_X1_init (c_rows (N := ph_F f) (by omega)) rfl rfl rfl ⟨by decide, by decide⟩ (Nat.le_of_ble_eq_true rfl) (by decide) (by decide) dX2_init_33 ?_
  rintro _ _ ⟨c1, e1, rfl, rfl⟩
  refine gV_putF (pc := 36) (ty := .object "PagerHouse$Rows") C hI pw_fl_X2 tyX2 tyX2_ok nmX2 3 2 0 wf_X2_23 rfl rfl (by decide) rfl rfl (by decide +kernel) rfl rfl (Nat.le_of_ble_eq_true rfl) dX2_init_36 ?_
  refine gV_ws (ws' := [(q1, .inr (1, [.ref c1, .ref e1])), (c1, .inl (ct 2, ph_F f, .inr (.inr (.inr (.inr (fun _ => none)))))), (e1, .inl (ct 0, 16 * ph_F f, .inl (fun _ => 0))), (h0, .inr (2, [.ref q1, .null, .null, .int 0, .null, .null, .int 0, .int 0, .int 0, .int 0, .int 0]))]) rfl ?_
  refine gV_aload_n (pc := 39) (x := h0) C dX2_init_39 2 rfl rfl ?_
  refine gV_new (pc := 40) C pw_fl_X1 tyX1 tyX1_ok cl_X2_18 in_X1 ini_X1 1 rfl (fs := [.null, .null]) (fun j hj => by rcases (show j = 0 ∨ j = 1 by omega) with rfl | rfl <;> rfl) (by decide) (by decide) dX2_init_40 (fun q2 _ => ?_)
  refine gV_dup (pc := 43) C dX2_init_43 rfl ?_
  refine gV_iload (pc := 44) C dX2_init_44 0 rfl ?_
  refine gV_sub (ws' := [(q2, .inr (1, [.null, .null]))] ++ [(q1, .inr (1, [.ref c1, .ref e1])), (c1, .inl (ct 2, ph_F f, .inr (.inr (.inr (.inr (fun _ => none)))))), (e1, .inl (ct 0, 16 * ph_F f, .inl (fun _ => 0))), (h0, .inr (2, [.ref q1, .null, .null, .int 0, .null, .null, .int 0, .int 0, .int 0, .int 0, .int 0]))]) [4, 0, 1, 2, 3] rfl (by decide) rfl ?_
  refine gV_callIr (pc := 46) (As := [.int (nI (ph_Sn s))]) (rest := [.ref q2, .ref h0]) C ml_X2_20 gy_X1_init gi_X1_init (c_rows (N := ph_Sn s) hS64) rfl rfl rfl ⟨by decide, by decide⟩ (Nat.le_of_ble_eq_true rfl) (by decide) (by decide) dX2_init_46 ?_
  rintro _ _ ⟨c2, e2, rfl, rfl⟩
  refine gV_putF (pc := 49) (ty := .object "PagerHouse$Rows") C hI pw_fl_X2 tyX2 tyX2_ok nmX2 6 2 1 wf_X2_27 rfl rfl (by decide) rfl rfl (by decide +kernel) rfl rfl (Nat.le_of_ble_eq_true rfl) dX2_init_49 ?_
  refine gV_ws (ws' := [(q2, .inr (1, [.ref c2, .ref e2])), (c2, .inl (ct 2, ph_Sn s, .inr (.inr (.inr (.inr (fun _ => none)))))), (e2, .inl (ct 0, 16 * ph_Sn s, .inl (fun _ => 0))), (q1, .inr (1, [.ref c1, .ref e1])), (c1, .inl (ct 2, ph_F f, .inr (.inr (.inr (.inr (fun _ => none)))))), (e1, .inl (ct 0, 16 * ph_F f, .inl (fun _ => 0))), (h0, .inr (2, [.ref q1, .ref q2, .null, .int 0, .null, .null, .int 0, .int 0, .int 0, .int 0, .int 0]))]) rfl ?_
  refine gV_aload_n (pc := 52) (x := h0) C dX2_init_52 2 rfl rfl ?_
  refine gV_iload_n (pc := 53) C dX2_init_53 1 rfl rfl ?_
  refine gV_newa (pc := 54) C w_arrZ rfl 1 (a0 := (ph_F f, .inl (fun _ => 0))) rfl (fun _ => rfl) (nI_pos (by omega)) (nI_clamp (by omega)) (show ph_F f * 1 ≤ 536870912 by omega) (by decide) (show 0 + 2 + 1088 + 2 + 1088 + ph_F f ≤ 2600 by omega) dX2_init_54 (fun u1 => ?_)
  refine gV_putF (pc := 56) (ty := .array .boolean) C hI pw_fl_X2 tyX2 tyX2_ok nmX2 6 2 2 wf_X2_30 rfl rfl (by decide) rfl rfl (by decide +kernel) rfl rfl (Nat.le_of_ble_eq_true rfl) dX2_init_56 ?_
  refine gV_widen (n' := 2300) (Nat.le_refl _) (show 0 + 2 + 1088 + 2 + 1088 + ph_F f ≤ 2300 by omega) ?_
  refine gV_aload_n (pc := 59) (x := h0) C dX2_init_59 2 rfl rfl ?_
  refine gV_bipush (pc := 60) (v := 8) C dX2_init_60 (by decide) ?_
  refine gV_newa (pc := 62) C w_arrI rfl 0 (N := 8) (a0 := (8, .inl (fun _ => 0))) rfl (fun _ => rfl) (by decide) (by decide) (by decide) (by decide) (by decide) dX2_init_62 (fun p1 => ?_)
  refine gV_putF (pc := 64) (ty := .array .int) C hI pw_fl_X2 tyX2 tyX2_ok nmX2 6 2 4 wf_X2_34 rfl rfl (by decide) rfl rfl (by decide +kernel) rfl rfl (Nat.le_of_ble_eq_true rfl) dX2_init_64 ?_
  refine gV_aload_n (pc := 67) (x := h0) C dX2_init_67 2 rfl rfl ?_
  refine gV_sipush (pc := 68) (v := 256) C dX2_init_68 (by decide) ?_
  refine gV_newq (pc := 71) C cl_X2_38 w_over 2 (N := 256) rfl (by decide) (by decide) (by decide) (by decide) (by decide) dX2_init_71 (fun b1 => ?_)
  refine gV_putF (pc := 74) (ty := .array (.object "PagerHouse$Body")) C hI pw_fl_X2 tyX2 tyX2_ok nmX2 6 2 5 wf_X2_40 rfl rfl (by decide) rfl rfl (by decide +kernel) rfl rfl (Nat.le_of_ble_eq_true rfl) dX2_init_74 ?_
  refine gV_sub (ws' := cw (ad_of [h0, q1, q2, c1, e1, c2, e2, u1, p1, b1]) ct (ph_F f) (ph_Sn s) ph_0) [6, 3, 0, 4, 5, 1, 2, 7, 8, 9] rfl (by decide) rfl ?_
  refine gV_vret (pc := 77) C dX2_init_77 (by decide) (by decide) ?_
  exact ⟨_, rfl, rfl, rfl⟩
end
section
theorem pA_sA (μ : pm_S) (k j : Nat) (v : Int32) (k' j' : Nat) : pm_A (pm_sA μ k j v) k' j' = if k' = k ∧ j' = j then v else pm_A μ k' j' := by
  simp only [pm_A, pm_sA, va_up]
  by_cases h : k' = k
  · subst h
    by_cases h2 : j' = j <;> simp [h2, va_up]
  · simp [h]
theorem pA_sI (μ : pm_S) (k : Nat) (v : Int32) (k' j' : Nat) : pm_A (pm_sI μ k v) k' j' = pm_A μ k' j' := rfl
theorem pI_sA (μ : pm_S) (k j : Nat) (v : Int32) (k' : Nat) : pm_I (pm_sA μ k j v) k' = pm_I μ k' := rfl
theorem pI_sI (μ : pm_S) (k : Nat) (v : Int32) (k' : Nat) : pm_I (pm_sI μ k v) k' = if k' = k then v else pm_I μ k' := rfl
theorem nI_p0 (c : Nat) : nI c + 0 = nI c := by
  rw [show (0 : Int32) = nI 0 from rfl, nI_add, Nat.add_zero]
def pm_ip (μ : pm_S) (p : Int32) : Int32 := if p < 0 then 0 else if 8 ≤ p then 0 else if pm_A μ 0 p.toNatClampNeg ≤ 0 then 0 else 1
def pm_ig (μ : pm_S) (p g : Int32) : Int32 := if pm_ip μ p = 0 then 0 else if g < 0 then 0 else if pm_A μ 0 p.toNatClampNeg ≤ g then 0 else 1
theorem pm_ip_in {μ : pm_S} {p : Int32} (h : ¬ pm_ip μ p = 0) : ¬ p < 0 ∧ ¬ 8 ≤ p ∧ ¬ pm_A μ 0 p.toNatClampNeg ≤ 0 := by
  unfold pm_ip at h
  split at h
  · exact absurd rfl h
  · split at h
    · exact absurd rfl h
    · split at h
      · exact absurd rfl h
      · exact ⟨by assumption, by assumption, by assumption⟩
theorem pm_ip_vin {μ : pm_S} {p : Int32} (h : ¬ pm_ip μ p = 0) : vp_in p 8 := ix_cmp (N := 8) (by decide) (pm_ip_in h).1 (pm_ip_in h).2.1
def pm_lpG (μ : pm_S) : Nat → Nat → Int32
  | 0, _ => -1
  | d + 1, i => if pm_A μ 0 i = 0 then nI i else pm_lpG μ d (i + 1)
def pm_lp (μ : pm_S) : Int32 := pm_lpG μ 8 0
def pm_biG (μ : pm_S) (f : Int32) : Nat → Nat → Int32
  | 0, _ => -1
  | d + 1, i => if pm_A μ 2 i = 0 then pm_biG μ f d (i + 1) else if pm_A μ 3 i = f then nI i else pm_biG μ f d (i + 1)
def pm_bi (μ : pm_S) (f : Int32) : Int32 := pm_biG μ f 300 0
def pm_sfG (μ : pm_S) (s : Int32) : Nat → Nat → Int32
  | 0, _ => 1
  | d + 1, i => if pm_A μ 2 i = 0 then pm_sfG μ s d (i + 1) else if pm_A μ 4 i = s then 0 else pm_sfG μ s d (i + 1)
def pm_sf (μ : pm_S) (s : Int32) : Int32 := pm_sfG μ s 300 0
def pm_ff (F : Nat) (μ : pm_S) : Nat := ph_cN (fun f => decide (pm_bi μ (nI f) = -1)) F
def pm_fs (S : Nat) (μ : pm_S) : Nat := ph_cN (fun s => decide (¬ pm_sf μ (nI s) = 0)) S
def pm_ho (μ : pm_S) (b : Int32) : Nat := ph_cN (fun k => decide (pm_A μ 1 k = b)) 256
abbrev rm_X3_thrown : Room := { frames := 0, cells := 0, slots := 0, locals := 0 }
set_option maxHeartbeats 4000000 in
set_option maxRecDepth 100000 in
/-- thrown, of the reference -/
theorem d_thrown {D : va_G} {o : Nat → Nat} {ct : Nat → ClassId} {μ : pm_S}  : gM yX3_thrown cX3_thrown 1 (some .int) rm_X3_thrown D (gt ct) (mw o ct μ) [.ref (o 0)] (fun v w => v = some (.int (pm_I μ 0)) ∧ w = mw o ct μ) := by
  refine gM_in RX3 rfl (by decide) (Nat.le_of_ble_eq_true rfl) (fun X C => ?_)
  refine gV_aload_n (pc := 0) (x := o 0) C dX3_thrown_0 0 rfl rfl ?_
  refine mg_thrown (pc := 1) C fl_X3_45 dX3_thrown_1 ?_
  refine gV_iret (pc := 4) C dX3_thrown_4 (by decide) (by decide) ?_
  exact ⟨rfl, rfl⟩
abbrev rm_X3_isProcess : Room := { frames := 0, cells := 0, slots := 0, locals := 0 }
set_option maxHeartbeats 4000000 in
set_option maxRecDepth 100000 in
/-- isProcess, of the reference -/
theorem d_isProcess {D : va_G} {o : Nat → Nat} {ct : Nat → ClassId} {μ : pm_S} (p : Int32) : gM yX3_isProcess cX3_isProcess 2 (some .boolean) rm_X3_isProcess D (gt ct) (mw o ct μ) [.ref (o 0), .int p] (fun v w => v = some (.int (pm_ip μ p)) ∧ w = mw o ct μ) := by
  refine gM_in RX3 rfl (by decide) (Nat.le_of_ble_eq_true rfl) (fun X C => ?_)
  refine gV_iload_n (pc := 0) C dX3_isProcess_0 1 rfl rfl ?_
  refine gV_if_lt (pc := 1) C 23 dX3_isProcess_1 (by decide) (fun c_1 => ?_) (fun c_1 => ?_)
  · skip
    refine gV_iconst (pc := 23) (v := 0) C dX3_isProcess_23 (by decide) ?_
    refine gV_zret (pc := 24) C dX3_isProcess_24 (by decide) (by decide) (by decide) ?_
    exact ⟨by rw [pm_ip, if_pos c_1], rfl⟩
  · skip
    refine gV_iload_n (pc := 4) C dX3_isProcess_4 1 rfl rfl ?_
    refine gV_bipush (pc := 5) (v := 8) C dX3_isProcess_5 (by decide) ?_
    refine gV_icmp_ge (pc := 7) C 23 dX3_isProcess_7 (by decide) (fun c_2 => ?_) (fun c_2 => ?_)
    · skip
      refine gV_iconst (pc := 23) (v := 0) C dX3_isProcess_23 (by decide) ?_
      refine gV_zret (pc := 24) C dX3_isProcess_24 (by decide) (by decide) (by decide) ?_
      exact ⟨by rw [pm_ip, if_neg c_1, if_pos c_2], rfl⟩
    · skip
      refine gV_aload_n (pc := 10) (x := o 0) C dX3_isProcess_10 0 rfl rfl ?_
      refine mg_pages (pc := 11) C fl_X3_7 dX3_isProcess_11 ?_
      refine gV_iload_n (pc := 14) C dX3_isProcess_14 1 rfl rfl ?_
      refine ma_pages (pc := 15) C (ix_cmp (N := 8) (by decide) c_1 c_2) dX3_isProcess_15 ?_
      refine gV_if_le (pc := 16) C 23 dX3_isProcess_16 (by decide) (fun c_3 => ?_) (fun c_3 => ?_)
      · skip
        refine gV_iconst (pc := 23) (v := 0) C dX3_isProcess_23 (by decide) ?_
        refine gV_zret (pc := 24) C dX3_isProcess_24 (by decide) (by decide) (by decide) ?_
        exact ⟨by rw [pm_ip, if_neg c_1, if_neg c_2, if_pos c_3], rfl⟩
      · skip
        refine gV_iconst (pc := 19) (v := 1) C dX3_isProcess_19 (by decide) ?_
        refine gV_goto (pc := 20) C 24 dX3_isProcess_20 (by decide) ?_
        refine gV_zret (pc := 24) C dX3_isProcess_24 (by decide) (by decide) (by decide) ?_
        exact ⟨by rw [pm_ip, if_neg c_1, if_neg c_2, if_neg c_3], rfl⟩
abbrev rm_X3_isPage : Room := { frames := 1, cells := 0, slots := 0, locals := 21 }
set_option maxHeartbeats 4000000 in
set_option maxRecDepth 100000 in
/-- isPage, of the reference -/
theorem d_isPage {D : va_G} {o : Nat → Nat} {ct : Nat → ClassId} {μ : pm_S} (p g : Int32) : gM yX3_isPage cX3_isPage 3 (some .boolean) rm_X3_isPage D (gt ct) (mw o ct μ) [.ref (o 0), .int p, .int g] (fun v w => v = some (.int (pm_ig μ p g)) ∧ w = mw o ct μ) := by
  refine gM_in RX3 rfl (by decide) (Nat.le_of_ble_eq_true rfl) (fun X C => ?_)
  refine gV_aload_n (pc := 0) (x := o 0) C dX3_isPage_0 0 rfl rfl ?_
  refine gV_iload_n (pc := 1) C dX3_isPage_1 1 rfl rfl ?_
  refine gV_callV (pc := 2) (As := [.int p]) (rest := []) C ml_X3_48 gy_X3_isProcess gv_X3_isProcess (d_isProcess _) ⟨0, 3, _, _, rfl, rfl, rfl⟩ rfl rfl ⟨by decide, by decide⟩ (Nat.le_of_ble_eq_true rfl) (by decide) (by decide) dX3_isPage_2 ?_
  rintro _ _ ⟨rfl, rfl⟩
  refine gV_if_eq (pc := 5) C 26 dX3_isPage_5 (by decide) (fun c_1 => ?_) (fun c_1 => ?_)
  · skip
    refine gV_iconst (pc := 26) (v := 0) C dX3_isPage_26 (by decide) ?_
    refine gV_zret (pc := 27) C dX3_isPage_27 (by decide) (by decide) (by decide) ?_
    exact ⟨by rw [pm_ig, if_pos c_1], rfl⟩
  · skip
    refine gV_iload_n (pc := 8) C dX3_isPage_8 2 rfl rfl ?_
    refine gV_if_lt (pc := 9) C 26 dX3_isPage_9 (by decide) (fun c_2 => ?_) (fun c_2 => ?_)
    · skip
      refine gV_iconst (pc := 26) (v := 0) C dX3_isPage_26 (by decide) ?_
      refine gV_zret (pc := 27) C dX3_isPage_27 (by decide) (by decide) (by decide) ?_
      exact ⟨by rw [pm_ig, if_neg c_1, if_pos c_2], rfl⟩
    · skip
      refine gV_iload_n (pc := 12) C dX3_isPage_12 2 rfl rfl ?_
      refine gV_aload_n (pc := 13) (x := o 0) C dX3_isPage_13 0 rfl rfl ?_
      refine mg_pages (pc := 14) C fl_X3_7 dX3_isPage_14 ?_
      refine gV_iload_n (pc := 17) C dX3_isPage_17 1 rfl rfl ?_
      refine ma_pages (pc := 18) C (pm_ip_vin c_1) dX3_isPage_18 ?_
      refine gV_icmp_ge (pc := 19) C 26 dX3_isPage_19 (by decide) (fun c_3 => ?_) (fun c_3 => ?_)
      · skip
        refine gV_iconst (pc := 26) (v := 0) C dX3_isPage_26 (by decide) ?_
        refine gV_zret (pc := 27) C dX3_isPage_27 (by decide) (by decide) (by decide) ?_
        exact ⟨by rw [pm_ig, if_neg c_1, if_neg c_2, if_pos c_3], rfl⟩
      · skip
        refine gV_iconst (pc := 22) (v := 1) C dX3_isPage_22 (by decide) ?_
        refine gV_goto (pc := 23) C 27 dX3_isPage_23 (by decide) ?_
        refine gV_zret (pc := 27) C dX3_isPage_27 (by decide) (by decide) (by decide) ?_
        exact ⟨by rw [pm_ig, if_neg c_1, if_neg c_2, if_neg c_3], rfl⟩
abbrev rm_X3_leastProcess : Room := { frames := 0, cells := 0, slots := 0, locals := 0 }
set_option maxHeartbeats 4000000 in
set_option maxRecDepth 100000 in
theorem mlp_leastProcess {X : gx_T} {D : va_G} {o : Nat → Nat} {ct : Nat → ClassId} {μ : pm_S}  (C : gC X cX3_leastProcess 2 RX3 rm_X3_leastProcess (some .int) D (gt ct) (fun v w => v = some (.int (pm_lp μ)) ∧ w = mw o ct μ)) : ∀ d i : Nat, i + d = 8 → pm_lpG μ d i = pm_lp μ → gV X 0 0 (mw o ct μ) 2 [(1, .int (nI i)), (0, .ref (o 0))] [] := by
  intro d
  induction d with
  | zero =>
    intro i hi hr
    refine gV_iload_n (pc := 2) C dX3_leastProcess_2 0 rfl rfl ?_
    refine gV_bipush (pc := 3) (v := 8) C dX3_leastProcess_3 (by decide) ?_
    refine gV_icmp_ge (pc := 5) C 25 dX3_leastProcess_5 (by decide) (fun c_1 => ?_) (fun c_1 => ?_)
    · skip
      refine gV_iconst (pc := 25) (v := (-1)) C dX3_leastProcess_25 (by decide) ?_
      refine gV_iret (pc := 26) C dX3_leastProcess_26 (by decide) (by decide) ?_
      exact ⟨by rw [← hr]; rfl, rfl⟩
    · exact absurd (nI_le (a := 8) (b := i) (by omega) (by omega)) c_1
  | succ d ih =>
    intro i hi hr
    refine gV_iload_n (pc := 2) C dX3_leastProcess_2 0 rfl rfl ?_
    refine gV_bipush (pc := 3) (v := 8) C dX3_leastProcess_3 (by decide) ?_
    refine gV_icmp_ge (pc := 5) C 25 dX3_leastProcess_5 (by decide) (fun c_1 => ?_) (fun c_1 => ?_)
    · exact absurd c_1 (nI_ge (a := i) (b := 8) (by omega) (by omega))
    · skip
      refine gV_aload_n (pc := 8) (x := o 0) C dX3_leastProcess_8 1 rfl rfl ?_
      refine mg_pages (pc := 9) C fl_X3_7 dX3_leastProcess_9 ?_
      refine gV_iload_n (pc := 12) C dX3_leastProcess_12 0 rfl rfl ?_
      refine ma_pages (pc := 13) C (vp_in_nI (by omega) (by omega)) dX3_leastProcess_13 ?_
      rw [nI_clamp (by omega)]
      refine gV_if_ne (pc := 14) C 19 dX3_leastProcess_14 (by decide) (fun c_2 => ?_) (fun c_2 => ?_)
      · skip
        refine gV_iinc (pc := 19) (v := nI (i + 1)) (lv' := [(1, .int (nI (i + 1))), (0, .ref (o 0))]) C dX3_leastProcess_19 0 rfl (nI_1 _) (by decide) rfl ?_
        refine gV_goto (pc := 22) C 2 dX3_leastProcess_22 (by decide) ?_
        refine gV_lv [0, 1] rfl ?_
        exact ih (i + 1) (by omega) (by rw [← hr, pm_lpG, if_neg c_2])
      · skip
        refine gV_iload_n (pc := 17) C dX3_leastProcess_17 0 rfl rfl ?_
        refine gV_iret (pc := 18) C dX3_leastProcess_18 (by decide) (by decide) ?_
        exact ⟨by rw [← hr, pm_lpG, if_pos c_2], rfl⟩
set_option maxHeartbeats 4000000 in
set_option maxRecDepth 100000 in
/-- leastProcess -/
theorem d_leastProcess {D : va_G} {o : Nat → Nat} {ct : Nat → ClassId} {μ : pm_S}  : gM yX3_leastProcess cX3_leastProcess 2 (some .int) rm_X3_leastProcess D (gt ct) (mw o ct μ) [.ref (o 0)] (fun v w => v = some (.int (pm_lp μ)) ∧ w = mw o ct μ) := by
  refine gM_in RX3 rfl (by decide) (Nat.le_of_ble_eq_true rfl) (fun X C => ?_)
  refine gV_iconst (pc := 0) (v := 0) C dX3_leastProcess_0 (by decide) ?_
  refine gV_istore_n (pc := 1) (lv' := [(1, .int 0), (0, .ref (o 0))]) C dX3_leastProcess_1 rfl (by decide) rfl ?_
  exact mlp_leastProcess C 8 0 rfl rfl
abbrev rm_X3_bodyIn : Room := { frames := 0, cells := 0, slots := 0, locals := 0 }
set_option maxHeartbeats 4000000 in
set_option maxRecDepth 100000 in
theorem mlp_bodyIn {X : gx_T} {D : va_G} {o : Nat → Nat} {ct : Nat → ClassId} {μ : pm_S} {f : Int32} (C : gC X cX3_bodyIn 3 RX3 rm_X3_bodyIn (some .int) D (gt ct) (fun v w => v = some (.int (pm_bi μ f)) ∧ w = mw o ct μ)) : ∀ d i : Nat, i + d = 300 → pm_biG μ f d i = pm_bi μ f → gV X 0 0 (mw o ct μ) 2 [(2, .int (nI i)), (0, .ref (o 0)), (1, .int f)] [] := by
  intro d
  induction d with
  | zero =>
    intro i hi hr
    refine gV_iload_n (pc := 2) C dX3_bodyIn_2 0 rfl rfl ?_
    refine gV_sipush (pc := 3) (v := 300) C dX3_bodyIn_3 (by decide) ?_
    refine gV_icmp_ge (pc := 6) C 36 dX3_bodyIn_6 (by decide) (fun c_1 => ?_) (fun c_1 => ?_)
    · skip
      refine gV_iconst (pc := 36) (v := (-1)) C dX3_bodyIn_36 (by decide) ?_
      refine gV_iret (pc := 37) C dX3_bodyIn_37 (by decide) (by decide) ?_
      exact ⟨by rw [← hr]; rfl, rfl⟩
    · exact absurd (nI_le (a := 300) (b := i) (by omega) (by omega)) c_1
  | succ d ih =>
    intro i hi hr
    refine gV_iload_n (pc := 2) C dX3_bodyIn_2 0 rfl rfl ?_
    refine gV_sipush (pc := 3) (v := 300) C dX3_bodyIn_3 (by decide) ?_
    refine gV_icmp_ge (pc := 6) C 36 dX3_bodyIn_6 (by decide) (fun c_1 => ?_) (fun c_1 => ?_)
    · exact absurd c_1 (nI_ge (a := i) (b := 300) (by omega) (by omega))
    · skip
      refine gV_aload_n (pc := 9) (x := o 0) C dX3_bodyIn_9 1 rfl rfl ?_
      refine mg_is (pc := 10) C fl_X3_16 dX3_bodyIn_10 ?_
      refine gV_iload_n (pc := 13) C dX3_bodyIn_13 0 rfl rfl ?_
      refine ma_is (pc := 14) C (vp_in_nI (by omega) (by omega)) dX3_bodyIn_14 ?_
      rw [nI_clamp (by omega)]
      refine gV_if_eq (pc := 15) C 30 dX3_bodyIn_15 (by decide) (fun c_2 => ?_) (fun c_2 => ?_)
      · skip
        refine gV_iinc (pc := 30) (v := nI (i + 1)) (lv' := [(2, .int (nI (i + 1))), (0, .ref (o 0)), (1, .int f)]) C dX3_bodyIn_30 0 rfl (nI_1 _) (by decide) rfl ?_
        refine gV_goto (pc := 33) C 2 dX3_bodyIn_33 (by decide) ?_
        refine gV_lv [0, 1, 2] rfl ?_
        exact ih (i + 1) (by omega) (by rw [← hr, pm_biG, if_pos c_2])
      · skip
        refine gV_aload_n (pc := 18) (x := o 0) C dX3_bodyIn_18 1 rfl rfl ?_
        refine mg_frameOf (pc := 19) C fl_X3_20 dX3_bodyIn_19 ?_
        refine gV_iload_n (pc := 22) C dX3_bodyIn_22 0 rfl rfl ?_
        refine ma_frameOf (pc := 23) C (vp_in_nI (by omega) (by omega)) dX3_bodyIn_23 ?_
        rw [nI_clamp (by omega)]
        refine gV_iload_n (pc := 24) C dX3_bodyIn_24 2 rfl rfl ?_
        refine gV_icmp_ne (pc := 25) C 30 dX3_bodyIn_25 (by decide) (fun c_3 => ?_) (fun c_3 => ?_)
        · skip
          refine gV_iinc (pc := 30) (v := nI (i + 1)) (lv' := [(2, .int (nI (i + 1))), (0, .ref (o 0)), (1, .int f)]) C dX3_bodyIn_30 0 rfl (nI_1 _) (by decide) rfl ?_
          refine gV_goto (pc := 33) C 2 dX3_bodyIn_33 (by decide) ?_
          refine gV_lv [0, 1, 2] rfl ?_
          exact ih (i + 1) (by omega) (by rw [← hr, pm_biG, if_neg c_2, if_neg c_3])
        · skip
          refine gV_iload_n (pc := 28) C dX3_bodyIn_28 0 rfl rfl ?_
          refine gV_iret (pc := 29) C dX3_bodyIn_29 (by decide) (by decide) ?_
          exact ⟨by rw [← hr, pm_biG, if_neg c_2, if_pos c_3], rfl⟩
set_option maxHeartbeats 4000000 in
set_option maxRecDepth 100000 in
/-- bodyIn -/
theorem d_bodyIn {D : va_G} {o : Nat → Nat} {ct : Nat → ClassId} {μ : pm_S} (f : Int32) : gM yX3_bodyIn cX3_bodyIn 3 (some .int) rm_X3_bodyIn D (gt ct) (mw o ct μ) [.ref (o 0), .int f] (fun v w => v = some (.int (pm_bi μ f)) ∧ w = mw o ct μ) := by
  refine gM_in RX3 rfl (by decide) (Nat.le_of_ble_eq_true rfl) (fun X C => ?_)
  refine gV_iconst (pc := 0) (v := 0) C dX3_bodyIn_0 (by decide) ?_
  refine gV_istore_n (pc := 1) (lv' := [(2, .int 0), (0, .ref (o 0)), (1, .int f)]) C dX3_bodyIn_1 rfl (by decide) rfl ?_
  exact mlp_bodyIn C 300 0 rfl rfl
abbrev rm_X3_isSectorFree : Room := { frames := 0, cells := 0, slots := 0, locals := 0 }
set_option maxHeartbeats 4000000 in
set_option maxRecDepth 100000 in
theorem mlp_isSectorFree {X : gx_T} {D : va_G} {o : Nat → Nat} {ct : Nat → ClassId} {μ : pm_S} {s : Int32} (C : gC X cX3_isSectorFree 3 RX3 rm_X3_isSectorFree (some .boolean) D (gt ct) (fun v w => v = some (.int (pm_sf μ s)) ∧ w = mw o ct μ)) : ∀ d i : Nat, i + d = 300 → pm_sfG μ s d i = pm_sf μ s → gV X 0 0 (mw o ct μ) 2 [(2, .int (nI i)), (0, .ref (o 0)), (1, .int s)] [] := by
  intro d
  induction d with
  | zero =>
    intro i hi hr
    refine gV_iload_n (pc := 2) C dX3_isSectorFree_2 0 rfl rfl ?_
    refine gV_sipush (pc := 3) (v := 300) C dX3_isSectorFree_3 (by decide) ?_
    refine gV_icmp_ge (pc := 6) C 36 dX3_isSectorFree_6 (by decide) (fun c_1 => ?_) (fun c_1 => ?_)
    · skip
      refine gV_iconst (pc := 36) (v := 1) C dX3_isSectorFree_36 (by decide) ?_
      refine gV_zret (pc := 37) C dX3_isSectorFree_37 (by decide) (by decide) (by decide) ?_
      exact ⟨by rw [← hr]; rfl, rfl⟩
    · exact absurd (nI_le (a := 300) (b := i) (by omega) (by omega)) c_1
  | succ d ih =>
    intro i hi hr
    refine gV_iload_n (pc := 2) C dX3_isSectorFree_2 0 rfl rfl ?_
    refine gV_sipush (pc := 3) (v := 300) C dX3_isSectorFree_3 (by decide) ?_
    refine gV_icmp_ge (pc := 6) C 36 dX3_isSectorFree_6 (by decide) (fun c_1 => ?_) (fun c_1 => ?_)
    · exact absurd c_1 (nI_ge (a := i) (b := 300) (by omega) (by omega))
    · skip
      refine gV_aload_n (pc := 9) (x := o 0) C dX3_isSectorFree_9 1 rfl rfl ?_
      refine mg_is (pc := 10) C fl_X3_16 dX3_isSectorFree_10 ?_
      refine gV_iload_n (pc := 13) C dX3_isSectorFree_13 0 rfl rfl ?_
      refine ma_is (pc := 14) C (vp_in_nI (by omega) (by omega)) dX3_isSectorFree_14 ?_
      rw [nI_clamp (by omega)]
      refine gV_if_eq (pc := 15) C 30 dX3_isSectorFree_15 (by decide) (fun c_2 => ?_) (fun c_2 => ?_)
      · skip
        refine gV_iinc (pc := 30) (v := nI (i + 1)) (lv' := [(2, .int (nI (i + 1))), (0, .ref (o 0)), (1, .int s)]) C dX3_isSectorFree_30 0 rfl (nI_1 _) (by decide) rfl ?_
        refine gV_goto (pc := 33) C 2 dX3_isSectorFree_33 (by decide) ?_
        refine gV_lv [0, 1, 2] rfl ?_
        exact ih (i + 1) (by omega) (by rw [← hr, pm_sfG, if_pos c_2])
      · skip
        refine gV_aload_n (pc := 18) (x := o 0) C dX3_isSectorFree_18 1 rfl rfl ?_
        refine mg_sectorOf (pc := 19) C fl_X3_23 dX3_isSectorFree_19 ?_
        refine gV_iload_n (pc := 22) C dX3_isSectorFree_22 0 rfl rfl ?_
        refine ma_sectorOf (pc := 23) C (vp_in_nI (by omega) (by omega)) dX3_isSectorFree_23 ?_
        rw [nI_clamp (by omega)]
        refine gV_iload_n (pc := 24) C dX3_isSectorFree_24 2 rfl rfl ?_
        refine gV_icmp_ne (pc := 25) C 30 dX3_isSectorFree_25 (by decide) (fun c_3 => ?_) (fun c_3 => ?_)
        · skip
          refine gV_iinc (pc := 30) (v := nI (i + 1)) (lv' := [(2, .int (nI (i + 1))), (0, .ref (o 0)), (1, .int s)]) C dX3_isSectorFree_30 0 rfl (nI_1 _) (by decide) rfl ?_
          refine gV_goto (pc := 33) C 2 dX3_isSectorFree_33 (by decide) ?_
          refine gV_lv [0, 1, 2] rfl ?_
          exact ih (i + 1) (by omega) (by rw [← hr, pm_sfG, if_neg c_2, if_neg c_3])
        · skip
          refine gV_iconst (pc := 28) (v := 0) C dX3_isSectorFree_28 (by decide) ?_
          refine gV_zret (pc := 29) C dX3_isSectorFree_29 (by decide) (by decide) (by decide) ?_
          exact ⟨by rw [← hr, pm_sfG, if_neg c_2, if_pos c_3], rfl⟩
set_option maxHeartbeats 4000000 in
set_option maxRecDepth 100000 in
/-- isSectorFree -/
theorem d_isSectorFree {D : va_G} {o : Nat → Nat} {ct : Nat → ClassId} {μ : pm_S} (s : Int32) : gM yX3_isSectorFree cX3_isSectorFree 3 (some .boolean) rm_X3_isSectorFree D (gt ct) (mw o ct μ) [.ref (o 0), .int s] (fun v w => v = some (.int (pm_sf μ s)) ∧ w = mw o ct μ) := by
  refine gM_in RX3 rfl (by decide) (Nat.le_of_ble_eq_true rfl) (fun X C => ?_)
  refine gV_iconst (pc := 0) (v := 0) C dX3_isSectorFree_0 (by decide) ?_
  refine gV_istore_n (pc := 1) (lv' := [(2, .int 0), (0, .ref (o 0)), (1, .int s)]) C dX3_isSectorFree_1 rfl (by decide) rfl ?_
  exact mlp_isSectorFree C 300 0 rfl rfl
abbrev rm_X3_freeFrames : Room := { frames := 1, cells := 0, slots := 0, locals := 22 }
set_option maxHeartbeats 4000000 in
set_option maxRecDepth 100000 in
theorem mlp_freeFrames {X : gx_T} {D : va_G} {o : Nat → Nat} {ct : Nat → ClassId} {μ : pm_S} {F : Nat} (e1 : pm_I μ 1 = nI F) (hF : F ≤ 64) (C : gC X cX3_freeFrames 3 RX3 rm_X3_freeFrames (some .int) D (gt ct) (fun v w => v = some (.int (nI (pm_ff F μ))) ∧ w = mw o ct μ)) : ∀ d i : Nat, i + d = F → gV X 0 0 (mw o ct μ) 4 [(2, .int (nI i)), (1, .int (nI (ph_cN (fun f => decide (pm_bi μ (nI f) = -1)) i))), (0, .ref (o 0))] [] := by
  intro d
  induction d with
  | zero =>
    intro i hi
    have e : i = F := by omega
    rw [e]
    refine gV_iload_n (pc := 4) C dX3_freeFrames_4 0 rfl rfl ?_
    refine gV_aload_n (pc := 5) (x := o 0) C dX3_freeFrames_5 2 rfl rfl ?_
    refine mg_frames (pc := 6) C fl_X3_38 dX3_freeFrames_6 ?_
    rw [show pm_I μ 1 = nI F from e1]
    refine gV_icmp_ge (pc := 9) C 35 dX3_freeFrames_9 (by decide) (fun c_1 => ?_) (fun c_1 => ?_)
    · skip
      refine gV_iload_n (pc := 35) C dX3_freeFrames_35 1 rfl rfl ?_
      refine gV_iret (pc := 36) C dX3_freeFrames_36 (by decide) (by decide) ?_
      exact ⟨rfl, rfl⟩
    · exact absurd (nI_le (a := F) (b := F) (by omega) (by omega)) c_1
  | succ d ih =>
    intro i hi
    refine gV_iload_n (pc := 4) C dX3_freeFrames_4 0 rfl rfl ?_
    refine gV_aload_n (pc := 5) (x := o 0) C dX3_freeFrames_5 2 rfl rfl ?_
    refine mg_frames (pc := 6) C fl_X3_38 dX3_freeFrames_6 ?_
    rw [show pm_I μ 1 = nI F from e1]
    refine gV_icmp_ge (pc := 9) C 35 dX3_freeFrames_9 (by decide) (fun c_1 => ?_) (fun c_1 => ?_)
    · exact absurd c_1 (nI_ge (a := i) (b := F) (by omega) (by omega))
    · skip
      refine gV_iload_n (pc := 12) C dX3_freeFrames_12 1 rfl rfl ?_
      refine gV_aload_n (pc := 13) (x := o 0) C dX3_freeFrames_13 2 rfl rfl ?_
      refine gV_iload_n (pc := 14) C dX3_freeFrames_14 0 rfl rfl ?_
      refine gV_callV (pc := 15) (As := [.int (nI i)]) (rest := [.int (nI (ph_cN (fun f => decide (pm_bi μ (nI f) = -1)) i))]) C ml_X3_52 gy_X3_bodyIn gv_X3_bodyIn (d_bodyIn _) ⟨0, 3, _, _, rfl, rfl, rfl⟩ rfl rfl ⟨by decide, by decide⟩ (Nat.le_of_ble_eq_true rfl) (by decide) (by decide) dX3_freeFrames_15 ?_
      rintro _ _ ⟨rfl, rfl⟩
      refine gV_iconst (pc := 18) (v := (-1)) C dX3_freeFrames_18 (by decide) ?_
      refine gV_icmp_ne (pc := 19) C 26 dX3_freeFrames_19 (by decide) (fun c_2 => ?_) (fun c_2 => ?_)
      · skip
        refine gV_iconst (pc := 26) (v := 0) C dX3_freeFrames_26 (by decide) ?_
        refine gV_iadd (pc := 27) C dX3_freeFrames_27 ?_
        refine gV_istore_n (pc := 28) (lv' := [(1, .int ((nI (ph_cN (fun f => decide (pm_bi μ (nI f) = -1)) i)) + 0)), (2, .int (nI i)), (0, .ref (o 0))]) C dX3_freeFrames_28 rfl (by decide) rfl ?_
        refine gV_iinc (pc := 29) (v := nI (i + 1)) (lv' := [(2, .int (nI (i + 1))), (1, .int ((nI (ph_cN (fun f => decide (pm_bi μ (nI f) = -1)) i)) + 0)), (0, .ref (o 0))]) C dX3_freeFrames_29 1 rfl (nI_1 _) (by decide) rfl ?_
        refine gV_goto (pc := 32) C 4 dX3_freeFrames_32 (by decide) ?_
        refine gV_lv [0, 1, 2] rfl ?_
        rw [nI_p0]
        have hh := ih (i + 1) (by omega)
        rw [ph_cN_f (f := fun f => decide (pm_bi μ (nI f) = -1)) (n := i) (by simp [c_2])] at hh
        exact hh
      · skip
        refine gV_iconst (pc := 22) (v := 1) C dX3_freeFrames_22 (by decide) ?_
        refine gV_goto (pc := 23) C 27 dX3_freeFrames_23 (by decide) ?_
        refine gV_iadd (pc := 27) C dX3_freeFrames_27 ?_
        refine gV_istore_n (pc := 28) (lv' := [(1, .int ((nI (ph_cN (fun f => decide (pm_bi μ (nI f) = -1)) i)) + 1)), (2, .int (nI i)), (0, .ref (o 0))]) C dX3_freeFrames_28 rfl (by decide) rfl ?_
        refine gV_iinc (pc := 29) (v := nI (i + 1)) (lv' := [(2, .int (nI (i + 1))), (1, .int ((nI (ph_cN (fun f => decide (pm_bi μ (nI f) = -1)) i)) + 1)), (0, .ref (o 0))]) C dX3_freeFrames_29 1 rfl (nI_1 _) (by decide) rfl ?_
        refine gV_goto (pc := 32) C 4 dX3_freeFrames_32 (by decide) ?_
        refine gV_lv [0, 1, 2] rfl ?_
        rw [nI_1]
        have hh := ih (i + 1) (by omega)
        rw [ph_cN_t (f := fun f => decide (pm_bi μ (nI f) = -1)) (n := i) (by simp [c_2])] at hh
        exact hh
set_option maxHeartbeats 4000000 in
set_option maxRecDepth 100000 in
/-- freeFrames -/
theorem d_freeFrames {D : va_G} {o : Nat → Nat} {ct : Nat → ClassId} {μ : pm_S} {F : Nat} (e1 : pm_I μ 1 = nI F) (hF : F ≤ 64) : gM yX3_freeFrames cX3_freeFrames 3 (some .int) rm_X3_freeFrames D (gt ct) (mw o ct μ) [.ref (o 0)] (fun v w => v = some (.int (nI (pm_ff F μ))) ∧ w = mw o ct μ) := by
  refine gM_in RX3 rfl (by decide) (Nat.le_of_ble_eq_true rfl) (fun X C => ?_)
  refine gV_iconst (pc := 0) (v := 0) C dX3_freeFrames_0 (by decide) ?_
  refine gV_istore_n (pc := 1) (lv' := [(1, .int 0), (0, .ref (o 0))]) C dX3_freeFrames_1 rfl (by decide) rfl ?_
  refine gV_iconst (pc := 2) (v := 0) C dX3_freeFrames_2 (by decide) ?_
  refine gV_istore_n (pc := 3) (lv' := [(2, .int 0), (1, .int 0), (0, .ref (o 0))]) C dX3_freeFrames_3 rfl (by decide) rfl ?_
  exact mlp_freeFrames e1 hF C F 0 (Nat.zero_add _)
abbrev rm_X3_freeSectors : Room := { frames := 1, cells := 0, slots := 0, locals := 22 }
set_option maxHeartbeats 4000000 in
set_option maxRecDepth 100000 in
theorem mlp_freeSectors {X : gx_T} {D : va_G} {o : Nat → Nat} {ct : Nat → ClassId} {μ : pm_S} {S : Nat} (e2 : pm_I μ 2 = nI S) (hS : S ≤ 64) (C : gC X cX3_freeSectors 3 RX3 rm_X3_freeSectors (some .int) D (gt ct) (fun v w => v = some (.int (nI (pm_fs S μ))) ∧ w = mw o ct μ)) : ∀ d i : Nat, i + d = S → gV X 0 0 (mw o ct μ) 4 [(2, .int (nI i)), (1, .int (nI (ph_cN (fun s => decide (¬ pm_sf μ (nI s) = 0)) i))), (0, .ref (o 0))] [] := by
  intro d
  induction d with
  | zero =>
    intro i hi
    have e : i = S := by omega
    rw [e]
    refine gV_iload_n (pc := 4) C dX3_freeSectors_4 0 rfl rfl ?_
    refine gV_aload_n (pc := 5) (x := o 0) C dX3_freeSectors_5 2 rfl rfl ?_
    refine mg_sectors (pc := 6) C fl_X3_42 dX3_freeSectors_6 ?_
    rw [show pm_I μ 2 = nI S from e2]
    refine gV_icmp_ge (pc := 9) C 34 dX3_freeSectors_9 (by decide) (fun c_1 => ?_) (fun c_1 => ?_)
    · skip
      refine gV_iload_n (pc := 34) C dX3_freeSectors_34 1 rfl rfl ?_
      refine gV_iret (pc := 35) C dX3_freeSectors_35 (by decide) (by decide) ?_
      exact ⟨rfl, rfl⟩
    · exact absurd (nI_le (a := S) (b := S) (by omega) (by omega)) c_1
  | succ d ih =>
    intro i hi
    refine gV_iload_n (pc := 4) C dX3_freeSectors_4 0 rfl rfl ?_
    refine gV_aload_n (pc := 5) (x := o 0) C dX3_freeSectors_5 2 rfl rfl ?_
    refine mg_sectors (pc := 6) C fl_X3_42 dX3_freeSectors_6 ?_
    rw [show pm_I μ 2 = nI S from e2]
    refine gV_icmp_ge (pc := 9) C 34 dX3_freeSectors_9 (by decide) (fun c_1 => ?_) (fun c_1 => ?_)
    · exact absurd c_1 (nI_ge (a := i) (b := S) (by omega) (by omega))
    · skip
      refine gV_iload_n (pc := 12) C dX3_freeSectors_12 1 rfl rfl ?_
      refine gV_aload_n (pc := 13) (x := o 0) C dX3_freeSectors_13 2 rfl rfl ?_
      refine gV_iload_n (pc := 14) C dX3_freeSectors_14 0 rfl rfl ?_
      refine gV_callV (pc := 15) (As := [.int (nI i)]) (rest := [.int (nI (ph_cN (fun s => decide (¬ pm_sf μ (nI s) = 0)) i))]) C ml_X3_56 gy_X3_isSectorFree gv_X3_isSectorFree (d_isSectorFree _) ⟨0, 3, _, _, rfl, rfl, rfl⟩ rfl rfl ⟨by decide, by decide⟩ (Nat.le_of_ble_eq_true rfl) (by decide) (by decide) dX3_freeSectors_15 ?_
      rintro _ _ ⟨rfl, rfl⟩
      refine gV_if_eq (pc := 18) C 25 dX3_freeSectors_18 (by decide) (fun c_2 => ?_) (fun c_2 => ?_)
      · skip
        refine gV_iconst (pc := 25) (v := 0) C dX3_freeSectors_25 (by decide) ?_
        refine gV_iadd (pc := 26) C dX3_freeSectors_26 ?_
        refine gV_istore_n (pc := 27) (lv' := [(1, .int ((nI (ph_cN (fun s => decide (¬ pm_sf μ (nI s) = 0)) i)) + 0)), (2, .int (nI i)), (0, .ref (o 0))]) C dX3_freeSectors_27 rfl (by decide) rfl ?_
        refine gV_iinc (pc := 28) (v := nI (i + 1)) (lv' := [(2, .int (nI (i + 1))), (1, .int ((nI (ph_cN (fun s => decide (¬ pm_sf μ (nI s) = 0)) i)) + 0)), (0, .ref (o 0))]) C dX3_freeSectors_28 1 rfl (nI_1 _) (by decide) rfl ?_
        refine gV_goto (pc := 31) C 4 dX3_freeSectors_31 (by decide) ?_
        refine gV_lv [0, 1, 2] rfl ?_
        rw [nI_p0]
        have hh := ih (i + 1) (by omega)
        rw [ph_cN_f (f := fun s => decide (¬ pm_sf μ (nI s) = 0)) (n := i) (by simp [c_2])] at hh
        exact hh
      · skip
        refine gV_iconst (pc := 21) (v := 1) C dX3_freeSectors_21 (by decide) ?_
        refine gV_goto (pc := 22) C 26 dX3_freeSectors_22 (by decide) ?_
        refine gV_iadd (pc := 26) C dX3_freeSectors_26 ?_
        refine gV_istore_n (pc := 27) (lv' := [(1, .int ((nI (ph_cN (fun s => decide (¬ pm_sf μ (nI s) = 0)) i)) + 1)), (2, .int (nI i)), (0, .ref (o 0))]) C dX3_freeSectors_27 rfl (by decide) rfl ?_
        refine gV_iinc (pc := 28) (v := nI (i + 1)) (lv' := [(2, .int (nI (i + 1))), (1, .int ((nI (ph_cN (fun s => decide (¬ pm_sf μ (nI s) = 0)) i)) + 1)), (0, .ref (o 0))]) C dX3_freeSectors_28 1 rfl (nI_1 _) (by decide) rfl ?_
        refine gV_goto (pc := 31) C 4 dX3_freeSectors_31 (by decide) ?_
        refine gV_lv [0, 1, 2] rfl ?_
        rw [nI_1]
        have hh := ih (i + 1) (by omega)
        rw [ph_cN_t (f := fun s => decide (¬ pm_sf μ (nI s) = 0)) (n := i) (by simp [c_2])] at hh
        exact hh
set_option maxHeartbeats 4000000 in
set_option maxRecDepth 100000 in
/-- freeSectors -/
theorem d_freeSectors {D : va_G} {o : Nat → Nat} {ct : Nat → ClassId} {μ : pm_S} {S : Nat} (e2 : pm_I μ 2 = nI S) (hS : S ≤ 64) : gM yX3_freeSectors cX3_freeSectors 3 (some .int) rm_X3_freeSectors D (gt ct) (mw o ct μ) [.ref (o 0)] (fun v w => v = some (.int (nI (pm_fs S μ))) ∧ w = mw o ct μ) := by
  refine gM_in RX3 rfl (by decide) (Nat.le_of_ble_eq_true rfl) (fun X C => ?_)
  refine gV_iconst (pc := 0) (v := 0) C dX3_freeSectors_0 (by decide) ?_
  refine gV_istore_n (pc := 1) (lv' := [(1, .int 0), (0, .ref (o 0))]) C dX3_freeSectors_1 rfl (by decide) rfl ?_
  refine gV_iconst (pc := 2) (v := 0) C dX3_freeSectors_2 (by decide) ?_
  refine gV_istore_n (pc := 3) (lv' := [(2, .int 0), (1, .int 0), (0, .ref (o 0))]) C dX3_freeSectors_3 rfl (by decide) rfl ?_
  exact mlp_freeSectors e2 hS C S 0 (Nat.zero_add _)
abbrev rm_X3_holders : Room := { frames := 0, cells := 0, slots := 0, locals := 0 }
set_option maxHeartbeats 4000000 in
set_option maxRecDepth 100000 in
theorem mlp_holders {X : gx_T} {D : va_G} {o : Nat → Nat} {ct : Nat → ClassId} {μ : pm_S} {b : Int32}  (C : gC X cX3_holders 4 RX3 rm_X3_holders (some .int) D (gt ct) (fun v w => v = some (.int (nI (pm_ho μ b))) ∧ w = mw o ct μ)) : ∀ d i : Nat, i + d = 256 → gV X 0 0 (mw o ct μ) 4 [(3, .int (nI i)), (2, .int (nI (ph_cN (fun k => decide (pm_A μ 1 k = b)) i))), (0, .ref (o 0)), (1, .int b)] [] := by
  intro d
  induction d with
  | zero =>
    intro i hi
    have e : i = 256 := by omega
    rw [e]
    refine gV_iload_n (pc := 4) C dX3_holders_4 0 rfl rfl ?_
    refine gV_sipush (pc := 5) (v := 256) C dX3_holders_5 (by decide) ?_
    refine gV_icmp_ge (pc := 8) C 35 dX3_holders_8 (by decide) (fun c_1 => ?_) (fun c_1 => ?_)
    · skip
      refine gV_iload_n (pc := 35) C dX3_holders_35 1 rfl rfl ?_
      refine gV_iret (pc := 36) C dX3_holders_36 (by decide) (by decide) ?_
      exact ⟨rfl, rfl⟩
    · exact absurd (nI_le (a := 256) (b := 256) (by omega) (by omega)) c_1
  | succ d ih =>
    intro i hi
    refine gV_iload_n (pc := 4) C dX3_holders_4 0 rfl rfl ?_
    refine gV_sipush (pc := 5) (v := 256) C dX3_holders_5 (by decide) ?_
    refine gV_icmp_ge (pc := 8) C 35 dX3_holders_8 (by decide) (fun c_1 => ?_) (fun c_1 => ?_)
    · exact absurd c_1 (nI_ge (a := i) (b := 256) (by omega) (by omega))
    · skip
      refine gV_iload_n (pc := 11) C dX3_holders_11 1 rfl rfl ?_
      refine gV_aload_n (pc := 12) (x := o 0) C dX3_holders_12 2 rfl rfl ?_
      refine mg_bodyOf (pc := 13) C fl_X3_13 dX3_holders_13 ?_
      refine gV_iload_n (pc := 16) C dX3_holders_16 0 rfl rfl ?_
      refine ma_bodyOf (pc := 17) C (vp_in_nI (by omega) (by omega)) dX3_holders_17 ?_
      rw [nI_clamp (by omega)]
      refine gV_iload_n (pc := 18) C dX3_holders_18 3 rfl rfl ?_
      refine gV_icmp_ne (pc := 19) C 26 dX3_holders_19 (by decide) (fun c_2 => ?_) (fun c_2 => ?_)
      · skip
        refine gV_iconst (pc := 26) (v := 0) C dX3_holders_26 (by decide) ?_
        refine gV_iadd (pc := 27) C dX3_holders_27 ?_
        refine gV_istore_n (pc := 28) (lv' := [(2, .int ((nI (ph_cN (fun k => decide (pm_A μ 1 k = b)) i)) + 0)), (3, .int (nI i)), (0, .ref (o 0)), (1, .int b)]) C dX3_holders_28 rfl (by decide) rfl ?_
        refine gV_iinc (pc := 29) (v := nI (i + 1)) (lv' := [(3, .int (nI (i + 1))), (2, .int ((nI (ph_cN (fun k => decide (pm_A μ 1 k = b)) i)) + 0)), (0, .ref (o 0)), (1, .int b)]) C dX3_holders_29 1 rfl (nI_1 _) (by decide) rfl ?_
        refine gV_goto (pc := 32) C 4 dX3_holders_32 (by decide) ?_
        refine gV_lv [0, 1, 2, 3] rfl ?_
        rw [nI_p0]
        have hh := ih (i + 1) (by omega)
        rw [ph_cN_f (f := fun k => decide (pm_A μ 1 k = b)) (n := i) (by simp [c_2])] at hh
        exact hh
      · skip
        refine gV_iconst (pc := 22) (v := 1) C dX3_holders_22 (by decide) ?_
        refine gV_goto (pc := 23) C 27 dX3_holders_23 (by decide) ?_
        refine gV_iadd (pc := 27) C dX3_holders_27 ?_
        refine gV_istore_n (pc := 28) (lv' := [(2, .int ((nI (ph_cN (fun k => decide (pm_A μ 1 k = b)) i)) + 1)), (3, .int (nI i)), (0, .ref (o 0)), (1, .int b)]) C dX3_holders_28 rfl (by decide) rfl ?_
        refine gV_iinc (pc := 29) (v := nI (i + 1)) (lv' := [(3, .int (nI (i + 1))), (2, .int ((nI (ph_cN (fun k => decide (pm_A μ 1 k = b)) i)) + 1)), (0, .ref (o 0)), (1, .int b)]) C dX3_holders_29 1 rfl (nI_1 _) (by decide) rfl ?_
        refine gV_goto (pc := 32) C 4 dX3_holders_32 (by decide) ?_
        refine gV_lv [0, 1, 2, 3] rfl ?_
        rw [nI_1]
        have hh := ih (i + 1) (by omega)
        rw [ph_cN_t (f := fun k => decide (pm_A μ 1 k = b)) (n := i) (by simp [c_2])] at hh
        exact hh
set_option maxHeartbeats 4000000 in
set_option maxRecDepth 100000 in
/-- holders -/
theorem d_holders {D : va_G} {o : Nat → Nat} {ct : Nat → ClassId} {μ : pm_S} (b : Int32)  : gM yX3_holders cX3_holders 4 (some .int) rm_X3_holders D (gt ct) (mw o ct μ) [.ref (o 0), .int b] (fun v w => v = some (.int (nI (pm_ho μ b))) ∧ w = mw o ct μ) := by
  refine gM_in RX3 rfl (by decide) (Nat.le_of_ble_eq_true rfl) (fun X C => ?_)
  refine gV_iconst (pc := 0) (v := 0) C dX3_holders_0 (by decide) ?_
  refine gV_istore_n (pc := 1) (lv' := [(2, .int 0), (0, .ref (o 0)), (1, .int b)]) C dX3_holders_1 rfl (by decide) rfl ?_
  refine gV_iconst (pc := 2) (v := 0) C dX3_holders_2 (by decide) ?_
  refine gV_istore_n (pc := 3) (lv' := [(3, .int 0), (2, .int 0), (0, .ref (o 0)), (1, .int b)]) C dX3_holders_3 rfl (by decide) rfl ?_
  exact mlp_holders  C 256 0 (Nat.zero_add _)
end
section
def pm_fA (μ : pm_S) (k : Nat) (f : Nat → Int32) : pm_S := (μ.1, va_up μ.2 k f)
theorem pA_fA (μ : pm_S) (k : Nat) (f : Nat → Int32) (k' j : Nat) : pm_A (pm_fA μ k f) k' j = if k' = k then f j else pm_A μ k' j := by
  simp only [pm_A, pm_fA, va_up]
  by_cases h : k' = k <;> simp [h]
theorem pI_fA (μ : pm_S) (k : Nat) (f : Nat → Int32) (k' : Nat) : pm_I (pm_fA μ k f) k' = pm_I μ k' := rfl
theorem pm_fA_self (μ : pm_S) (k : Nat) : pm_fA μ k (pm_A μ k) = μ := by
  obtain ⟨a, b⟩ := μ
  refine congrArg (fun z => (a, z)) ?_
  funext j
  simp only [va_up]
  by_cases hj : j = k
  · subst hj; simp only [if_true]; rfl
  · simp [hj]
theorem pm_sA_fA (μ : pm_S) (k : Nat) (f : Nat → Int32) (j : Nat) (v : Int32) : pm_sA (pm_fA μ k f) k j v = pm_fA μ k (va_up f j v) := by
  obtain ⟨a, b⟩ := μ
  refine congrArg (fun z => (a, z)) ?_
  funext i
  simp only [va_up, pm_fA]
  by_cases hi : i = k
  · subst hi; simp
  · simp [hi]
theorem cpy_0 (f g : Nat → Int32) (sp dp : Nat) : va_cpy f g sp dp 0 = g := by
  funext k
  unfold va_cpy
  rw [if_neg (by omega)]
theorem cpy_s (f g : Nat → Int32) (sp dp i : Nat) : va_up (va_cpy f g sp dp i) (dp + i) (f (sp + i)) = va_cpy f g sp dp (i + 1) := by
  funext k
  simp only [va_up, va_cpy]
  by_cases h : k = dp + i
  · subst h
    rw [if_pos rfl, if_pos (by omega)]
    congr 1; omega
  · rw [if_neg h]
    by_cases h2 : dp ≤ k ∧ k < dp + i
    · rw [if_pos h2, if_pos (by omega)]
    · rw [if_neg h2, if_neg (by omega)]
theorem ix16 (t i : Nat) : (16 : Int32) * nI t + nI i = nI (16 * t + i) := by
  rw [show (16 : Int32) = nI 16 from rfl, pk_mul, nI_add]
def pm_nfG (μ : pm_S) : Nat → Nat → Nat
  | 0, i => i
  | d + 1, i => if pm_A μ 2 i = 0 then i else pm_nfG μ d (i + 1)
def pm_nf (μ : pm_S) : Nat := pm_nfG μ 300 0
def pm_nb (μ : pm_S) (f : Int32) : pm_S := pm_sA (pm_sA (pm_sA (pm_sA μ 2 (pm_nf μ) 1) 3 (pm_nf μ) f) 4 (pm_nf μ) (-1)) 5 (pm_nf μ) 1
def pm_lv2 (μ : pm_S) (b : Int32) : pm_S := if nI (pm_ho μ b) = 0 then pm_sA μ 2 b.toNatClampNeg 0 else μ
def pm_lv (μ : pm_S) (k : Nat) : pm_S := if pm_A μ 1 k = -1 then pm_sA μ 1 k (-1) else pm_lv2 (pm_sA μ 1 k (-1)) (pm_A μ 1 k)
def pm_nsG (μ : pm_S) : Nat → Nat → Nat
  | 0, s => s
  | d + 1, s => if pm_sf μ (nI s) = 0 then pm_nsG μ d (s + 1) else s
def pm_ns (S : Nat) (μ : pm_S) : Nat := pm_nsG μ S 0
def pm_stT (S : Nat) (μ : pm_S) (b : Nat) : Nat := if pm_A μ 4 b = -1 then pm_ns S μ else (pm_A μ 4 b).toNatClampNeg
def pm_st1 (S : Nat) (μ : pm_S) (b : Nat) : pm_S := if pm_A μ 4 b = -1 then pm_sA μ 4 b (nI (pm_ns S μ)) else μ
def pm_st3 (μ : pm_S) (b : Nat) : pm_S := pm_sI (pm_sA μ 5 b 0) 7 (pm_I (pm_sA μ 5 b 0) 7 + 1)
def pm_st2 (μ : pm_S) (b t f : Nat) : pm_S := pm_st3 (pm_fA μ 7 (va_cpy (pm_A μ 6) (pm_A μ 7) (16 * f) (16 * t) 16)) b
def pm_st (S : Nat) (μ : pm_S) (b : Nat) : pm_S := pm_st2 (pm_st1 S μ b) b (pm_stT S μ b) (pm_A μ 3 b).toNatClampNeg
def pm_stOK (S : Nat) (μ : pm_S) (b : Nat) : Prop := (∃ f, f < 16 ∧ pm_A μ 3 b = nI f) ∧ ((pm_A μ 4 b = -1 ∧ pm_ns S μ < S ∧ ¬ pm_sf μ (nI (pm_ns S μ)) = 0) ∨ ∃ t, t < 64 ∧ pm_A μ 4 b = nI t)
theorem nI_ne_m1 {j : Nat} (h : j < 2 ^ 31) : ¬ nI j = -1 := fun e => by
  have : (nI j).toInt = (-1 : Int32).toInt := by rw [e]
  rw [nI_toInt h, show (-1 : Int32).toInt = -1 by decide] at this
  omega
def pm_tk0 (μ : pm_S) : pm_S := pm_sI μ 5 (pm_I μ 5 + 1)
def pm_frG (μ : pm_S) : Nat → Nat → Int32
  | 0, _ => -1
  | d + 1, i => if pm_bi μ (nI i) = -1 then nI i else pm_frG μ d (i + 1)
def pm_fr (F : Nat) (μ : pm_S) : Int32 := pm_frG μ F 0
def pm_hn (μ : pm_S) : Int32 := (pm_I μ 3 + 1) - (pm_I μ 3 + 1) / pm_I μ 1 * pm_I μ 1
def pm_scS (μ : pm_S) : pm_S := pm_sI μ 3 (pm_hn μ)
def pm_scG (kept : Int32) : Nat → pm_S → pm_S
  | 0, μ => μ
  | n + 1, μ => if pm_I μ 3 = kept then pm_scG kept n (pm_scS μ) else if pm_A μ 8 (pm_I μ 3).toNatClampNeg = 0 then μ else pm_scG kept n (pm_scS (pm_sA μ 8 (pm_I μ 3).toNatClampNeg 0))
def pm_scX (kept : Int32) (μ : pm_S) : Prop := ¬ pm_I μ 3 = kept ∧ pm_A μ 8 (pm_I μ 3).toNatClampNeg = 0
def pm_scT (F : Nat) (kept : Int32) (μ : pm_S) : pm_S := pm_scG kept (2 * F) (pm_tk0 μ)
def pm_tkE (F : Nat) (kept : Int32) (μ : pm_S) : pm_S := pm_scS (pm_scT F kept μ)
def pm_tkB (F : Nat) (kept : Int32) (μ : pm_S) : Nat := (pm_bi (pm_tkE F kept μ) (pm_I (pm_scT F kept μ) 3)).toNatClampNeg
def pm_tkV (S : Nat) (μ : pm_S) (b : Nat) : pm_S := if pm_A μ 5 b = 0 then pm_sA μ 3 b (-1) else pm_sA (pm_st S μ b) 3 b (-1)
def pm_tkF (F S : Nat) (kept : Int32) (μ : pm_S) : Int32 := if pm_fr F (pm_tk0 μ) = -1 then pm_I (pm_scT F kept μ) 3 else pm_fr F (pm_tk0 μ)
def pm_tkN (F S : Nat) (kept : Int32) (μ : pm_S) : Nat := (pm_tkF F S kept μ).toNatClampNeg
def pm_tkS (F S : Nat) (kept : Int32) (μ : pm_S) : pm_S := if pm_fr F (pm_tk0 μ) = -1 then pm_tkV S (pm_tkE F kept μ) (pm_tkB F kept μ) else pm_sA (pm_tk0 μ) 8 (pm_fr F (pm_tk0 μ)).toNatClampNeg 0
/-- what a taking rests on -/
def pm_tkOK (F S : Nat) (kept : Int32) (μ : pm_S) : Prop := (2 ≤ F ∧ F ≤ 16 ∧ S ≤ 64) ∧ pm_I μ 1 = nI F ∧ (∃ h, h < F ∧ pm_I μ 3 = nI h) ∧
  (pm_fr F (pm_tk0 μ) = -1 → pm_scX kept (pm_scT F kept μ) ∧ (∃ b, b < 300 ∧ pm_bi (pm_tkE F kept μ) (pm_I (pm_scT F kept μ) 3) = nI b ∧ (¬ pm_A (pm_tkE F kept μ) 5 b = 0 → pm_stOK S (pm_tkE F kept μ) b)))
def pm_hd (F : Nat) (μ : pm_S) : Prop := pm_I μ 1 = nI F ∧ ∃ h, h < F ∧ pm_I μ 3 = nI h
theorem hn_in {F : Nat} {μ : pm_S} (h1 : 2 ≤ F) (h2 : F ≤ 16) (h : pm_hd F μ) : ∃ j, j < F ∧ pm_hn μ = nI j := by
  obtain ⟨e, j, hj, ej⟩ := h
  unfold pm_hn
  rw [e, ej, nI_1, pk_rem (by omega) (by omega) (by omega)]
  exact ⟨(j + 1) % F, Nat.mod_lt _ (by omega), rfl⟩
theorem hd_scS {F : Nat} {μ : pm_S} (h1 : 2 ≤ F) (h2 : F ≤ 16) (h : pm_hd F μ) : pm_hd F (pm_scS μ) := ⟨h.1, hn_in h1 h2 h⟩
theorem hd_us {F : Nat} {μ : pm_S} (h : pm_hd F μ) (j : Nat) (v : Int32) : pm_hd F (pm_sA μ 8 j v) := h
theorem hd_scG {F : Nat} {kept : Int32} (h1 : 2 ≤ F) (h2 : F ≤ 16) : ∀ (n : Nat) {μ : pm_S}, pm_hd F μ → pm_hd F (pm_scG kept n μ)
  | 0, _, h => h
  | n + 1, μ, h => by
    unfold pm_scG; split
    · exact hd_scG h1 h2 n (hd_scS h1 h2 h)
    · split
      · exact h
      · exact hd_scG h1 h2 n (hd_scS h1 h2 (hd_us h _ _))
theorem hd_scT {F S : Nat} {kept : Int32} {μ : pm_S} (h : pm_tkOK F S kept μ) : pm_hd F (pm_scT F kept μ) := hd_scG h.1.1 h.1.2.1 _ ⟨h.2.1, h.2.2.1⟩
theorem frG_in (μ : pm_S) : ∀ d i, pm_frG μ d i = -1 ∨ ∃ j, j < i + d ∧ pm_frG μ d i = nI j
  | 0, _ => Or.inl rfl
  | d + 1, i => by
    unfold pm_frG; split
    · exact Or.inr ⟨i, by omega, rfl⟩
    · rcases frG_in μ d (i + 1) with h | ⟨j, hj, h⟩
      · exact Or.inl h
      · exact Or.inr ⟨j, by omega, h⟩
theorem mtkF_in {F S : Nat} {kept : Int32} {μ : pm_S} (h : pm_tkOK F S kept μ) : ∃ j, j < F ∧ pm_tkF F S kept μ = nI j := by
  unfold pm_tkF; split
  · exact (hd_scT h).2
  · rename_i hh
    rcases frG_in (pm_tk0 μ) F 0 with h1 | h1
    · exact absurd h1 hh
    · rw [Nat.zero_add] at h1; exact h1
theorem mtkN_lt {F S : Nat} {kept : Int32} {μ : pm_S} (h : pm_tkOK F S kept μ) : pm_tkN F S kept μ < F := by
  obtain ⟨j, hj, e⟩ := mtkF_in h
  have := h.1.2.1
  unfold pm_tkN
  rw [e, nI_clamp (by omega)]; exact hj
theorem mtkN_eq {F S : Nat} {kept : Int32} {μ : pm_S} (h : pm_tkOK F S kept μ) : nI (pm_tkN F S kept μ) = pm_tkF F S kept μ := by
  obtain ⟨j, hj, e⟩ := mtkF_in h
  have := h.1.2.1
  unfold pm_tkN
  rw [e, nI_clamp (by omega)]
def pm_br2 (μ : pm_S) (b f : Nat) : pm_S := pm_sI (pm_sA (pm_sA μ 3 b (nI f)) 5 b 0) 6 (pm_I (pm_sA (pm_sA μ 3 b (nI f)) 5 b 0) 6 + 1)
def pm_br1 (μ : pm_S) (b f t : Nat) : pm_S := pm_br2 (pm_fA μ 6 (va_cpy (pm_A μ 7) (pm_A μ 6) (16 * t) (16 * f) 16)) b f
def pm_br (F S : Nat) (μ : pm_S) (b : Nat) : pm_S := pm_br1 (pm_tkS F S (-1) μ) b (pm_tkN F S (-1) μ) (pm_A (pm_tkS F S (-1) μ) 4 b).toNatClampNeg
def pm_brOK (F S : Nat) (μ : pm_S) (b : Nat) : Prop := pm_tkOK F S (-1) μ ∧ ∃ t, t < 64 ∧ pm_A (pm_tkS F S (-1) μ) 4 b = nI t
abbrev rm_X3_newBody : Room := { frames := 0, cells := 0, slots := 0, locals := 0 }
set_option maxHeartbeats 4000000 in
set_option maxRecDepth 100000 in
theorem mlp_newBody {X : gx_T} {D : va_G} {o : Nat → Nat} {ct : Nat → ClassId} {μ : pm_S} {f : Int32} (hn : pm_nf μ < 300) (C : gC X cX3_newBody 3 RX3 rm_X3_newBody (some .int) D (gt ct) (fun v w => v = some (.int (nI (pm_nf μ))) ∧ w = mw o ct (pm_nb μ f))) : ∀ d i : Nat, i + d = 300 → pm_nfG μ d i = pm_nf μ → gV X 0 0 (mw o ct μ) 2 [(2, .int (nI i)), (0, .ref (o 0)), (1, .int f)] [] := by
  intro d
  induction d with
  | zero =>
    intro i hi hr
    have e : i = pm_nf μ := hr
    exact absurd hn (by omega)
  | succ d ih =>
    intro i hi hr
    refine gV_aload_n (pc := 2) (x := o 0) C dX3_newBody_2 1 rfl rfl ?_
    refine mg_is (pc := 3) C fl_X3_16 dX3_newBody_3 ?_
    refine gV_iload_n (pc := 6) C dX3_newBody_6 0 rfl rfl ?_
    refine ma_is (pc := 7) C (vp_in_nI (by omega) (by omega)) dX3_newBody_7 ?_
    rw [nI_clamp (by omega)]
    refine gV_if_eq (pc := 8) C 17 dX3_newBody_8 (by decide) (fun c_1 => ?_) (fun c_1 => ?_)
    · skip
      have e : i = pm_nf μ := by rw [← hr, pm_nfG, if_pos c_1]
      refine gV_aload_n (pc := 17) (x := o 0) C dX3_newBody_17 1 rfl rfl ?_
      refine mg_is (pc := 18) C fl_X3_16 dX3_newBody_18 ?_
      refine gV_iload_n (pc := 21) C dX3_newBody_21 0 rfl rfl ?_
      refine gV_iconst (pc := 22) (v := 1) C dX3_newBody_22 (by decide) ?_
      refine ms_is (pc := 23) C (vp_in_nI (by omega) (by omega)) (by decide) dX3_newBody_23 ?_
      rw [nI_clamp (by omega)]
      refine gV_aload_n (pc := 24) (x := o 0) C dX3_newBody_24 1 rfl rfl ?_
      refine mg_frameOf (pc := 25) C fl_X3_20 dX3_newBody_25 ?_
      refine gV_iload_n (pc := 28) C dX3_newBody_28 0 rfl rfl ?_
      refine gV_iload_n (pc := 29) C dX3_newBody_29 2 rfl rfl ?_
      refine ms_frameOf (pc := 30) C (vp_in_nI (by omega) (by omega)) dX3_newBody_30 ?_
      rw [nI_clamp (by omega)]
      refine gV_aload_n (pc := 31) (x := o 0) C dX3_newBody_31 1 rfl rfl ?_
      refine mg_sectorOf (pc := 32) C fl_X3_23 dX3_newBody_32 ?_
      refine gV_iload_n (pc := 35) C dX3_newBody_35 0 rfl rfl ?_
      refine gV_iconst (pc := 36) (v := (-1)) C dX3_newBody_36 (by decide) ?_
      refine ms_sectorOf (pc := 37) C (vp_in_nI (by omega) (by omega)) dX3_newBody_37 ?_
      rw [nI_clamp (by omega)]
      refine gV_aload_n (pc := 38) (x := o 0) C dX3_newBody_38 1 rfl rfl ?_
      refine mg_dirty (pc := 39) C fl_X3_26 dX3_newBody_39 ?_
      refine gV_iload_n (pc := 42) C dX3_newBody_42 0 rfl rfl ?_
      refine gV_iconst (pc := 43) (v := 1) C dX3_newBody_43 (by decide) ?_
      refine ms_dirty (pc := 44) C (vp_in_nI (by omega) (by omega)) (by decide) dX3_newBody_44 ?_
      rw [nI_clamp (by omega)]
      refine gV_iload_n (pc := 45) C dX3_newBody_45 0 rfl rfl ?_
      refine gV_iret (pc := 46) C dX3_newBody_46 (by decide) (by decide) ?_
      exact ⟨by rw [e], by rw [pm_nb, ← e]⟩
    · skip
      refine gV_iinc (pc := 11) (v := nI (i + 1)) (lv' := [(2, .int (nI (i + 1))), (0, .ref (o 0)), (1, .int f)]) C dX3_newBody_11 0 rfl (nI_1 _) (by decide) rfl ?_
      refine gV_goto (pc := 14) C 2 dX3_newBody_14 (by decide) ?_
      exact ih (i + 1) (by omega) (by rw [← hr, pm_nfG, if_neg c_1])
set_option maxHeartbeats 4000000 in
set_option maxRecDepth 100000 in
/-- newBody -/
theorem d_newBody {D : va_G} {o : Nat → Nat} {ct : Nat → ClassId} {μ : pm_S} {f : Int32} (hn : pm_nf μ < 300) : gM yX3_newBody cX3_newBody 3 (some .int) rm_X3_newBody D (gt ct) (mw o ct μ) [.ref (o 0), .int f] (fun v w => v = some (.int (nI (pm_nf μ))) ∧ w = mw o ct (pm_nb μ f)) := by
  refine gM_in RX3 rfl (by decide) (Nat.le_of_ble_eq_true rfl) (fun X C => ?_)
  refine gV_iconst (pc := 0) (v := 0) C dX3_newBody_0 (by decide) ?_
  refine gV_istore_n (pc := 1) (lv' := [(2, .int 0), (0, .ref (o 0)), (1, .int f)]) C dX3_newBody_1 rfl (by decide) rfl ?_
  exact mlp_newBody hn C 300 0 rfl rfl
abbrev rm_X3_leave : Room := { frames := 1, cells := 0, slots := 0, locals := 23 }
set_option maxHeartbeats 4000000 in
set_option maxRecDepth 100000 in
/-- leave -/
theorem d_leave {D : va_G} {o : Nat → Nat} {ct : Nat → ClassId} {μ : pm_S} {k : Nat} (hk : k < 256) (hb : pm_A μ 1 k = -1 ∨ ∃ b, b < 300 ∧ pm_A μ 1 k = nI b) : gM yX3_leave cX3_leave 3 none rm_X3_leave D (gt ct) (mw o ct μ) [.ref (o 0), .int (nI k)] (fun v w => v = none ∧ w = mw o ct (pm_lv μ k)) := by
  refine gM_in RX3 rfl (by decide) (Nat.le_of_ble_eq_true rfl) (fun X C => ?_)
  refine gV_aload_n (pc := 0) (x := o 0) C dX3_leave_0 0 rfl rfl ?_
  refine mg_bodyOf (pc := 1) C fl_X3_13 dX3_leave_1 ?_
  refine gV_iload_n (pc := 4) C dX3_leave_4 1 rfl rfl ?_
  refine ma_bodyOf (pc := 5) C (vp_in_nI (by omega) (by omega)) dX3_leave_5 ?_
  rw [nI_clamp (by omega)]
  refine gV_istore_n (pc := 6) (lv' := [(2, .int (pm_A μ 1 k)), (0, .ref (o 0)), (1, .int (nI k))]) C dX3_leave_6 rfl (by decide) rfl ?_
  refine gV_aload_n (pc := 7) (x := o 0) C dX3_leave_7 1 rfl rfl ?_
  refine mg_bodyOf (pc := 8) C fl_X3_13 dX3_leave_8 ?_
  refine gV_iload_n (pc := 11) C dX3_leave_11 2 rfl rfl ?_
  refine gV_iconst (pc := 12) (v := (-1)) C dX3_leave_12 (by decide) ?_
  refine ms_bodyOf (pc := 13) C (vp_in_nI (by omega) (by omega)) dX3_leave_13 ?_
  rw [nI_clamp (by omega)]
  refine gV_iload_n (pc := 14) C dX3_leave_14 0 rfl rfl ?_
  refine gV_iconst (pc := 15) (v := (-1)) C dX3_leave_15 (by decide) ?_
  refine gV_icmp_eq (pc := 16) C 34 dX3_leave_16 (by decide) (fun c_1 => ?_) (fun c_1 => ?_)
  · skip
    refine gV_vret (pc := 34) C dX3_leave_34 (by decide) (by decide) ?_
    exact ⟨rfl, by rw [pm_lv, if_pos c_1]⟩
  · skip
    refine gV_aload_n (pc := 19) (x := o 0) C dX3_leave_19 1 rfl rfl ?_
    refine gV_iload_n (pc := 20) C dX3_leave_20 0 rfl rfl ?_
    refine gV_callV (pc := 21) (As := [.int (pm_A μ 1 k)]) (rest := []) C ml_X3_59 gy_X3_holders gv_X3_holders (d_holders _) ⟨0, 3, _, _, rfl, rfl, rfl⟩ rfl rfl ⟨by decide, by decide⟩ (Nat.le_of_ble_eq_true rfl) (by decide) (by decide) dX3_leave_21 ?_
    rintro _ _ ⟨rfl, rfl⟩
    refine gV_if_ne (pc := 24) C 34 dX3_leave_24 (by decide) (fun c_2 => ?_) (fun c_2 => ?_)
    · skip
      refine gV_vret (pc := 34) C dX3_leave_34 (by decide) (by decide) ?_
      exact ⟨rfl, by rw [pm_lv, if_neg c_1, pm_lv2, if_neg c_2]⟩
    · skip
      refine gV_aload_n (pc := 27) (x := o 0) C dX3_leave_27 1 rfl rfl ?_
      refine mg_is (pc := 28) C fl_X3_16 dX3_leave_28 ?_
      refine gV_iload_n (pc := 31) C dX3_leave_31 0 rfl rfl ?_
      refine gV_iconst (pc := 32) (v := 0) C dX3_leave_32 (by decide) ?_
      refine ms_is (pc := 33) C (by rcases hb with h | ⟨z, hz, e⟩; exact absurd h c_1; rw [e]; exact vp_in_nI hz (by omega)) (by decide) dX3_leave_33 ?_
      refine gV_vret (pc := 34) C dX3_leave_34 (by decide) (by decide) ?_
      exact ⟨rfl, by rw [pm_lv, if_neg c_1, pm_lv2, if_pos c_2]⟩
abbrev rm_X3_store : Room := { frames := 1, cells := 0, slots := 0, locals := 22 }
set_option maxHeartbeats 4000000 in
set_option maxRecDepth 100000 in
theorem mlp_store2 {X : gx_T} {D : va_G} {o : Nat → Nat} {ct : Nat → ClassId} {μ : pm_S} {S b t f : Nat} {z : Int32} {τ : pm_S} (hb : b < 300) (ht : t < 64) (hf : f < 16) (h4 : pm_A τ 4 b = nI t) (h3 : pm_A τ 3 b = nI f) (hfin : pm_st2 τ b t f = pm_st S μ b) (C : gC X cX3_store 4 RX3 rm_X3_store none D (gt ct) (fun v w => v = none ∧ w = mw o ct (pm_st S μ b))) : ∀ d i : Nat, i + d = 16 → gV X 0 0 (mw o ct (pm_fA τ 7 (va_cpy (pm_A τ 6) (pm_A τ 7) (16 * f) (16 * t) i))) 45 [(3, .int (nI i)), (2, .int z), (0, .ref (o 0)), (1, .int (nI b))] [] := by
  intro d
  induction d with
  | zero =>
    intro i hi
    have e : i = 16 := by omega
    rw [e]
    refine gV_iload_n (pc := 45) C dX3_store_45 0 rfl rfl ?_
    refine gV_bipush (pc := 46) (v := 16) C dX3_store_46 (by decide) ?_
    refine gV_icmp_ge (pc := 48) C 89 dX3_store_48 (by decide) (fun c_1 => ?_) (fun c_1 => ?_)
    · skip
      refine gV_aload_n (pc := 89) (x := o 0) C dX3_store_89 2 rfl rfl ?_
      refine mg_dirty (pc := 90) C fl_X3_26 dX3_store_90 ?_
      refine gV_iload_n (pc := 93) C dX3_store_93 3 rfl rfl ?_
      refine gV_iconst (pc := 94) (v := 0) C dX3_store_94 (by decide) ?_
      refine ms_dirty (pc := 95) C (vp_in_nI (by omega) (by omega)) (by decide) dX3_store_95 ?_
      rw [nI_clamp (by omega)]
      refine gV_aload_n (pc := 96) (x := o 0) C dX3_store_96 2 rfl rfl ?_
      refine gV_dup (pc := 97) C dX3_store_97 rfl ?_
      refine mg_stores (pc := 98) C fl_X3_62 dX3_store_98 ?_
      refine gV_iconst (pc := 101) (v := 1) C dX3_store_101 (by decide) ?_
      refine gV_iadd (pc := 102) C dX3_store_102 ?_
      refine mp_stores (pc := 103) C fl_X3_62 dX3_store_103 ?_
      refine gV_vret (pc := 106) C dX3_store_106 (by decide) (by decide) ?_
      exact ⟨rfl, by rw [← hfin]; rfl⟩
    · exact absurd (by decide) c_1
  | succ d ih =>
    intro i hi
    refine gV_iload_n (pc := 45) C dX3_store_45 0 rfl rfl ?_
    refine gV_bipush (pc := 46) (v := 16) C dX3_store_46 (by decide) ?_
    refine gV_icmp_ge (pc := 48) C 89 dX3_store_48 (by decide) (fun c_1 => ?_) (fun c_1 => ?_)
    · exact absurd c_1 (nI_ge (a := i) (b := 16) (by omega) (by omega))
    · skip
      refine gV_aload_n (pc := 51) (x := o 0) C dX3_store_51 2 rfl rfl ?_
      refine mg_inSector (pc := 52) C fl_X3_32 dX3_store_52 ?_
      refine gV_bipush (pc := 55) (v := 16) C dX3_store_55 (by decide) ?_
      refine gV_aload_n (pc := 57) (x := o 0) C dX3_store_57 2 rfl rfl ?_
      refine mg_sectorOf (pc := 58) C fl_X3_23 dX3_store_58 ?_
      refine gV_iload_n (pc := 61) C dX3_store_61 3 rfl rfl ?_
      refine ma_sectorOf (pc := 62) C (vp_in_nI (by omega) (by omega)) dX3_store_62 ?_
      rw [nI_clamp (by omega)]
      rw [show pm_A (pm_fA τ 7 (va_cpy (pm_A τ 6) (pm_A τ 7) (16 * f) (16 * t) i)) 4 b = nI t from h4]
      refine gV_imul (pc := 63) C dX3_store_63 ?_
      refine gV_iload_n (pc := 64) C dX3_store_64 0 rfl rfl ?_
      refine gV_iadd (pc := 65) C dX3_store_65 ?_
      rw [show (16 * (nI t)) + (nI i) = nI (16 * t + i) from ix16 _ _]
      refine gV_aload_n (pc := 66) (x := o 0) C dX3_store_66 2 rfl rfl ?_
      refine mg_inFrame (pc := 67) C fl_X3_29 dX3_store_67 ?_
      refine gV_bipush (pc := 70) (v := 16) C dX3_store_70 (by decide) ?_
      refine gV_aload_n (pc := 72) (x := o 0) C dX3_store_72 2 rfl rfl ?_
      refine mg_frameOf (pc := 73) C fl_X3_20 dX3_store_73 ?_
      refine gV_iload_n (pc := 76) C dX3_store_76 3 rfl rfl ?_
      refine ma_frameOf (pc := 77) C (vp_in_nI (by omega) (by omega)) dX3_store_77 ?_
      rw [nI_clamp (by omega)]
      rw [show pm_A (pm_fA τ 7 (va_cpy (pm_A τ 6) (pm_A τ 7) (16 * f) (16 * t) i)) 3 b = nI f from h3]
      refine gV_imul (pc := 78) C dX3_store_78 ?_
      refine gV_iload_n (pc := 79) C dX3_store_79 0 rfl rfl ?_
      refine gV_iadd (pc := 80) C dX3_store_80 ?_
      rw [show (16 * (nI f)) + (nI i) = nI (16 * f + i) from ix16 _ _]
      refine ma_inFrame (pc := 81) C (vp_in_nI (by omega) (by omega)) dX3_store_81 ?_
      rw [nI_clamp (by omega)]
      rw [show pm_A (pm_fA τ 7 (va_cpy (pm_A τ 6) (pm_A τ 7) (16 * f) (16 * t) i)) 6 (16 * f + i) = pm_A τ 6 (16 * f + i) from rfl]
      refine ms_inSector (pc := 82) C (vp_in_nI (by omega) (by omega)) dX3_store_82 ?_
      rw [nI_clamp (by omega)]
      refine gV_iinc (pc := 83) (v := nI (i + 1)) (lv' := [(3, .int (nI (i + 1))), (2, .int z), (0, .ref (o 0)), (1, .int (nI b))]) C dX3_store_83 0 rfl (nI_1 _) (by decide) rfl ?_
      refine gV_goto (pc := 86) C 45 dX3_store_86 (by decide) ?_
      rw [pm_sA_fA, cpy_s]
      exact ih (i + 1) (by omega)
set_option maxHeartbeats 4000000 in
set_option maxRecDepth 100000 in
theorem mlp_store1 {X : gx_T} {D : va_G} {o : Nat → Nat} {ct : Nat → ClassId} {μ : pm_S} {S b f : Nat} (hb : b < 300) (hS : S ≤ 64) (hf : f < 16) (h3 : pm_A μ 3 b = nI f) (h4 : pm_A μ 4 b = -1) (hn : pm_ns S μ < S) (C : gC X cX3_store 4 RX3 rm_X3_store none D (gt ct) (fun v w => v = none ∧ w = mw o ct (pm_st S μ b))) : ∀ d s : Nat, s + d = S → pm_nsG μ d s = pm_ns S μ → gV X 0 0 (mw o ct μ) 2 [(2, .int (nI s)), (0, .ref (o 0)), (1, .int (nI b))] [] := by
  intro d
  induction d with
  | zero =>
    intro s hi hr
    have e : s = pm_ns S μ := hr
    exact absurd hn (by omega)
  | succ d ih =>
    intro s hi hr
    refine gV_aload_n (pc := 2) (x := o 0) C dX3_store_2 1 rfl rfl ?_
    refine mg_sectorOf (pc := 3) C fl_X3_23 dX3_store_3 ?_
    refine gV_iload_n (pc := 6) C dX3_store_6 2 rfl rfl ?_
    refine ma_sectorOf (pc := 7) C (vp_in_nI (by omega) (by omega)) dX3_store_7 ?_
    rw [nI_clamp (by omega)]
    refine gV_iconst (pc := 8) (v := (-1)) C dX3_store_8 (by decide) ?_
    refine gV_icmp_ne (pc := 9) C 26 dX3_store_9 (by decide) (fun c_1 => ?_) (fun c_1 => ?_)
    · exact absurd h4 c_1
    · skip
      refine gV_aload_n (pc := 12) (x := o 0) C dX3_store_12 1 rfl rfl ?_
      refine gV_iload_n (pc := 13) C dX3_store_13 0 rfl rfl ?_
      refine gV_callV (pc := 14) (As := [.int (nI s)]) (rest := []) C ml_X3_56 gy_X3_isSectorFree gv_X3_isSectorFree (d_isSectorFree _) ⟨0, 3, _, _, rfl, rfl, rfl⟩ rfl rfl ⟨by decide, by decide⟩ (Nat.le_of_ble_eq_true rfl) (by decide) (by decide) dX3_store_14 ?_
      rintro _ _ ⟨rfl, rfl⟩
      refine gV_if_ne (pc := 17) C 26 dX3_store_17 (by decide) (fun c_2 => ?_) (fun c_2 => ?_)
      · skip
        have e : s = pm_ns S μ := by rw [← hr, pm_nsG, if_neg c_2]
        refine gV_aload_n (pc := 26) (x := o 0) C dX3_store_26 1 rfl rfl ?_
        refine mg_sectorOf (pc := 27) C fl_X3_23 dX3_store_27 ?_
        refine gV_iload_n (pc := 30) C dX3_store_30 2 rfl rfl ?_
        refine ma_sectorOf (pc := 31) C (vp_in_nI (by omega) (by omega)) dX3_store_31 ?_
        rw [nI_clamp (by omega)]
        refine gV_iconst (pc := 32) (v := (-1)) C dX3_store_32 (by decide) ?_
        refine gV_icmp_ne (pc := 33) C 43 dX3_store_33 (by decide) (fun c_3 => ?_) (fun c_3 => ?_)
        · exact absurd h4 c_3
        · skip
          refine gV_aload_n (pc := 36) (x := o 0) C dX3_store_36 1 rfl rfl ?_
          refine mg_sectorOf (pc := 37) C fl_X3_23 dX3_store_37 ?_
          refine gV_iload_n (pc := 40) C dX3_store_40 2 rfl rfl ?_
          refine gV_iload_n (pc := 41) C dX3_store_41 0 rfl rfl ?_
          refine ms_sectorOf (pc := 42) C (vp_in_nI (by omega) (by omega)) dX3_store_42 ?_
          rw [nI_clamp (by omega)]
          refine gV_iconst (pc := 43) (v := 0) C dX3_store_43 (by decide) ?_
          refine gV_istore_n (pc := 44) (lv' := [(3, .int 0), (2, .int (nI s)), (0, .ref (o 0)), (1, .int (nI b))]) C dX3_store_44 rfl (by decide) rfl ?_
          refine gV_ws (congrArg (mw o ct) (show _ = pm_fA (pm_sA μ 4 b (nI s)) 7 (va_cpy (pm_A (pm_sA μ 4 b (nI s)) 6) (pm_A (pm_sA μ 4 b (nI s)) 7) (16 * f) (16 * s) 0) by rw [cpy_0, pm_fA_self])) ?_
          exact mlp_store2 (τ := pm_sA μ 4 b (nI s)) (t := s) (f := f) hb (by omega) hf (by rw [pA_sA, if_pos ⟨rfl, rfl⟩]) h3 (by rw [pm_st, pm_st1, if_pos h4, pm_stT, if_pos h4, ← e, h3, nI_clamp (by omega)]) C 16 0 rfl
      · skip
        refine gV_iinc (pc := 20) (v := nI (s + 1)) (lv' := [(2, .int (nI (s + 1))), (0, .ref (o 0)), (1, .int (nI b))]) C dX3_store_20 0 rfl (nI_1 _) (by decide) rfl ?_
        refine gV_goto (pc := 23) C 2 dX3_store_23 (by decide) ?_
        exact ih (s + 1) (by omega) (by rw [← hr, pm_nsG, if_pos c_2])
set_option maxHeartbeats 4000000 in
set_option maxRecDepth 100000 in
/-- store -/
theorem d_store {D : va_G} {o : Nat → Nat} {ct : Nat → ClassId} {μ : pm_S} {S b : Nat} (hb : b < 300) (hS : S ≤ 64) (h : pm_stOK S μ b) : gM yX3_store cX3_store 4 none rm_X3_store D (gt ct) (mw o ct μ) [.ref (o 0), .int (nI b)] (fun v w => v = none ∧ w = mw o ct (pm_st S μ b)) := by
  obtain ⟨⟨f, hf, h3⟩, h⟩ := h
  refine gM_in RX3 rfl (by decide) (Nat.le_of_ble_eq_true rfl) (fun X C => ?_)
  rcases h with ⟨h4, hn, -⟩ | ⟨t, ht, h4⟩
  · skip
    refine gV_iconst (pc := 0) (v := 0) C dX3_store_0 (by decide) ?_
    refine gV_istore_n (pc := 1) (lv' := [(2, .int 0), (0, .ref (o 0)), (1, .int (nI b))]) C dX3_store_1 rfl (by decide) rfl ?_
    exact mlp_store1 hb hS hf h3 h4 hn C S 0 (Nat.zero_add _) rfl
  · have hne : ¬ pm_A μ 4 b = -1 := by rw [h4]; exact nI_ne_m1 (by omega)
    refine gV_iconst (pc := 0) (v := 0) C dX3_store_0 (by decide) ?_
    refine gV_istore_n (pc := 1) (lv' := [(2, .int 0), (0, .ref (o 0)), (1, .int (nI b))]) C dX3_store_1 rfl (by decide) rfl ?_
    refine gV_aload_n (pc := 2) (x := o 0) C dX3_store_2 1 rfl rfl ?_
    refine mg_sectorOf (pc := 3) C fl_X3_23 dX3_store_3 ?_
    refine gV_iload_n (pc := 6) C dX3_store_6 2 rfl rfl ?_
    refine ma_sectorOf (pc := 7) C (vp_in_nI (by omega) (by omega)) dX3_store_7 ?_
    rw [nI_clamp (by omega)]
    refine gV_iconst (pc := 8) (v := (-1)) C dX3_store_8 (by decide) ?_
    refine gV_icmp_ne (pc := 9) C 26 dX3_store_9 (by decide) (fun c_1 => ?_) (fun c_1 => ?_)
    · skip
      refine gV_aload_n (pc := 26) (x := o 0) C dX3_store_26 1 rfl rfl ?_
      refine mg_sectorOf (pc := 27) C fl_X3_23 dX3_store_27 ?_
      refine gV_iload_n (pc := 30) C dX3_store_30 2 rfl rfl ?_
      refine ma_sectorOf (pc := 31) C (vp_in_nI (by omega) (by omega)) dX3_store_31 ?_
      rw [nI_clamp (by omega)]
      refine gV_iconst (pc := 32) (v := (-1)) C dX3_store_32 (by decide) ?_
      refine gV_icmp_ne (pc := 33) C 43 dX3_store_33 (by decide) (fun c_2 => ?_) (fun c_2 => ?_)
      · skip
        refine gV_iconst (pc := 43) (v := 0) C dX3_store_43 (by decide) ?_
        refine gV_istore_n (pc := 44) (lv' := [(3, .int 0), (2, .int 0), (0, .ref (o 0)), (1, .int (nI b))]) C dX3_store_44 rfl (by decide) rfl ?_
        refine gV_ws (congrArg (mw o ct) (show μ = pm_fA μ 7 (va_cpy (pm_A μ 6) (pm_A μ 7) (16 * f) (16 * t) 0) by rw [cpy_0, pm_fA_self])) ?_
        exact mlp_store2 hb ht hf h4 h3 (by rw [pm_st, pm_st1, if_neg hne, pm_stT, if_neg hne, h4, h3, nI_clamp (by omega), nI_clamp (by omega)]) C 16 0 rfl
      · exact absurd c_2 hne
    · exact absurd c_1 hne
abbrev rm_X3_take : Room := { frames := 2, cells := 0, slots := 0, locals := 45 }
set_option maxHeartbeats 4000000 in
set_option maxRecDepth 100000 in
theorem mlp_take2 {X : gx_T} {D : va_G} {o : Nat → Nat} {ct : Nat → ClassId} {μ : pm_S} {F S : Nat} {kept z : Int32} (hok : pm_tkOK F S kept μ) (hfr : pm_fr F (pm_tk0 μ) = -1) (C : gC X cX3_take 4 RX3 rm_X3_take (some .int) D (gt ct) (fun v w => v = some (.int (nI (pm_tkN F S kept μ))) ∧ w = mw o ct (pm_tkS F S kept μ))) : ∀ (n : Nat) (τ : pm_S), pm_hd F τ → pm_scG kept n τ = pm_scT F kept μ → gV X 0 0 (mw o ct τ) 44 [(2, .int z), (0, .ref (o 0)), (1, .int kept)] [] := by
  obtain ⟨⟨hF2, hF16, hS64⟩, -, -, hx⟩ := id hok
  obtain ⟨⟨hx1, hx2⟩, b, hb, eb, hst⟩ := hx hfr
  have hneF : ¬ nI F = 0 := nI_ne0 (by omega) (by omega)
  intro n
  induction n with
  | zero =>
    intro τ hd hr
    have e : τ = pm_scT F kept μ := hr
    have eb2 := eb
    rw [pm_tkE] at eb2
    obtain ⟨e1, h, hh, eh⟩ := id hd
    have hin : vp_in (pm_I τ 3) 16 := by rw [eh]; exact vp_in_nI (by omega) (by omega)
    have hx1' : ¬ pm_I τ 3 = kept := by rw [e]; exact hx1
    have hx2' : pm_A τ 8 (pm_I τ 3).toNatClampNeg = 0 := by rw [e]; exact hx2
    refine gV_aload_n (pc := 44) (x := o 0) C dX3_take_44 1 rfl rfl ?_
    refine mg_hand (pc := 45) C fl_X3_68 dX3_take_45 ?_
    refine gV_iload_n (pc := 48) C dX3_take_48 2 rfl rfl ?_
    refine gV_icmp_eq (pc := 49) C 64 dX3_take_49 (by decide) (fun c_1 => ?_) (fun c_1 => ?_)
    · exact absurd c_1 hx1'
    · skip
      refine gV_aload_n (pc := 52) (x := o 0) C dX3_take_52 1 rfl rfl ?_
      refine mg_used (pc := 53) C fl_X3_35 dX3_take_53 ?_
      refine gV_aload_n (pc := 56) (x := o 0) C dX3_take_56 1 rfl rfl ?_
      refine mg_hand (pc := 57) C fl_X3_68 dX3_take_57 ?_
      refine ma_used (pc := 60) C hin dX3_take_60 ?_
      refine gV_if_eq (pc := 61) C 100 dX3_take_61 (by decide) (fun c_2 => ?_) (fun c_2 => ?_)
      · skip
        refine gV_aload_n (pc := 100) (x := o 0) C dX3_take_100 1 rfl rfl ?_
        refine mg_hand (pc := 101) C fl_X3_68 dX3_take_101 ?_
        refine gV_istore_n (pc := 104) (lv' := [(2, .int (pm_I (τ) 3)), (0, .ref (o 0)), (1, .int kept)]) C dX3_take_104 rfl (by decide) rfl ?_
        refine gV_aload_n (pc := 105) (x := o 0) C dX3_take_105 1 rfl rfl ?_
        refine gV_aload_n (pc := 106) (x := o 0) C dX3_take_106 1 rfl rfl ?_
        refine mg_hand (pc := 107) C fl_X3_68 dX3_take_107 ?_
        refine gV_iconst (pc := 110) (v := 1) C dX3_take_110 (by decide) ?_
        refine gV_iadd (pc := 111) C dX3_take_111 ?_
        refine gV_aload_n (pc := 112) (x := o 0) C dX3_take_112 1 rfl rfl ?_
        refine mg_frames (pc := 113) C fl_X3_38 dX3_take_113 ?_
        refine gV_irem (pc := 116) C dX3_take_116 (by rw [show pm_I τ 1 = nI F from e1]; exact hneF) ?_
        refine mp_hand (pc := 117) C fl_X3_68 dX3_take_117 ?_
        refine gV_ws (congrArg (mw o ct) (show _ = pm_scS τ from rfl)) ?_
        refine gV_aload_n (pc := 120) (x := o 0) C dX3_take_120 1 rfl rfl ?_
        refine gV_iload_n (pc := 121) C dX3_take_121 0 rfl rfl ?_
        refine gV_callV (pc := 122) (As := [.int (pm_I (τ) 3)]) (rest := []) C ml_X3_52 gy_X3_bodyIn gv_X3_bodyIn (d_bodyIn _) ⟨0, 3, _, _, rfl, rfl, rfl⟩ rfl rfl ⟨by decide, by decide⟩ (Nat.le_of_ble_eq_true rfl) (by decide) (by decide) dX3_take_122 ?_
        rintro _ _ ⟨rfl, rfl⟩
        have eb' : pm_bi (pm_scS τ) (pm_I τ 3) = nI b := by rw [e]; exact eb
        rw [show pm_bi _ (pm_I τ 3) = nI b from eb']
        refine gV_istore_n (pc := 125) (lv' := [(3, .int (nI b)), (2, .int (pm_I (τ) 3)), (0, .ref (o 0)), (1, .int kept)]) C dX3_take_125 rfl (by decide) rfl ?_
        refine gV_aload_n (pc := 126) (x := o 0) C dX3_take_126 2 rfl rfl ?_
        refine mg_dirty (pc := 127) C fl_X3_26 dX3_take_127 ?_
        refine gV_iload_n (pc := 130) C dX3_take_130 0 rfl rfl ?_
        refine ma_dirty (pc := 131) C (vp_in_nI (by omega) (by omega)) dX3_take_131 ?_
        rw [nI_clamp (by omega)]
        refine gV_if_eq (pc := 132) C 140 dX3_take_132 (by decide) (fun c_3 => ?_) (fun c_3 => ?_)
        · skip
          refine gV_aload_n (pc := 140) (x := o 0) C dX3_take_140 2 rfl rfl ?_
          refine mg_frameOf (pc := 141) C fl_X3_20 dX3_take_141 ?_
          refine gV_iload_n (pc := 144) C dX3_take_144 0 rfl rfl ?_
          refine gV_iconst (pc := 145) (v := (-1)) C dX3_take_145 (by decide) ?_
          refine ms_frameOf (pc := 146) C (vp_in_nI (by omega) (by omega)) dX3_take_146 ?_
          rw [nI_clamp (by omega)]
          refine gV_iload_n (pc := 147) C dX3_take_147 1 rfl rfl ?_
          refine gV_iret (pc := 148) C dX3_take_148 (by decide) (by decide) ?_
          exact ⟨by rw [mtkN_eq hok, pm_tkF, if_pos hfr, e], by rw [pm_tkS, if_pos hfr, pm_tkV, pm_tkE, pm_tkB, pm_tkE, eb2, nI_clamp (by omega), ← e, if_pos c_3]; try rfl⟩
        · skip
          refine gV_aload_n (pc := 135) (x := o 0) C dX3_take_135 2 rfl rfl ?_
          refine gV_iload_n (pc := 136) C dX3_take_136 0 rfl rfl ?_
          refine gV_callV (pc := 137) (As := [.int (nI b)]) (rest := []) C ml_X3_71 gy_X3_store gv_X3_store (d_store (b := b) (S := S) (by omega) (by omega) (by have h9 := hst; rw [pm_tkE, ← e] at h9; exact h9 c_3)) ⟨0, 3, _, _, rfl, rfl, rfl⟩ rfl rfl ⟨by decide, by decide⟩ (Nat.le_of_ble_eq_true rfl) (by decide) (by decide) dX3_take_137 ?_
          rintro _ _ ⟨rfl, rfl⟩
          refine gV_aload_n (pc := 140) (x := o 0) C dX3_take_140 2 rfl rfl ?_
          refine mg_frameOf (pc := 141) C fl_X3_20 dX3_take_141 ?_
          refine gV_iload_n (pc := 144) C dX3_take_144 0 rfl rfl ?_
          refine gV_iconst (pc := 145) (v := (-1)) C dX3_take_145 (by decide) ?_
          refine ms_frameOf (pc := 146) C (vp_in_nI (by omega) (by omega)) dX3_take_146 ?_
          rw [nI_clamp (by omega)]
          refine gV_iload_n (pc := 147) C dX3_take_147 1 rfl rfl ?_
          refine gV_iret (pc := 148) C dX3_take_148 (by decide) (by decide) ?_
          exact ⟨by rw [mtkN_eq hok, pm_tkF, if_pos hfr, e], by rw [pm_tkS, if_pos hfr, pm_tkV, pm_tkE, pm_tkB, pm_tkE, eb2, nI_clamp (by omega), ← e, if_neg c_3]; try rfl⟩
      · exact absurd hx2' c_2
  | succ n ih =>
    intro τ hd hr
    have eb2 := eb
    rw [pm_tkE] at eb2
    obtain ⟨e1, h, hh, eh⟩ := id hd
    have hin : vp_in (pm_I τ 3) 16 := by rw [eh]; exact vp_in_nI (by omega) (by omega)
    refine gV_aload_n (pc := 44) (x := o 0) C dX3_take_44 1 rfl rfl ?_
    refine mg_hand (pc := 45) C fl_X3_68 dX3_take_45 ?_
    refine gV_iload_n (pc := 48) C dX3_take_48 2 rfl rfl ?_
    refine gV_icmp_eq (pc := 49) C 64 dX3_take_49 (by decide) (fun c_1 => ?_) (fun c_1 => ?_)
    · skip
      refine gV_aload_n (pc := 64) (x := o 0) C dX3_take_64 1 rfl rfl ?_
      refine mg_hand (pc := 65) C fl_X3_68 dX3_take_65 ?_
      refine gV_iload_n (pc := 68) C dX3_take_68 2 rfl rfl ?_
      refine gV_icmp_eq (pc := 69) C 82 dX3_take_69 (by decide) (fun c_2 => ?_) (fun c_2 => ?_)
      · skip
        refine gV_aload_n (pc := 82) (x := o 0) C dX3_take_82 1 rfl rfl ?_
        refine gV_aload_n (pc := 83) (x := o 0) C dX3_take_83 1 rfl rfl ?_
        refine mg_hand (pc := 84) C fl_X3_68 dX3_take_84 ?_
        refine gV_iconst (pc := 87) (v := 1) C dX3_take_87 (by decide) ?_
        refine gV_iadd (pc := 88) C dX3_take_88 ?_
        refine gV_aload_n (pc := 89) (x := o 0) C dX3_take_89 1 rfl rfl ?_
        refine mg_frames (pc := 90) C fl_X3_38 dX3_take_90 ?_
        refine gV_irem (pc := 93) C dX3_take_93 (by rw [show pm_I (τ) 1 = nI F from e1]; exact hneF) ?_
        refine mp_hand (pc := 94) C fl_X3_68 dX3_take_94 ?_
        refine gV_goto (pc := 97) C 44 dX3_take_97 (by decide) ?_
        exact ih _ (hd_scS hF2 hF16 hd) (by rw [← hr, pm_scG, if_pos c_1]; rfl)
      · exact absurd c_1 c_2
    · skip
      refine gV_aload_n (pc := 52) (x := o 0) C dX3_take_52 1 rfl rfl ?_
      refine mg_used (pc := 53) C fl_X3_35 dX3_take_53 ?_
      refine gV_aload_n (pc := 56) (x := o 0) C dX3_take_56 1 rfl rfl ?_
      refine mg_hand (pc := 57) C fl_X3_68 dX3_take_57 ?_
      refine ma_used (pc := 60) C hin dX3_take_60 ?_
      refine gV_if_eq (pc := 61) C 100 dX3_take_61 (by decide) (fun c_3 => ?_) (fun c_3 => ?_)
      · skip
        have e : τ = pm_scT F kept μ := by rw [← hr, pm_scG, if_neg c_1, if_pos c_3]
        refine gV_aload_n (pc := 100) (x := o 0) C dX3_take_100 1 rfl rfl ?_
        refine mg_hand (pc := 101) C fl_X3_68 dX3_take_101 ?_
        refine gV_istore_n (pc := 104) (lv' := [(2, .int (pm_I (τ) 3)), (0, .ref (o 0)), (1, .int kept)]) C dX3_take_104 rfl (by decide) rfl ?_
        refine gV_aload_n (pc := 105) (x := o 0) C dX3_take_105 1 rfl rfl ?_
        refine gV_aload_n (pc := 106) (x := o 0) C dX3_take_106 1 rfl rfl ?_
        refine mg_hand (pc := 107) C fl_X3_68 dX3_take_107 ?_
        refine gV_iconst (pc := 110) (v := 1) C dX3_take_110 (by decide) ?_
        refine gV_iadd (pc := 111) C dX3_take_111 ?_
        refine gV_aload_n (pc := 112) (x := o 0) C dX3_take_112 1 rfl rfl ?_
        refine mg_frames (pc := 113) C fl_X3_38 dX3_take_113 ?_
        refine gV_irem (pc := 116) C dX3_take_116 (by rw [show pm_I τ 1 = nI F from e1]; exact hneF) ?_
        refine mp_hand (pc := 117) C fl_X3_68 dX3_take_117 ?_
        refine gV_ws (congrArg (mw o ct) (show _ = pm_scS τ from rfl)) ?_
        refine gV_aload_n (pc := 120) (x := o 0) C dX3_take_120 1 rfl rfl ?_
        refine gV_iload_n (pc := 121) C dX3_take_121 0 rfl rfl ?_
        refine gV_callV (pc := 122) (As := [.int (pm_I (τ) 3)]) (rest := []) C ml_X3_52 gy_X3_bodyIn gv_X3_bodyIn (d_bodyIn _) ⟨0, 3, _, _, rfl, rfl, rfl⟩ rfl rfl ⟨by decide, by decide⟩ (Nat.le_of_ble_eq_true rfl) (by decide) (by decide) dX3_take_122 ?_
        rintro _ _ ⟨rfl, rfl⟩
        have eb' : pm_bi (pm_scS τ) (pm_I τ 3) = nI b := by rw [e]; exact eb
        rw [show pm_bi _ (pm_I τ 3) = nI b from eb']
        refine gV_istore_n (pc := 125) (lv' := [(3, .int (nI b)), (2, .int (pm_I (τ) 3)), (0, .ref (o 0)), (1, .int kept)]) C dX3_take_125 rfl (by decide) rfl ?_
        refine gV_aload_n (pc := 126) (x := o 0) C dX3_take_126 2 rfl rfl ?_
        refine mg_dirty (pc := 127) C fl_X3_26 dX3_take_127 ?_
        refine gV_iload_n (pc := 130) C dX3_take_130 0 rfl rfl ?_
        refine ma_dirty (pc := 131) C (vp_in_nI (by omega) (by omega)) dX3_take_131 ?_
        rw [nI_clamp (by omega)]
        refine gV_if_eq (pc := 132) C 140 dX3_take_132 (by decide) (fun c_4 => ?_) (fun c_4 => ?_)
        · skip
          refine gV_aload_n (pc := 140) (x := o 0) C dX3_take_140 2 rfl rfl ?_
          refine mg_frameOf (pc := 141) C fl_X3_20 dX3_take_141 ?_
          refine gV_iload_n (pc := 144) C dX3_take_144 0 rfl rfl ?_
          refine gV_iconst (pc := 145) (v := (-1)) C dX3_take_145 (by decide) ?_
          refine ms_frameOf (pc := 146) C (vp_in_nI (by omega) (by omega)) dX3_take_146 ?_
          rw [nI_clamp (by omega)]
          refine gV_iload_n (pc := 147) C dX3_take_147 1 rfl rfl ?_
          refine gV_iret (pc := 148) C dX3_take_148 (by decide) (by decide) ?_
          exact ⟨by rw [mtkN_eq hok, pm_tkF, if_pos hfr, e], by rw [pm_tkS, if_pos hfr, pm_tkV, pm_tkE, pm_tkB, pm_tkE, eb2, nI_clamp (by omega), ← e, if_pos c_4]; try rfl⟩
        · skip
          refine gV_aload_n (pc := 135) (x := o 0) C dX3_take_135 2 rfl rfl ?_
          refine gV_iload_n (pc := 136) C dX3_take_136 0 rfl rfl ?_
          refine gV_callV (pc := 137) (As := [.int (nI b)]) (rest := []) C ml_X3_71 gy_X3_store gv_X3_store (d_store (b := b) (S := S) (by omega) (by omega) (by have h9 := hst; rw [pm_tkE, ← e] at h9; exact h9 c_4)) ⟨0, 3, _, _, rfl, rfl, rfl⟩ rfl rfl ⟨by decide, by decide⟩ (Nat.le_of_ble_eq_true rfl) (by decide) (by decide) dX3_take_137 ?_
          rintro _ _ ⟨rfl, rfl⟩
          refine gV_aload_n (pc := 140) (x := o 0) C dX3_take_140 2 rfl rfl ?_
          refine mg_frameOf (pc := 141) C fl_X3_20 dX3_take_141 ?_
          refine gV_iload_n (pc := 144) C dX3_take_144 0 rfl rfl ?_
          refine gV_iconst (pc := 145) (v := (-1)) C dX3_take_145 (by decide) ?_
          refine ms_frameOf (pc := 146) C (vp_in_nI (by omega) (by omega)) dX3_take_146 ?_
          rw [nI_clamp (by omega)]
          refine gV_iload_n (pc := 147) C dX3_take_147 1 rfl rfl ?_
          refine gV_iret (pc := 148) C dX3_take_148 (by decide) (by decide) ?_
          exact ⟨by rw [mtkN_eq hok, pm_tkF, if_pos hfr, e], by rw [pm_tkS, if_pos hfr, pm_tkV, pm_tkE, pm_tkB, pm_tkE, eb2, nI_clamp (by omega), ← e, if_neg c_4]; try rfl⟩
      · skip
        refine gV_aload_n (pc := 64) (x := o 0) C dX3_take_64 1 rfl rfl ?_
        refine mg_hand (pc := 65) C fl_X3_68 dX3_take_65 ?_
        refine gV_iload_n (pc := 68) C dX3_take_68 2 rfl rfl ?_
        refine gV_icmp_eq (pc := 69) C 82 dX3_take_69 (by decide) (fun c_5 => ?_) (fun c_5 => ?_)
        · exact absurd c_5 c_1
        · skip
          refine gV_aload_n (pc := 72) (x := o 0) C dX3_take_72 1 rfl rfl ?_
          refine mg_used (pc := 73) C fl_X3_35 dX3_take_73 ?_
          refine gV_aload_n (pc := 76) (x := o 0) C dX3_take_76 1 rfl rfl ?_
          refine mg_hand (pc := 77) C fl_X3_68 dX3_take_77 ?_
          refine gV_iconst (pc := 80) (v := 0) C dX3_take_80 (by decide) ?_
          refine ms_used (pc := 81) C hin (by decide) dX3_take_81 ?_
          refine gV_aload_n (pc := 82) (x := o 0) C dX3_take_82 1 rfl rfl ?_
          refine gV_aload_n (pc := 83) (x := o 0) C dX3_take_83 1 rfl rfl ?_
          refine mg_hand (pc := 84) C fl_X3_68 dX3_take_84 ?_
          refine gV_iconst (pc := 87) (v := 1) C dX3_take_87 (by decide) ?_
          refine gV_iadd (pc := 88) C dX3_take_88 ?_
          refine gV_aload_n (pc := 89) (x := o 0) C dX3_take_89 1 rfl rfl ?_
          refine mg_frames (pc := 90) C fl_X3_38 dX3_take_90 ?_
          refine gV_irem (pc := 93) C dX3_take_93 (by rw [show pm_I (pm_sA (τ) 8 ((pm_I (τ) 3).toNatClampNeg) 0) 1 = nI F from e1]; exact hneF) ?_
          refine mp_hand (pc := 94) C fl_X3_68 dX3_take_94 ?_
          refine gV_goto (pc := 97) C 44 dX3_take_97 (by decide) ?_
          exact ih _ (hd_scS hF2 hF16 (hd_us hd _ _)) (by rw [← hr, pm_scG, if_neg c_1, if_neg c_3]; rfl)
set_option maxHeartbeats 4000000 in
set_option maxRecDepth 100000 in
theorem mlp_take1 {X : gx_T} {D : va_G} {o : Nat → Nat} {ct : Nat → ClassId} {μ : pm_S} {F S : Nat} {kept : Int32} (hok : pm_tkOK F S kept μ) (C : gC X cX3_take 4 RX3 rm_X3_take (some .int) D (gt ct) (fun v w => v = some (.int (nI (pm_tkN F S kept μ))) ∧ w = mw o ct (pm_tkS F S kept μ))) : ∀ d i : Nat, i + d = F → pm_frG (pm_tk0 μ) d i = pm_fr F (pm_tk0 μ) → gV X 0 0 (mw o ct (pm_tk0 μ)) 12 [(2, .int (nI i)), (0, .ref (o 0)), (1, .int kept)] [] := by
  obtain ⟨⟨hF2, hF16, hS64⟩, e1, hh, -⟩ := id hok
  intro d
  induction d with
  | zero =>
    intro i hi hr
    have hfr : pm_fr F (pm_tk0 μ) = -1 := hr.symm
    refine gV_iload_n (pc := 12) C dX3_take_12 0 rfl rfl ?_
    refine gV_aload_n (pc := 13) (x := o 0) C dX3_take_13 1 rfl rfl ?_
    refine mg_frames (pc := 14) C fl_X3_38 dX3_take_14 ?_
    rw [show pm_I (pm_tk0 μ) 1 = nI F from e1]
    refine gV_icmp_ge (pc := 17) C 44 dX3_take_17 (by decide) (fun c_1 => ?_) (fun c_1 => ?_)
    · skip
      exact mlp_take2 hok hfr C (2 * F) (pm_tk0 μ) ⟨e1, hh⟩ rfl
    · exact absurd (nI_le (by omega) (by omega)) c_1
  | succ d ih =>
    intro i hi hr
    refine gV_iload_n (pc := 12) C dX3_take_12 0 rfl rfl ?_
    refine gV_aload_n (pc := 13) (x := o 0) C dX3_take_13 1 rfl rfl ?_
    refine mg_frames (pc := 14) C fl_X3_38 dX3_take_14 ?_
    rw [show pm_I (pm_tk0 μ) 1 = nI F from e1]
    refine gV_icmp_ge (pc := 17) C 44 dX3_take_17 (by decide) (fun c_1 => ?_) (fun c_1 => ?_)
    · exact absurd c_1 (nI_ge (by omega) (by omega))
    · skip
      refine gV_aload_n (pc := 20) (x := o 0) C dX3_take_20 1 rfl rfl ?_
      refine gV_iload_n (pc := 21) C dX3_take_21 0 rfl rfl ?_
      refine gV_callV (pc := 22) (As := [.int (nI i)]) (rest := []) C ml_X3_52 gy_X3_bodyIn gv_X3_bodyIn (d_bodyIn _) ⟨0, 3, _, _, rfl, rfl, rfl⟩ rfl rfl ⟨by decide, by decide⟩ (Nat.le_of_ble_eq_true rfl) (by decide) (by decide) dX3_take_22 ?_
      rintro _ _ ⟨rfl, rfl⟩
      refine gV_iconst (pc := 25) (v := (-1)) C dX3_take_25 (by decide) ?_
      refine gV_icmp_ne (pc := 26) C 38 dX3_take_26 (by decide) (fun c_2 => ?_) (fun c_2 => ?_)
      · skip
        refine gV_iinc (pc := 38) (v := nI (i + 1)) (lv' := [(2, .int (nI (i + 1))), (0, .ref (o 0)), (1, .int kept)]) C dX3_take_38 0 rfl (nI_1 _) (by decide) rfl ?_
        refine gV_goto (pc := 41) C 12 dX3_take_41 (by decide) ?_
        exact ih (i + 1) (by omega) (by rw [← hr, pm_frG, if_neg c_2])
      · skip
        have e : nI i = pm_fr F (pm_tk0 μ) := by rw [← hr, pm_frG, if_pos c_2]
        have hne : ¬ pm_fr F (pm_tk0 μ) = -1 := by rw [← e]; exact nI_ne_m1 (by omega)
        refine gV_aload_n (pc := 29) (x := o 0) C dX3_take_29 1 rfl rfl ?_
        refine mg_used (pc := 30) C fl_X3_35 dX3_take_30 ?_
        refine gV_iload_n (pc := 33) C dX3_take_33 0 rfl rfl ?_
        refine gV_iconst (pc := 34) (v := 0) C dX3_take_34 (by decide) ?_
        refine ms_used (pc := 35) C (vp_in_nI (by omega) (by omega)) (by decide) dX3_take_35 ?_
        rw [nI_clamp (by omega)]
        refine gV_iload_n (pc := 36) C dX3_take_36 0 rfl rfl ?_
        refine gV_iret (pc := 37) C dX3_take_37 (by decide) (by decide) ?_
        exact ⟨by rw [mtkN_eq hok, pm_tkF, if_neg hne, e], by rw [pm_tkS, if_neg hne, ← e, nI_clamp (by omega)]⟩
set_option maxHeartbeats 4000000 in
set_option maxRecDepth 100000 in
/-- take -/
theorem d_take {D : va_G} {o : Nat → Nat} {ct : Nat → ClassId} {μ : pm_S} {F S : Nat} (kept : Int32) (hok : pm_tkOK F S kept μ) : gM yX3_take cX3_take 4 (some .int) rm_X3_take D (gt ct) (mw o ct μ) [.ref (o 0), .int kept] (fun v w => v = some (.int (nI (pm_tkN F S kept μ))) ∧ w = mw o ct (pm_tkS F S kept μ)) := by
  refine gM_in RX3 rfl (by decide) (Nat.le_of_ble_eq_true rfl) (fun X C => ?_)
  refine gV_aload_n (pc := 0) (x := o 0) C dX3_take_0 0 rfl rfl ?_
  refine gV_dup (pc := 1) C dX3_take_1 rfl ?_
  refine mg_taken (pc := 2) C fl_X3_65 dX3_take_2 ?_
  refine gV_iconst (pc := 5) (v := 1) C dX3_take_5 (by decide) ?_
  refine gV_iadd (pc := 6) C dX3_take_6 ?_
  refine mp_taken (pc := 7) C fl_X3_65 dX3_take_7 ?_
  refine gV_iconst (pc := 10) (v := 0) C dX3_take_10 (by decide) ?_
  refine gV_istore_n (pc := 11) (lv' := [(2, .int 0), (0, .ref (o 0)), (1, .int kept)]) C dX3_take_11 rfl (by decide) rfl ?_
  exact mlp_take1 hok C F 0 (Nat.zero_add _) rfl
abbrev rm_X3_bring : Room := { frames := 3, cells := 0, slots := 0, locals := 68 }
set_option maxHeartbeats 4000000 in
set_option maxRecDepth 100000 in
theorem mlp_bring {X : gx_T} {D : va_G} {o : Nat → Nat} {ct : Nat → ClassId} {μ : pm_S} {F S b t f : Nat} {τ : pm_S} (hb : b < 300) (ht : t < 64) (hf : f < 16) (h4 : pm_A τ 4 b = nI t) (hfin : pm_br1 τ b f t = pm_br F S μ b) (C : gC X cX3_bring 4 RX3 rm_X3_bring none D (gt ct) (fun v w => v = none ∧ w = mw o ct (pm_br F S μ b))) : ∀ d i : Nat, i + d = 16 → gV X 0 0 (mw o ct (pm_fA τ 6 (va_cpy (pm_A τ 7) (pm_A τ 6) (16 * t) (16 * f) i))) 8 [(3, .int (nI i)), (2, .int (nI f)), (0, .ref (o 0)), (1, .int (nI b))] [] := by
  intro d
  induction d with
  | zero =>
    intro i hi
    have e : i = 16 := by omega
    rw [e]
    refine gV_iload_n (pc := 8) C dX3_bring_8 0 rfl rfl ?_
    refine gV_bipush (pc := 9) (v := 16) C dX3_bring_9 (by decide) ?_
    refine gV_icmp_ge (pc := 11) C 47 dX3_bring_11 (by decide) (fun c_1 => ?_) (fun c_1 => ?_)
    · skip
      refine gV_aload_n (pc := 47) (x := o 0) C dX3_bring_47 2 rfl rfl ?_
      refine mg_frameOf (pc := 48) C fl_X3_20 dX3_bring_48 ?_
      refine gV_iload_n (pc := 51) C dX3_bring_51 3 rfl rfl ?_
      refine gV_iload_n (pc := 52) C dX3_bring_52 1 rfl rfl ?_
      refine ms_frameOf (pc := 53) C (vp_in_nI (by omega) (by omega)) dX3_bring_53 ?_
      rw [nI_clamp (by omega)]
      refine gV_aload_n (pc := 54) (x := o 0) C dX3_bring_54 2 rfl rfl ?_
      refine mg_dirty (pc := 55) C fl_X3_26 dX3_bring_55 ?_
      refine gV_iload_n (pc := 58) C dX3_bring_58 3 rfl rfl ?_
      refine gV_iconst (pc := 59) (v := 0) C dX3_bring_59 (by decide) ?_
      refine ms_dirty (pc := 60) C (vp_in_nI (by omega) (by omega)) (by decide) dX3_bring_60 ?_
      rw [nI_clamp (by omega)]
      refine gV_aload_n (pc := 61) (x := o 0) C dX3_bring_61 2 rfl rfl ?_
      refine gV_dup (pc := 62) C dX3_bring_62 rfl ?_
      refine mg_brought (pc := 63) C fl_X3_78 dX3_bring_63 ?_
      refine gV_iconst (pc := 66) (v := 1) C dX3_bring_66 (by decide) ?_
      refine gV_iadd (pc := 67) C dX3_bring_67 ?_
      refine mp_brought (pc := 68) C fl_X3_78 dX3_bring_68 ?_
      refine gV_vret (pc := 71) C dX3_bring_71 (by decide) (by decide) ?_
      exact ⟨rfl, by rw [← hfin]; rfl⟩
    · exact absurd (by decide) c_1
  | succ d ih =>
    intro i hi
    refine gV_iload_n (pc := 8) C dX3_bring_8 0 rfl rfl ?_
    refine gV_bipush (pc := 9) (v := 16) C dX3_bring_9 (by decide) ?_
    refine gV_icmp_ge (pc := 11) C 47 dX3_bring_11 (by decide) (fun c_1 => ?_) (fun c_1 => ?_)
    · exact absurd c_1 (nI_ge (a := i) (b := 16) (by omega) (by omega))
    · skip
      refine gV_aload_n (pc := 14) (x := o 0) C dX3_bring_14 2 rfl rfl ?_
      refine mg_inFrame (pc := 15) C fl_X3_29 dX3_bring_15 ?_
      refine gV_bipush (pc := 18) (v := 16) C dX3_bring_18 (by decide) ?_
      refine gV_iload_n (pc := 20) C dX3_bring_20 1 rfl rfl ?_
      refine gV_imul (pc := 21) C dX3_bring_21 ?_
      refine gV_iload_n (pc := 22) C dX3_bring_22 0 rfl rfl ?_
      refine gV_iadd (pc := 23) C dX3_bring_23 ?_
      rw [show (16 * (nI f)) + (nI i) = nI (16 * f + i) from ix16 _ _]
      refine gV_aload_n (pc := 24) (x := o 0) C dX3_bring_24 2 rfl rfl ?_
      refine mg_inSector (pc := 25) C fl_X3_32 dX3_bring_25 ?_
      refine gV_bipush (pc := 28) (v := 16) C dX3_bring_28 (by decide) ?_
      refine gV_aload_n (pc := 30) (x := o 0) C dX3_bring_30 2 rfl rfl ?_
      refine mg_sectorOf (pc := 31) C fl_X3_23 dX3_bring_31 ?_
      refine gV_iload_n (pc := 34) C dX3_bring_34 3 rfl rfl ?_
      refine ma_sectorOf (pc := 35) C (vp_in_nI (by omega) (by omega)) dX3_bring_35 ?_
      rw [nI_clamp (by omega)]
      rw [show pm_A (pm_fA τ 6 (va_cpy (pm_A τ 7) (pm_A τ 6) (16 * t) (16 * f) i)) 4 b = nI t from h4]
      refine gV_imul (pc := 36) C dX3_bring_36 ?_
      refine gV_iload_n (pc := 37) C dX3_bring_37 0 rfl rfl ?_
      refine gV_iadd (pc := 38) C dX3_bring_38 ?_
      rw [show (16 * (nI t)) + (nI i) = nI (16 * t + i) from ix16 _ _]
      refine ma_inSector (pc := 39) C (vp_in_nI (by omega) (by omega)) dX3_bring_39 ?_
      rw [nI_clamp (by omega)]
      rw [show pm_A (pm_fA τ 6 (va_cpy (pm_A τ 7) (pm_A τ 6) (16 * t) (16 * f) i)) 7 (16 * t + i) = pm_A τ 7 (16 * t + i) from rfl]
      refine ms_inFrame (pc := 40) C (vp_in_nI (by omega) (by omega)) dX3_bring_40 ?_
      rw [nI_clamp (by omega)]
      refine gV_iinc (pc := 41) (v := nI (i + 1)) (lv' := [(3, .int (nI (i + 1))), (2, .int (nI f)), (0, .ref (o 0)), (1, .int (nI b))]) C dX3_bring_41 0 rfl (nI_1 _) (by decide) rfl ?_
      refine gV_goto (pc := 44) C 8 dX3_bring_44 (by decide) ?_
      rw [pm_sA_fA, cpy_s]
      exact ih (i + 1) (by omega)
set_option maxHeartbeats 4000000 in
set_option maxRecDepth 100000 in
/-- bring -/
theorem d_bring {D : va_G} {o : Nat → Nat} {ct : Nat → ClassId} {μ : pm_S} {F S b : Nat} (hb : b < 300) (h : pm_brOK F S μ b) : gM yX3_bring cX3_bring 4 none rm_X3_bring D (gt ct) (mw o ct μ) [.ref (o 0), .int (nI b)] (fun v w => v = none ∧ w = mw o ct (pm_br F S μ b)) := by
  refine gM_in RX3 rfl (by decide) (Nat.le_of_ble_eq_true rfl) (fun X C => ?_)
  obtain ⟨hok, t, ht, h4⟩ := h
  refine gV_aload_n (pc := 0) (x := o 0) C dX3_bring_0 0 rfl rfl ?_
  refine gV_iconst (pc := 1) (v := (-1)) C dX3_bring_1 (by decide) ?_
  refine gV_callV (pc := 2) (As := [.int ((-1))]) (rest := []) C ml_X3_75 gy_X3_take gv_X3_take (d_take (F := F) (S := S) ((-1)) hok) ⟨0, 3, _, _, rfl, rfl, rfl⟩ rfl rfl ⟨by decide, by decide⟩ (Nat.le_of_ble_eq_true rfl) (by decide) (by decide) dX3_bring_2 ?_
  rintro _ _ ⟨rfl, rfl⟩
  refine gV_istore_n (pc := 5) (lv' := [(2, .int (nI (pm_tkN F S ((-1)) μ))), (0, .ref (o 0)), (1, .int (nI b))]) C dX3_bring_5 rfl (by decide) rfl ?_
  refine gV_iconst (pc := 6) (v := 0) C dX3_bring_6 (by decide) ?_
  refine gV_istore_n (pc := 7) (lv' := [(3, .int 0), (2, .int (nI (pm_tkN F S ((-1)) μ))), (0, .ref (o 0)), (1, .int (nI b))]) C dX3_bring_7 rfl (by decide) rfl ?_
  refine gV_ws (congrArg (mw o ct) (show pm_tkS F S (-1) μ = pm_fA (pm_tkS F S (-1) μ) 6 (va_cpy (pm_A (pm_tkS F S (-1) μ) 7) (pm_A (pm_tkS F S (-1) μ) 6) (16 * t) (16 * pm_tkN F S (-1) μ) 0) by rw [cpy_0, pm_fA_self])) ?_
  exact mlp_bring hb ht (by have := mtkN_lt hok; have := hok.1.2.1; omega) h4 (by rw [pm_br, h4, nI_clamp (by omega)]) C 16 0 rfl
end
section
def pm_ok (F S : Nat) (μ : pm_S) : Prop := (2 ≤ F ∧ F ≤ 16 ∧ S ≤ 64) ∧ pm_I μ 1 = nI F ∧ pm_I μ 2 = nI S ∧ (∃ h, h < F ∧ pm_I μ 3 = nI h) ∧ (∀ p, p < 8 → ∃ m, m ≤ 32 ∧ pm_A μ 0 p = nI m) ∧ (∀ k, k < 256 → pm_A μ 1 k = -1 ∨ ∃ b, b < 300 ∧ pm_A μ 1 k = nI b)
theorem sI_sI (μ : pm_S) (k : Nat) (v w : Int32) : pm_sI (pm_sI μ k v) k w = pm_sI μ k w := by
  obtain ⟨a, b⟩ := μ
  refine congrArg (fun z => (z, b)) ?_
  funext j
  simp only [va_up, pm_sI]
  by_cases hj : j = k <;> simp [hj]
theorem biG_sI (μ : pm_S) (k : Nat) (v f : Int32) : ∀ d i, pm_biG (pm_sI μ k v) f d i = pm_biG μ f d i
  | 0, _ => rfl
  | d + 1, i => by unfold pm_biG; rw [pA_sI, pA_sI, biG_sI μ k v f d (i + 1)]
theorem bi_sI (μ : pm_S) (k : Nat) (v f : Int32) : pm_bi (pm_sI μ k v) f = pm_bi μ f := biG_sI μ k v f 300 0
theorem sfG_sI (μ : pm_S) (k : Nat) (v f : Int32) : ∀ d i, pm_sfG (pm_sI μ k v) f d i = pm_sfG μ f d i
  | 0, _ => rfl
  | d + 1, i => by unfold pm_sfG; rw [pA_sI, pA_sI, sfG_sI μ k v f d (i + 1)]
theorem sf_sI (μ : pm_S) (k : Nat) (v f : Int32) : pm_sf (pm_sI μ k v) f = pm_sf μ f := sfG_sI μ k v f 300 0
theorem lpG_sI (μ : pm_S) (k : Nat) (v : Int32) : ∀ d i, pm_lpG (pm_sI μ k v) d i = pm_lpG μ d i
  | 0, _ => rfl
  | d + 1, i => by unfold pm_lpG; rw [pA_sI, lpG_sI μ k v d (i + 1)]
theorem lp_sI (μ : pm_S) (k : Nat) (v : Int32) : pm_lp (pm_sI μ k v) = pm_lp μ := lpG_sI μ k v 8 0
theorem ip_sI (μ : pm_S) (k : Nat) (v p : Int32) : pm_ip (pm_sI μ k v) p = pm_ip μ p := by unfold pm_ip; rw [pA_sI]
theorem ig_sI (μ : pm_S) (k : Nat) (v p g : Int32) : pm_ig (pm_sI μ k v) p g = pm_ig μ p g := by unfold pm_ig; rw [pA_sI, ip_sI]
theorem cN_congr {f g : Nat → Bool} : ∀ n, (∀ i, i < n → f i = g i) → ph_cN f n = ph_cN g n
  | 0, _ => rfl
  | n + 1, h => by
    unfold ph_cN
    rw [cN_congr n (fun i hi => h i (by omega)), h n (by omega)]
theorem ff_sI (F : Nat) (μ : pm_S) (k : Nat) (v : Int32) : pm_ff F (pm_sI μ k v) = pm_ff F μ := cN_congr F (fun i _ => by rw [bi_sI])
theorem fs_sI (S : Nat) (μ : pm_S) (k : Nat) (v : Int32) : pm_fs S (pm_sI μ k v) = pm_fs S μ := cN_congr S (fun i _ => by rw [sf_sI])
theorem ho_sI (μ : pm_S) (k : Nat) (v b : Int32) : pm_ho (pm_sI μ k v) b = pm_ho μ b := cN_congr 256 (fun i _ => by rw [pA_sI])
theorem mok_sI {F S : Nat} {μ : pm_S} (h : pm_ok F S μ) {k : Nat} (v : Int32) (hk : k = 0 ∨ 4 ≤ k) : pm_ok F S (pm_sI μ k v) := by
  obtain ⟨h1, h2, h3, h4, h5, h6⟩ := h
  refine ⟨h1, ?_, ?_, ?_, h5, h6⟩
  · rw [pI_sI, if_neg (by omega)]; exact h2
  · rw [pI_sI, if_neg (by omega)]; exact h3
  · rw [pI_sI, if_neg (by omega)]; exact h4
theorem ix32 (t i : Nat) : (32 : Int32) * nI t + nI i = nI (32 * t + i) := by
  rw [show (32 : Int32) = nI 32 from rfl, pk_mul, nI_add]
theorem mlpG_in (μ : pm_S) : ∀ d i, pm_lpG μ d i = -1 ∨ ∃ j, j < i + d ∧ pm_lpG μ d i = nI j
  | 0, _ => Or.inl rfl
  | d + 1, i => by
    unfold pm_lpG; split
    · exact Or.inr ⟨i, by omega, rfl⟩
    · rcases mlpG_in μ d (i + 1) with h | ⟨j, hj, h⟩
      · exact Or.inl h
      · exact Or.inr ⟨j, by omega, h⟩
theorem mlp_in {μ : pm_S} (h : ¬ pm_lp μ = -1) : ∃ j, j < 8 ∧ pm_lp μ = nI j := by
  rcases mlpG_in μ 8 0 with h1 | h1
  · exact absurd h1 h
  · exact h1
theorem mlp_vin {μ : pm_S} (h : ¬ pm_lp μ = -1) : vp_in (pm_lp μ) 8 := by
  obtain ⟨j, hj, e⟩ := mlp_in h
  rw [e]; exact vp_in_nI hj (by decide)
theorem biG_in (μ : pm_S) (f : Int32) : ∀ d i, pm_biG μ f d i = -1 ∨ ∃ j, j < i + d ∧ pm_biG μ f d i = nI j
  | 0, _ => Or.inl rfl
  | d + 1, i => by
    unfold pm_biG; split
    · rcases biG_in μ f d (i + 1) with h | ⟨j, hj, h⟩
      · exact Or.inl h
      · exact Or.inr ⟨j, by omega, h⟩
    · split
      · exact Or.inr ⟨i, by omega, rfl⟩
      · rcases biG_in μ f d (i + 1) with h | ⟨j, hj, h⟩
        · exact Or.inl h
        · exact Or.inr ⟨j, by omega, h⟩
theorem bi_in (μ : pm_S) (f : Int32) : pm_bi μ f = -1 ∨ ∃ j, j < 300 ∧ pm_bi μ f = nI j := by
  have := biG_in μ f 300 0
  rw [Nat.zero_add] at this
  exact this
theorem mlpG_zero (μ : pm_S) : ∀ d i j, pm_lpG μ d i = nI j → i + d ≤ 8 → j < 8 → pm_A μ 0 j = 0
  | 0, _, j, h, _, hj => absurd h.symm (nI_ne_m1 (by omega))
  | d + 1, i, j, h, hi, hj => by
    unfold pm_lpG at h
    split at h
    · rename_i h0
      rw [(nI_eq (by omega) (by omega)).mp h] at h0
      exact h0
    · exact mlpG_zero μ d (i + 1) j h (by omega) hj
theorem mlp_zero {μ : pm_S} {j : Nat} (h : pm_lp μ = nI j) (hj : j < 8) : pm_A μ 0 j = 0 := mlpG_zero μ 8 0 j h (by omega) hj
def pm_bgV (μ : pm_S) (m : Int32) : Int32 := if m < 1 then -1 else if 32 < m then -1 else if pm_lp μ = -1 then -1 else pm_lp μ
def pm_bgW (μ : pm_S) (m : Int32) : pm_S := if m < 1 then μ else if 32 < m then μ else if pm_lp μ = -1 then μ else pm_sA μ 0 (pm_lp μ).toNatClampNeg m
def pm_fk2 (μ : pm_S) (P Q : Nat) : pm_S := pm_fA μ 1 (va_cpy (pm_A μ 1) (pm_A μ 1) (32 * P) (32 * Q) 32)
def pm_fkV (μ : pm_S) (p : Int32) : Int32 := if pm_ip μ p = 0 then -1 else if pm_lp μ = -1 then -1 else pm_lp μ
def pm_fkW (μ : pm_S) (p : Int32) : pm_S := if pm_ip μ p = 0 then μ else if pm_lp μ = -1 then μ else pm_fk2 (pm_sA μ 0 (pm_lp μ).toNatClampNeg (pm_A μ 0 p.toNatClampNeg)) p.toNatClampNeg (pm_lp μ).toNatClampNeg
def pm_enG (P : Nat) : Nat → Nat → pm_S → pm_S
  | 0, _, μ => μ
  | d + 1, i, μ => pm_enG P d (i + 1) (pm_lv μ (32 * P + i))
def pm_enV (μ : pm_S) (p : Int32) : Int32 := if pm_ip μ p = 0 then 0 else 1
def pm_enW (μ : pm_S) (p : Int32) : pm_S := if pm_ip μ p = 0 then μ else pm_sA (pm_enG p.toNatClampNeg 32 0 μ) 0 p.toNatClampNeg 0
theorem lv_bo {μ : pm_S} {k : Nat} (h : ∀ k, k < 256 → pm_A μ 1 k = -1 ∨ ∃ b, b < 300 ∧ pm_A μ 1 k = nI b) : ∀ j, j < 256 → pm_A (pm_lv μ k) 1 j = -1 ∨ ∃ b, b < 300 ∧ pm_A (pm_lv μ k) 1 j = nI b := by
  intro j hj
  have key : pm_A (pm_lv μ k) 1 j = pm_A (pm_sA μ 1 k (-1)) 1 j := by
    unfold pm_lv; split
    · rfl
    · unfold pm_lv2; split
      · rw [pA_sA, if_neg (by omega)]
      · rfl
  rw [key, pA_sA]
  split
  · exact Or.inl rfl
  · exact h j hj
theorem ig_in {μ : pm_S} {p g : Int32} (h : ¬ pm_ig μ p g = 0) : ¬ pm_ip μ p = 0 ∧ ¬ g < 0 ∧ ¬ pm_A μ 0 p.toNatClampNeg ≤ g := by
  unfold pm_ig at h
  split at h
  · exact absurd rfl h
  · split at h
    · exact absurd rfl h
    · split at h
      · exact absurd rfl h
      · exact ⟨by assumption, by assumption, by assumption⟩
theorem ig_nat {F S : Nat} {μ : pm_S} {p g : Int32} (hok : pm_ok F S μ) (h : ¬ pm_ig μ p g = 0) : ∃ P G m, P < 8 ∧ G < m ∧ m ≤ 32 ∧ p = nI P ∧ g = nI G ∧ pm_A μ 0 P = nI m := by
  obtain ⟨h1, h2, h3⟩ := ig_in h
  obtain ⟨P, hP, rfl⟩ := vp_in_of (pm_ip_vin h1) (by decide)
  obtain ⟨m, hm, e⟩ := hok.2.2.2.2.1 P hP
  obtain ⟨G, hG, rfl⟩ := nI_of h2
  rw [nI_clamp (by omega), e] at h3
  exact ⟨P, G, m, hP, Nat.lt_of_not_le fun z => h3 (nI_le z hG), hm, rfl, rfl, e⟩
def pm_sl (p g : Int32) : Nat := (32 * p + g).toNatClampNeg
def pm_drV (μ : pm_S) (p g : Int32) : Int32 := if pm_ig μ p g = 0 then 0 else if pm_A μ 1 (pm_sl p g) = -1 then 0 else 1
def pm_drW (μ : pm_S) (p g : Int32) : pm_S := if pm_ig μ p g = 0 then μ else if pm_A μ 1 (pm_sl p g) = -1 then μ else pm_lv μ (pm_sl p g)
def pm_nd1 (μ : pm_S) (b w : Int32) : Int32 := if w = 0 then 0 else if nI (pm_ho μ b) ≤ 1 then 0 else 1
def pm_nd (μ : pm_S) (b w : Int32) : Int32 := if b = -1 then (if w = 0 then 0 else 1) else if pm_A μ 3 b.toNatClampNeg = -1 then 1 + pm_nd1 μ b w else 0 + pm_nd1 μ b w
def pm_fl2 (F S : Nat) (μ : pm_S) (n : Int32) : Int32 := if n - nI (pm_ff F μ) ≤ 0 then 0 else if n - nI (pm_ff F μ) ≤ nI (pm_fs S μ) then 0 else 2
def pm_flT (F S : Nat) (μ : pm_S) (p a w : Int32) : Int32 := if pm_ip μ p = 0 then 1 else if a < 0 then 1 else if a < 16 * pm_A μ 0 p.toNatClampNeg then pm_fl2 F S μ (pm_nd μ (pm_A μ 1 (32 * p + a / 16).toNatClampNeg) w) else 1
def pm_flR (t : Int32) : Int32 := if t ≤ 0 then 0 else 1
def pm_pgV (μ : pm_S) (p g x : Int32) : Int32 := if pm_ig μ p g = 0 then -1 else if x < 0 then -1 else if x ≤ 3 then (if pm_A μ 1 (pm_sl p g) = -1 then (if 2 ≤ x then 0 else -1) else if x = 0 then pm_A μ 3 (pm_A μ 1 (pm_sl p g)).toNatClampNeg else if x = 1 then pm_A μ 4 (pm_A μ 1 (pm_sl p g)).toNatClampNeg else if x = 2 then nI (pm_ho μ (pm_A μ 1 (pm_sl p g))) else if pm_A μ 3 (pm_A μ 1 (pm_sl p g)).toNatClampNeg = -1 then 0 else if pm_A μ 5 (pm_A μ 1 (pm_sl p g)).toNatClampNeg = 0 then 0 else 1) else -1
def pm_whG (μ : pm_S) (b : Int32) : Nat → Nat → Nat
  | 0, i => i
  | d + 1, i => if pm_A μ 1 i = b then i else pm_whG μ b d (i + 1)
def pm_wh (μ : pm_S) (b : Int32) : Nat := pm_whG μ b 256 0
def pm_fr3 (μ : pm_S) (f x : Int32) : Int32 := if x = 0 then (if pm_bi μ f = -1 then 0 else if pm_A μ 8 f.toNatClampNeg = 0 then 0 else 1) else if pm_bi μ f = -1 then -1 else if x < 0 then -1 else if x ≤ 2 then (if x = 1 then nI (pm_wh μ (pm_bi μ f)) / 32 else nI (pm_wh μ (pm_bi μ f)) - nI (pm_wh μ (pm_bi μ f)) / 32 * 32) else -1
def pm_frV (F : Nat) (μ : pm_S) (f x : Int32) : Int32 := if f < 0 then -1 else if f < nI F then (if x < 16 then pm_fr3 μ f x else if 32 ≤ x then pm_fr3 μ f x else pm_A μ 6 (16 * f + x - 16).toNatClampNeg) else -1
def pm_sdT (S : Nat) (s i : Int32) : Int32 := if s < 0 then 1 else if nI S ≤ s then 1 else if i < 0 then 1 else if i ≤ 15 then 0 else 1
def pm_sdV (S : Nat) (μ : pm_S) (s i : Int32) : Int32 := if pm_sdT S s i ≤ 0 then pm_A μ 7 (16 * s + i).toNatClampNeg else 0
def pm_isB (μ : pm_S) (b : Nat) : Bool := decide (¬ pm_A μ 2 b = 0)
def pm_diB (μ : pm_S) (b : Nat) : Bool := if pm_A μ 2 b = 0 then false else if pm_A μ 3 b = -1 then false else decide (¬ pm_A μ 5 b = 0)
def pm_wsB (μ : pm_S) (b : Nat) : Bool := pm_diB μ b && decide (pm_A μ 4 b = -1)
def pm_lkV (F S : Nat) (μ : pm_S) (x : Int32) : Int32 := if x = 0 then nI (ph_cN (fun p => decide (¬ pm_A μ 0 p ≤ 0)) 8) else if x = 1 then nI (pm_ff F μ) else if x = 2 then nI (pm_fs S μ) else if x = 3 then pm_I μ 3 else if x = 4 then nI (ph_cN (pm_isB μ) 300) else if x = 5 then nI (ph_cN (pm_diB μ) 300) else if x = 6 then pm_I μ 4 else if x = 7 then pm_I μ 5 else if x = 8 then pm_I μ 6 else if x = 9 then pm_I μ 7 else if x = 10 then pm_I μ 8 else -1
abbrev rm_X3_begin : Room := { frames := 1, cells := 0, slots := 0, locals := 21 }
set_option maxHeartbeats 4000000 in
set_option maxRecDepth 100000 in
/-- begin -/
theorem d_begin {D : va_G} {o : Nat → Nat} {ct : Nat → ClassId} {μ : pm_S} (m : Int32) : gM yX3_begin cX3_begin 3 (some .int) rm_X3_begin D (gt ct) (mw o ct μ) [.ref (o 0), .int m] (fun v w => v = some (.int (pm_bgV (pm_sI μ 0 0) m)) ∧ w = mw o ct (pm_bgW (pm_sI μ 0 0) m)) := by
  refine gM_in RX3 rfl (by decide) (Nat.le_of_ble_eq_true rfl) (fun X C => ?_)
  refine gV_aload_n (pc := 0) (x := o 0) C dX3_begin_0 0 rfl rfl ?_
  refine gV_iconst (pc := 1) (v := 0) C dX3_begin_1 (by decide) ?_
  refine mp_thrown (pc := 2) C fl_X3_45 dX3_begin_2 ?_
  refine gV_aload_n (pc := 5) (x := o 0) C dX3_begin_5 0 rfl rfl ?_
  refine gV_callV (pc := 6) (As := []) (rest := []) C ml_X3_81 gy_X3_leastProcess gv_X3_leastProcess (d_leastProcess) ⟨0, 3, _, _, rfl, rfl, rfl⟩ rfl rfl ⟨by decide, by decide⟩ (Nat.le_of_ble_eq_true rfl) (by decide) (by decide) dX3_begin_6 ?_
  rintro _ _ ⟨rfl, rfl⟩
  refine gV_istore_n (pc := 9) (lv' := [(2, .int (pm_lp (pm_sI μ 0 0))), (0, .ref (o 0)), (1, .int m)]) C dX3_begin_9 rfl (by decide) rfl ?_
  refine gV_iload_n (pc := 10) C dX3_begin_10 2 rfl rfl ?_
  refine gV_iconst (pc := 11) (v := 1) C dX3_begin_11 (by decide) ?_
  refine gV_icmp_lt (pc := 12) C 26 dX3_begin_12 (by decide) (fun c_1 => ?_) (fun c_1 => ?_)
  · skip
    refine gV_iconst (pc := 26) (v := (-1)) C dX3_begin_26 (by decide) ?_
    refine gV_iret (pc := 27) C dX3_begin_27 (by decide) (by decide) ?_
    exact ⟨by rw [pm_bgV, if_pos c_1], by rw [pm_bgW, if_pos c_1]⟩
  · skip
    refine gV_iload_n (pc := 15) C dX3_begin_15 2 rfl rfl ?_
    refine gV_bipush (pc := 16) (v := 32) C dX3_begin_16 (by decide) ?_
    refine gV_icmp_gt (pc := 18) C 26 dX3_begin_18 (by decide) (fun c_2 => ?_) (fun c_2 => ?_)
    · skip
      refine gV_iconst (pc := 26) (v := (-1)) C dX3_begin_26 (by decide) ?_
      refine gV_iret (pc := 27) C dX3_begin_27 (by decide) (by decide) ?_
      exact ⟨by rw [pm_bgV, if_neg c_1, if_pos c_2], by rw [pm_bgW, if_neg c_1, if_pos c_2]⟩
    · skip
      refine gV_iload_n (pc := 21) C dX3_begin_21 0 rfl rfl ?_
      refine gV_iconst (pc := 22) (v := (-1)) C dX3_begin_22 (by decide) ?_
      refine gV_icmp_ne (pc := 23) C 28 dX3_begin_23 (by decide) (fun c_3 => ?_) (fun c_3 => ?_)
      · skip
        refine gV_aload_n (pc := 28) (x := o 0) C dX3_begin_28 1 rfl rfl ?_
        refine mg_pages (pc := 29) C fl_X3_7 dX3_begin_29 ?_
        refine gV_iload_n (pc := 32) C dX3_begin_32 0 rfl rfl ?_
        refine gV_iload_n (pc := 33) C dX3_begin_33 2 rfl rfl ?_
        refine ms_pages (pc := 34) C (mlp_vin c_3) dX3_begin_34 ?_
        refine gV_iload_n (pc := 35) C dX3_begin_35 0 rfl rfl ?_
        refine gV_iret (pc := 36) C dX3_begin_36 (by decide) (by decide) ?_
        exact ⟨by rw [pm_bgV, if_neg c_1, if_neg c_2, if_neg c_3], by rw [pm_bgW, if_neg c_1, if_neg c_2, if_neg c_3]⟩
      · skip
        refine gV_iconst (pc := 26) (v := (-1)) C dX3_begin_26 (by decide) ?_
        refine gV_iret (pc := 27) C dX3_begin_27 (by decide) (by decide) ?_
        exact ⟨by rw [pm_bgV, if_neg c_1, if_neg c_2, if_pos c_3], by rw [pm_bgW, if_neg c_1, if_neg c_2, if_pos c_3]⟩
abbrev rm_X3_fork : Room := { frames := 1, cells := 0, slots := 0, locals := 21 }
set_option maxHeartbeats 4000000 in
set_option maxRecDepth 100000 in
theorem mlp_fork {X : gx_T} {D : va_G} {o : Nat → Nat} {ct : Nat → ClassId} {μ : pm_S} {ρ τ : pm_S} {P Q : Nat} (hP : P < 8) (hQ : Q < 8) (hPQ : ¬ P = Q) (hv : pm_fkV ρ (nI P) = nI Q) (hw : pm_fk2 τ P Q = pm_fkW ρ (nI P)) (C : gC X cX3_fork 4 RX3 rm_X3_fork (some .int) D (gt ct) (fun v w => v = some (.int (pm_fkV ρ (nI P))) ∧ w = mw o ct (pm_fkW ρ (nI P)))) : ∀ d i : Nat, i + d = 32 → gV X 0 0 (mw o ct (pm_fA τ 1 (va_cpy (pm_A τ 1) (pm_A τ 1) (32 * P) (32 * Q) i))) 39 [(3, .int (nI i)), (2, .int (nI Q)), (0, .ref (o 0)), (1, .int (nI P))] [] := by
  intro d
  induction d with
  | zero =>
    intro i hi
    have e : i = 32 := by omega
    rw [e]
    refine gV_iload_n (pc := 39) C dX3_fork_39 0 rfl rfl ?_
    refine gV_bipush (pc := 40) (v := 32) C dX3_fork_40 (by decide) ?_
    refine gV_icmp_ge (pc := 42) C 73 dX3_fork_42 (by decide) (fun c_1 => ?_) (fun c_1 => ?_)
    · skip
      refine gV_iload_n (pc := 73) C dX3_fork_73 1 rfl rfl ?_
      refine gV_iret (pc := 74) C dX3_fork_74 (by decide) (by decide) ?_
      exact ⟨by rw [hv], by rw [← hw]; rfl⟩
    · exact absurd (by decide) c_1
  | succ d ih =>
    intro i hi
    refine gV_iload_n (pc := 39) C dX3_fork_39 0 rfl rfl ?_
    refine gV_bipush (pc := 40) (v := 32) C dX3_fork_40 (by decide) ?_
    refine gV_icmp_ge (pc := 42) C 73 dX3_fork_42 (by decide) (fun c_1 => ?_) (fun c_1 => ?_)
    · exact absurd c_1 (nI_ge (a := i) (b := 32) (by omega) (by omega))
    · skip
      refine gV_aload_n (pc := 45) (x := o 0) C dX3_fork_45 2 rfl rfl ?_
      refine mg_bodyOf (pc := 46) C fl_X3_13 dX3_fork_46 ?_
      refine gV_bipush (pc := 49) (v := 32) C dX3_fork_49 (by decide) ?_
      refine gV_iload_n (pc := 51) C dX3_fork_51 1 rfl rfl ?_
      refine gV_imul (pc := 52) C dX3_fork_52 ?_
      refine gV_iload_n (pc := 53) C dX3_fork_53 0 rfl rfl ?_
      refine gV_iadd (pc := 54) C dX3_fork_54 ?_
      rw [show (32 * (nI Q)) + (nI i) = nI (32 * Q + i) from ix32 _ _]
      refine gV_aload_n (pc := 55) (x := o 0) C dX3_fork_55 2 rfl rfl ?_
      refine mg_bodyOf (pc := 56) C fl_X3_13 dX3_fork_56 ?_
      refine gV_bipush (pc := 59) (v := 32) C dX3_fork_59 (by decide) ?_
      refine gV_iload_n (pc := 61) C dX3_fork_61 3 rfl rfl ?_
      refine gV_imul (pc := 62) C dX3_fork_62 ?_
      refine gV_iload_n (pc := 63) C dX3_fork_63 0 rfl rfl ?_
      refine gV_iadd (pc := 64) C dX3_fork_64 ?_
      rw [show (32 * (nI P)) + (nI i) = nI (32 * P + i) from ix32 _ _]
      refine ma_bodyOf (pc := 65) C (vp_in_nI (by omega) (by omega)) dX3_fork_65 ?_
      rw [nI_clamp (by omega)]
      rw [show pm_A (pm_fA τ 1 (va_cpy (pm_A τ 1) (pm_A τ 1) (32 * P) (32 * Q) i)) 1 (32 * P + i) = pm_A τ 1 (32 * P + i) from by rw [pA_fA, if_pos rfl, va_cpy, if_neg (by omega)]]
      refine ms_bodyOf (pc := 66) C (vp_in_nI (by omega) (by omega)) dX3_fork_66 ?_
      rw [nI_clamp (by omega)]
      refine gV_iinc (pc := 67) (v := nI (i + 1)) (lv' := [(3, .int (nI (i + 1))), (2, .int (nI Q)), (0, .ref (o 0)), (1, .int (nI P))]) C dX3_fork_67 0 rfl (nI_1 _) (by decide) rfl ?_
      refine gV_goto (pc := 70) C 39 dX3_fork_70 (by decide) ?_
      rw [pm_sA_fA, cpy_s]
      exact ih (i + 1) (by omega)
set_option maxHeartbeats 4000000 in
set_option maxRecDepth 100000 in
/-- fork -/
theorem d_fork {D : va_G} {o : Nat → Nat} {ct : Nat → ClassId} {μ : pm_S} (p : Int32) : gM yX3_fork cX3_fork 4 (some .int) rm_X3_fork D (gt ct) (mw o ct μ) [.ref (o 0), .int p] (fun v w => v = some (.int (pm_fkV (pm_sI μ 0 0) p)) ∧ w = mw o ct (pm_fkW (pm_sI μ 0 0) p)) := by
  refine gM_in RX3 rfl (by decide) (Nat.le_of_ble_eq_true rfl) (fun X C => ?_)
  refine gV_aload_n (pc := 0) (x := o 0) C dX3_fork_0 0 rfl rfl ?_
  refine gV_iconst (pc := 1) (v := 0) C dX3_fork_1 (by decide) ?_
  refine mp_thrown (pc := 2) C fl_X3_45 dX3_fork_2 ?_
  refine gV_aload_n (pc := 5) (x := o 0) C dX3_fork_5 0 rfl rfl ?_
  refine gV_callV (pc := 6) (As := []) (rest := []) C ml_X3_81 gy_X3_leastProcess gv_X3_leastProcess (d_leastProcess) ⟨0, 3, _, _, rfl, rfl, rfl⟩ rfl rfl ⟨by decide, by decide⟩ (Nat.le_of_ble_eq_true rfl) (by decide) (by decide) dX3_fork_6 ?_
  rintro _ _ ⟨rfl, rfl⟩
  refine gV_istore_n (pc := 9) (lv' := [(2, .int (pm_lp (pm_sI μ 0 0))), (0, .ref (o 0)), (1, .int p)]) C dX3_fork_9 rfl (by decide) rfl ?_
  refine gV_aload_n (pc := 10) (x := o 0) C dX3_fork_10 1 rfl rfl ?_
  refine gV_iload_n (pc := 11) C dX3_fork_11 2 rfl rfl ?_
  refine gV_callV (pc := 12) (As := [.int p]) (rest := []) C ml_X3_48 gy_X3_isProcess gv_X3_isProcess (d_isProcess _) ⟨0, 3, _, _, rfl, rfl, rfl⟩ rfl rfl ⟨by decide, by decide⟩ (Nat.le_of_ble_eq_true rfl) (by decide) (by decide) dX3_fork_12 ?_
  rintro _ _ ⟨rfl, rfl⟩
  refine gV_if_eq (pc := 15) C 23 dX3_fork_15 (by decide) (fun c_1 => ?_) (fun c_1 => ?_)
  · skip
    refine gV_iconst (pc := 23) (v := (-1)) C dX3_fork_23 (by decide) ?_
    refine gV_iret (pc := 24) C dX3_fork_24 (by decide) (by decide) ?_
    exact ⟨by rw [pm_fkV, if_pos c_1], by rw [pm_fkW, if_pos c_1]⟩
  · skip
    refine gV_iload_n (pc := 18) C dX3_fork_18 0 rfl rfl ?_
    refine gV_iconst (pc := 19) (v := (-1)) C dX3_fork_19 (by decide) ?_
    refine gV_icmp_ne (pc := 20) C 25 dX3_fork_20 (by decide) (fun c_2 => ?_) (fun c_2 => ?_)
    · skip
      obtain ⟨P, hP, rfl⟩ := vp_in_of (pm_ip_vin c_1) (by decide)
      obtain ⟨Q, hQ, eQ⟩ := mlp_in c_2
      have eP : (nI P).toNatClampNeg = P := nI_clamp (by omega)
      have hPQ : ¬ P = Q := fun e => by
        have h9 := (pm_ip_in c_1).2.2
        rw [eP, e] at h9
        exact h9 (by rw [mlp_zero eQ hQ]; decide)
      rw [eQ]
      refine gV_aload_n (pc := 25) (x := o 0) C dX3_fork_25 1 rfl rfl ?_
      refine mg_pages (pc := 26) C fl_X3_7 dX3_fork_26 ?_
      refine gV_iload_n (pc := 29) C dX3_fork_29 0 rfl rfl ?_
      refine gV_aload_n (pc := 30) (x := o 0) C dX3_fork_30 1 rfl rfl ?_
      refine mg_pages (pc := 31) C fl_X3_7 dX3_fork_31 ?_
      refine gV_iload_n (pc := 34) C dX3_fork_34 2 rfl rfl ?_
      refine ma_pages (pc := 35) C (vp_in_nI (by omega) (by omega)) dX3_fork_35 ?_
      rw [nI_clamp (by omega)]
      refine ms_pages (pc := 36) C (vp_in_nI (by omega) (by omega)) dX3_fork_36 ?_
      rw [nI_clamp (by omega)]
      refine gV_iconst (pc := 37) (v := 0) C dX3_fork_37 (by decide) ?_
      refine gV_istore_n (pc := 38) (lv' := [(3, .int 0), (2, .int (nI Q)), (0, .ref (o 0)), (1, .int (nI P))]) C dX3_fork_38 rfl (by decide) rfl ?_
      refine gV_ws (congrArg (mw o ct) (show _ = pm_fA (pm_sA (pm_sI μ 0 0) 0 Q (pm_A (pm_sI μ 0 0) 0 P)) 1 (va_cpy (pm_A (pm_sA (pm_sI μ 0 0) 0 Q (pm_A (pm_sI μ 0 0) 0 P)) 1) (pm_A (pm_sA (pm_sI μ 0 0) 0 Q (pm_A (pm_sI μ 0 0) 0 P)) 1) (32 * P) (32 * Q) 0) by rw [cpy_0, pm_fA_self])) ?_
      exact mlp_fork (μ := μ) (ρ := pm_sI μ 0 0) hP hQ hPQ (by rw [pm_fkV, if_neg c_1, if_neg c_2, eQ]) (by rw [pm_fkW, if_neg c_1, if_neg c_2, eP, eQ, nI_clamp (by omega)]) C 32 0 rfl
    · skip
      refine gV_iconst (pc := 23) (v := (-1)) C dX3_fork_23 (by decide) ?_
      refine gV_iret (pc := 24) C dX3_fork_24 (by decide) (by decide) ?_
      exact ⟨by rw [pm_fkV, if_neg c_1, if_pos c_2], by rw [pm_fkW, if_neg c_1, if_pos c_2]⟩
abbrev rm_X3_end : Room := { frames := 2, cells := 0, slots := 0, locals := 45 }
set_option maxHeartbeats 4000000 in
set_option maxRecDepth 100000 in
theorem mlp_end {X : gx_T} {D : va_G} {o : Nat → Nat} {ct : Nat → ClassId} {μ : pm_S} {ρ : pm_S} {P : Nat} (hP : P < 8) (hv : pm_enV ρ (nI P) = 1) (C : gC X cX3_end 3 RX3 rm_X3_end (some .boolean) D (gt ct) (fun v w => v = some (.int (pm_enV ρ (nI P))) ∧ w = mw o ct (pm_enW ρ (nI P)))) : ∀ (d i : Nat) (τ : pm_S), i + d = 32 → (∀ k, k < 256 → pm_A τ 1 k = -1 ∨ ∃ b, b < 300 ∧ pm_A τ 1 k = nI b) → pm_sA (pm_enG P d i τ) 0 P 0 = pm_enW ρ (nI P) → gV X 0 0 (mw o ct τ) 17 [(2, .int (nI i)), (0, .ref (o 0)), (1, .int (nI P))] [] := by
  intro d
  induction d with
  | zero =>
    intro i τ hi hbo hr
    have e : pm_sA τ 0 P 0 = pm_enW ρ (nI P) := hr
    refine gV_iload_n (pc := 17) C dX3_end_17 0 rfl rfl ?_
    refine gV_bipush (pc := 18) (v := 32) C dX3_end_18 (by decide) ?_
    refine gV_icmp_ge (pc := 20) C 39 dX3_end_20 (by decide) (fun c_1 => ?_) (fun c_1 => ?_)
    · skip
      refine gV_aload_n (pc := 39) (x := o 0) C dX3_end_39 1 rfl rfl ?_
      refine mg_pages (pc := 40) C fl_X3_7 dX3_end_40 ?_
      refine gV_iload_n (pc := 43) C dX3_end_43 2 rfl rfl ?_
      refine gV_iconst (pc := 44) (v := 0) C dX3_end_44 (by decide) ?_
      refine ms_pages (pc := 45) C (vp_in_nI (by omega) (by omega)) dX3_end_45 ?_
      rw [nI_clamp (by omega)]
      refine gV_iconst (pc := 46) (v := 1) C dX3_end_46 (by decide) ?_
      refine gV_zret (pc := 47) C dX3_end_47 (by decide) (by decide) (by decide) ?_
      exact ⟨by rw [hv], by rw [e]⟩
    · exact absurd (nI_le (a := 32) (b := i) (by omega) (by omega)) c_1
  | succ d ih =>
    intro i τ hi hbo hr
    refine gV_iload_n (pc := 17) C dX3_end_17 0 rfl rfl ?_
    refine gV_bipush (pc := 18) (v := 32) C dX3_end_18 (by decide) ?_
    refine gV_icmp_ge (pc := 20) C 39 dX3_end_20 (by decide) (fun c_1 => ?_) (fun c_1 => ?_)
    · exact absurd c_1 (nI_ge (a := i) (b := 32) (by omega) (by omega))
    · skip
      refine gV_aload_n (pc := 23) (x := o 0) C dX3_end_23 1 rfl rfl ?_
      refine gV_bipush (pc := 24) (v := 32) C dX3_end_24 (by decide) ?_
      refine gV_iload_n (pc := 26) C dX3_end_26 2 rfl rfl ?_
      refine gV_imul (pc := 27) C dX3_end_27 ?_
      refine gV_iload_n (pc := 28) C dX3_end_28 0 rfl rfl ?_
      refine gV_iadd (pc := 29) C dX3_end_29 ?_
      rw [show (32 * (nI P)) + (nI i) = nI (32 * P + i) from ix32 _ _]
      refine gV_callV (pc := 30) (As := [.int (nI (32 * P + i))]) (rest := []) C ml_X3_85 gy_X3_leave gv_X3_leave (d_leave (k := (32 * P + i)) (by omega) (hbo _ (by omega))) ⟨0, 3, _, _, rfl, rfl, rfl⟩ rfl rfl ⟨by decide, by decide⟩ (Nat.le_of_ble_eq_true rfl) (by decide) (by decide) dX3_end_30 ?_
      rintro _ _ ⟨rfl, rfl⟩
      refine gV_iinc (pc := 33) (v := nI (i + 1)) (lv' := [(2, .int (nI (i + 1))), (0, .ref (o 0)), (1, .int (nI P))]) C dX3_end_33 0 rfl (nI_1 _) (by decide) rfl ?_
      refine gV_goto (pc := 36) C 17 dX3_end_36 (by decide) ?_
      exact ih (i + 1) _ (by omega) (lv_bo hbo) (by rw [← hr, pm_enG])
set_option maxHeartbeats 4000000 in
set_option maxRecDepth 100000 in
/-- end -/
theorem d_end {D : va_G} {o : Nat → Nat} {ct : Nat → ClassId} {μ : pm_S} {F S : Nat} (p : Int32) (hok : pm_ok F S μ) : gM yX3_end cX3_end 3 (some .boolean) rm_X3_end D (gt ct) (mw o ct μ) [.ref (o 0), .int p] (fun v w => v = some (.int (pm_enV (pm_sI μ 0 0) p)) ∧ w = mw o ct (pm_enW (pm_sI μ 0 0) p)) := by
  refine gM_in RX3 rfl (by decide) (Nat.le_of_ble_eq_true rfl) (fun X C => ?_)
  obtain ⟨⟨hF2, hF16, hS64⟩, e1, e2, hhd, hpn, hbo⟩ := id hok
  refine gV_aload_n (pc := 0) (x := o 0) C dX3_end_0 0 rfl rfl ?_
  refine gV_iconst (pc := 1) (v := 0) C dX3_end_1 (by decide) ?_
  refine mp_thrown (pc := 2) C fl_X3_45 dX3_end_2 ?_
  refine gV_aload_n (pc := 5) (x := o 0) C dX3_end_5 0 rfl rfl ?_
  refine gV_iload_n (pc := 6) C dX3_end_6 1 rfl rfl ?_
  refine gV_callV (pc := 7) (As := [.int p]) (rest := []) C ml_X3_48 gy_X3_isProcess gv_X3_isProcess (d_isProcess _) ⟨0, 3, _, _, rfl, rfl, rfl⟩ rfl rfl ⟨by decide, by decide⟩ (Nat.le_of_ble_eq_true rfl) (by decide) (by decide) dX3_end_7 ?_
  rintro _ _ ⟨rfl, rfl⟩
  refine gV_if_ne (pc := 10) C 15 dX3_end_10 (by decide) (fun c_1 => ?_) (fun c_1 => ?_)
  · skip
    obtain ⟨P, hP, rfl⟩ := vp_in_of (pm_ip_vin c_1) (by decide)
    have eP : (nI P).toNatClampNeg = P := nI_clamp (by omega)
    refine gV_iconst (pc := 15) (v := 0) C dX3_end_15 (by decide) ?_
    refine gV_istore_n (pc := 16) (lv' := [(2, .int 0), (0, .ref (o 0)), (1, .int (nI P))]) C dX3_end_16 rfl (by decide) rfl ?_
    exact mlp_end (μ := μ) (ρ := pm_sI μ 0 0) hP (by rw [pm_enV, if_neg c_1]) C 32 0 _ rfl hbo (by rw [pm_enW, if_neg c_1, eP])
  · skip
    refine gV_iconst (pc := 13) (v := 0) C dX3_end_13 (by decide) ?_
    refine gV_zret (pc := 14) C dX3_end_14 (by decide) (by decide) (by decide) ?_
    exact ⟨by rw [pm_enV, if_pos c_1], by rw [pm_enW, if_pos c_1]⟩
abbrev rm_X3_drop : Room := { frames := 2, cells := 0, slots := 0, locals := 45 }
set_option maxHeartbeats 4000000 in
set_option maxRecDepth 100000 in
/-- drop -/
theorem d_drop {D : va_G} {o : Nat → Nat} {ct : Nat → ClassId} {μ : pm_S} {F S : Nat} (p g : Int32) (hok : pm_ok F S μ) : gM yX3_drop cX3_drop 3 (some .boolean) rm_X3_drop D (gt ct) (mw o ct μ) [.ref (o 0), .int p, .int g] (fun v w => v = some (.int (pm_drV (pm_sI μ 0 0) p g)) ∧ w = mw o ct (pm_drW (pm_sI μ 0 0) p g)) := by
  refine gM_in RX3 rfl (by decide) (Nat.le_of_ble_eq_true rfl) (fun X C => ?_)
  obtain ⟨⟨hF2, hF16, hS64⟩, e1, e2, hhd, hpn, hbo⟩ := id hok
  refine gV_aload_n (pc := 0) (x := o 0) C dX3_drop_0 0 rfl rfl ?_
  refine gV_iconst (pc := 1) (v := 0) C dX3_drop_1 (by decide) ?_
  refine mp_thrown (pc := 2) C fl_X3_45 dX3_drop_2 ?_
  refine gV_aload_n (pc := 5) (x := o 0) C dX3_drop_5 0 rfl rfl ?_
  refine gV_iload_n (pc := 6) C dX3_drop_6 1 rfl rfl ?_
  refine gV_iload_n (pc := 7) C dX3_drop_7 2 rfl rfl ?_
  refine gV_callV (pc := 8) (As := [.int p, .int g]) (rest := []) C ml_X3_88 gy_X3_isPage gv_X3_isPage (d_isPage _ _) ⟨0, 3, _, _, rfl, rfl, rfl⟩ rfl rfl ⟨by decide, by decide⟩ (Nat.le_of_ble_eq_true rfl) (by decide) (by decide) dX3_drop_8 ?_
  rintro _ _ ⟨rfl, rfl⟩
  refine gV_if_eq (pc := 11) C 29 dX3_drop_11 (by decide) (fun c_1 => ?_) (fun c_1 => ?_)
  · skip
    refine gV_iconst (pc := 29) (v := 0) C dX3_drop_29 (by decide) ?_
    refine gV_zret (pc := 30) C dX3_drop_30 (by decide) (by decide) (by decide) ?_
    exact ⟨by rw [pm_drV, if_pos c_1], by rw [pm_drW, if_pos c_1]⟩
  · skip
    obtain ⟨P, G, m, hP, hG, hm, rfl, rfl, em⟩ := ig_nat (mok_sI hok 0 (Or.inl rfl)) c_1
    have es : pm_sl (nI P) (nI G) = 32 * P + G := by rw [pm_sl, ix32, nI_clamp (by omega)]
    refine gV_aload_n (pc := 14) (x := o 0) C dX3_drop_14 0 rfl rfl ?_
    refine mg_bodyOf (pc := 15) C fl_X3_13 dX3_drop_15 ?_
    refine gV_bipush (pc := 18) (v := 32) C dX3_drop_18 (by decide) ?_
    refine gV_iload_n (pc := 20) C dX3_drop_20 1 rfl rfl ?_
    refine gV_imul (pc := 21) C dX3_drop_21 ?_
    refine gV_iload_n (pc := 22) C dX3_drop_22 2 rfl rfl ?_
    refine gV_iadd (pc := 23) C dX3_drop_23 ?_
    rw [show (32 * (nI P)) + (nI G) = nI (32 * P + G) from ix32 _ _]
    refine ma_bodyOf (pc := 24) C (vp_in_nI (by omega) (by omega)) dX3_drop_24 ?_
    rw [nI_clamp (by omega)]
    refine gV_iconst (pc := 25) (v := (-1)) C dX3_drop_25 (by decide) ?_
    refine gV_icmp_ne (pc := 26) C 31 dX3_drop_26 (by decide) (fun c_2 => ?_) (fun c_2 => ?_)
    · skip
      refine gV_aload_n (pc := 31) (x := o 0) C dX3_drop_31 0 rfl rfl ?_
      refine gV_bipush (pc := 32) (v := 32) C dX3_drop_32 (by decide) ?_
      refine gV_iload_n (pc := 34) C dX3_drop_34 1 rfl rfl ?_
      refine gV_imul (pc := 35) C dX3_drop_35 ?_
      refine gV_iload_n (pc := 36) C dX3_drop_36 2 rfl rfl ?_
      refine gV_iadd (pc := 37) C dX3_drop_37 ?_
      rw [show (32 * (nI P)) + (nI G) = nI (32 * P + G) from ix32 _ _]
      refine gV_callV (pc := 38) (As := [.int (nI (32 * P + G))]) (rest := []) C ml_X3_85 gy_X3_leave gv_X3_leave (d_leave (k := (32 * P + G)) (by omega) (hbo _ (by omega))) ⟨0, 3, _, _, rfl, rfl, rfl⟩ rfl rfl ⟨by decide, by decide⟩ (Nat.le_of_ble_eq_true rfl) (by decide) (by decide) dX3_drop_38 ?_
      rintro _ _ ⟨rfl, rfl⟩
      refine gV_iconst (pc := 41) (v := 1) C dX3_drop_41 (by decide) ?_
      refine gV_zret (pc := 42) C dX3_drop_42 (by decide) (by decide) (by decide) ?_
      exact ⟨by rw [pm_drV, if_neg c_1, es, if_neg c_2], by rw [pm_drW, if_neg c_1, es, if_neg c_2]⟩
    · skip
      refine gV_iconst (pc := 29) (v := 0) C dX3_drop_29 (by decide) ?_
      refine gV_zret (pc := 30) C dX3_drop_30 (by decide) (by decide) (by decide) ?_
      exact ⟨by rw [pm_drV, if_neg c_1, es, if_pos c_2], by rw [pm_drW, if_neg c_1, es, if_pos c_2]⟩
abbrev rm_X3_fails : Room := { frames := 2, cells := 0, slots := 0, locals := 44 }
set_option maxHeartbeats 4000000 in
set_option maxRecDepth 100000 in
theorem mlp_fails2 {X : gx_T} {D : va_G} {o : Nat → Nat} {ct : Nat → ClassId} {μ : pm_S} {F S : Nat} {p a y b n t : Int32} (hF : F ≤ 16) (hS : S ≤ 64) (e1 : pm_I μ 1 = nI F) (e2 : pm_I μ 2 = nI S) (ht : pm_fl2 F S μ n = t) (C : gC X cX3_fails 6 RX3 rm_X3_fails (some .boolean) D (gt ct) (fun v w => v = some (.int (pm_flR t)) ∧ w = mw o ct (pm_sI μ 0 t))) : gV X 0 0 (mw o ct (pm_sI μ 0 1)) 102 [(4, .int b), (0, .ref (o 0)), (1, .int p), (2, .int a), (3, .int y)] [.int n] := by
  refine gV_istore (pc := 102) (lv' := [(5, .int n), (4, .int b), (0, .ref (o 0)), (1, .int p), (2, .int a), (3, .int y)]) C dX3_fails_102 (by decide) rfl ?_
  refine gV_aload_n (pc := 104) (x := o 0) C dX3_fails_104 2 rfl rfl ?_
  refine gV_iload (pc := 105) C dX3_fails_105 0 rfl ?_
  refine gV_aload_n (pc := 107) (x := o 0) C dX3_fails_107 2 rfl rfl ?_
  refine gV_callV (pc := 108) (As := []) (rest := [.int n, .ref (o 0)]) C ml_X3_92 gy_X3_freeFrames gv_X3_freeFrames (d_freeFrames (F := F) e1 (by omega)) ⟨0, 3, _, _, rfl, rfl, rfl⟩ rfl rfl ⟨by decide, by decide⟩ (Nat.le_of_ble_eq_true rfl) (by decide) (by decide) dX3_fails_108 ?_
  rintro _ _ ⟨rfl, rfl⟩
  rw [ff_sI]
  refine gV_isub (pc := 111) C dX3_fails_111 ?_
  refine gV_if_le (pc := 112) C 133 dX3_fails_112 (by decide) (fun c_1 => ?_) (fun c_1 => ?_)
  · skip
    refine gV_iconst (pc := 133) (v := 0) C dX3_fails_133 (by decide) ?_
    have et : t = 0 := by rw [← ht, pm_fl2, if_pos c_1]
    rw [← et]
    refine mp_thrown (pc := 134) C fl_X3_45 dX3_fails_134 ?_
    refine gV_aload_n (pc := 137) (x := o 0) C dX3_fails_137 2 rfl rfl ?_
    refine mg_thrown (pc := 138) C fl_X3_45 dX3_fails_138 ?_
    rw [show pm_I (pm_sI (pm_sI μ 0 1) 0 t) 0 = t from rfl]
    refine gV_if_le (pc := 141) C 148 dX3_fails_141 (by decide) (fun c_12 => ?_) (fun c_12 => ?_)
    · skip
      refine gV_iconst (pc := 148) (v := 0) C dX3_fails_148 (by decide) ?_
      refine gV_zret (pc := 149) C dX3_fails_149 (by decide) (by decide) (by decide) ?_
      exact ⟨by rw [pm_flR, if_pos c_12], by rw [sI_sI]⟩
    · skip
      refine gV_iconst (pc := 144) (v := 1) C dX3_fails_144 (by decide) ?_
      refine gV_goto (pc := 145) C 149 dX3_fails_145 (by decide) ?_
      refine gV_zret (pc := 149) C dX3_fails_149 (by decide) (by decide) (by decide) ?_
      exact ⟨by rw [pm_flR, if_neg c_12], by rw [sI_sI]⟩
  · skip
    refine gV_iload (pc := 115) C dX3_fails_115 0 rfl ?_
    refine gV_aload_n (pc := 117) (x := o 0) C dX3_fails_117 2 rfl rfl ?_
    refine gV_callV (pc := 118) (As := []) (rest := [.int n, .ref (o 0)]) C ml_X3_92 gy_X3_freeFrames gv_X3_freeFrames (d_freeFrames (F := F) e1 (by omega)) ⟨0, 3, _, _, rfl, rfl, rfl⟩ rfl rfl ⟨by decide, by decide⟩ (Nat.le_of_ble_eq_true rfl) (by decide) (by decide) dX3_fails_118 ?_
    rintro _ _ ⟨rfl, rfl⟩
    rw [ff_sI]
    refine gV_isub (pc := 121) C dX3_fails_121 ?_
    refine gV_aload_n (pc := 122) (x := o 0) C dX3_fails_122 2 rfl rfl ?_
    refine gV_callV (pc := 123) (As := []) (rest := [.int (n - (nI (pm_ff F μ))), .ref (o 0)]) C ml_X3_95 gy_X3_freeSectors gv_X3_freeSectors (d_freeSectors (S := S) e2 (by omega)) ⟨0, 3, _, _, rfl, rfl, rfl⟩ rfl rfl ⟨by decide, by decide⟩ (Nat.le_of_ble_eq_true rfl) (by decide) (by decide) dX3_fails_123 ?_
    rintro _ _ ⟨rfl, rfl⟩
    rw [fs_sI]
    refine gV_icmp_le (pc := 126) C 133 dX3_fails_126 (by decide) (fun c_13 => ?_) (fun c_13 => ?_)
    · skip
      refine gV_iconst (pc := 133) (v := 0) C dX3_fails_133 (by decide) ?_
      have et : t = 0 := by rw [← ht, pm_fl2, if_neg c_1, if_pos c_13]
      rw [← et]
      refine mp_thrown (pc := 134) C fl_X3_45 dX3_fails_134 ?_
      refine gV_aload_n (pc := 137) (x := o 0) C dX3_fails_137 2 rfl rfl ?_
      refine mg_thrown (pc := 138) C fl_X3_45 dX3_fails_138 ?_
      rw [show pm_I (pm_sI (pm_sI μ 0 1) 0 t) 0 = t from rfl]
      refine gV_if_le (pc := 141) C 148 dX3_fails_141 (by decide) (fun c_24 => ?_) (fun c_24 => ?_)
      · skip
        refine gV_iconst (pc := 148) (v := 0) C dX3_fails_148 (by decide) ?_
        refine gV_zret (pc := 149) C dX3_fails_149 (by decide) (by decide) (by decide) ?_
        exact ⟨by rw [pm_flR, if_pos c_24], by rw [sI_sI]⟩
      · skip
        refine gV_iconst (pc := 144) (v := 1) C dX3_fails_144 (by decide) ?_
        refine gV_goto (pc := 145) C 149 dX3_fails_145 (by decide) ?_
        refine gV_zret (pc := 149) C dX3_fails_149 (by decide) (by decide) (by decide) ?_
        exact ⟨by rw [pm_flR, if_neg c_24], by rw [sI_sI]⟩
    · skip
      refine gV_iconst (pc := 129) (v := 2) C dX3_fails_129 (by decide) ?_
      refine gV_goto (pc := 130) C 134 dX3_fails_130 (by decide) ?_
      have et : t = 2 := by rw [← ht, pm_fl2, if_neg c_1, if_neg c_13]
      rw [← et]
      refine mp_thrown (pc := 134) C fl_X3_45 dX3_fails_134 ?_
      refine gV_aload_n (pc := 137) (x := o 0) C dX3_fails_137 2 rfl rfl ?_
      refine mg_thrown (pc := 138) C fl_X3_45 dX3_fails_138 ?_
      rw [show pm_I (pm_sI (pm_sI μ 0 1) 0 t) 0 = t from rfl]
      refine gV_if_le (pc := 141) C 148 dX3_fails_141 (by decide) (fun c_35 => ?_) (fun c_35 => ?_)
      · skip
        refine gV_iconst (pc := 148) (v := 0) C dX3_fails_148 (by decide) ?_
        refine gV_zret (pc := 149) C dX3_fails_149 (by decide) (by decide) (by decide) ?_
        exact ⟨by rw [pm_flR, if_pos c_35], by rw [sI_sI]⟩
      · skip
        refine gV_iconst (pc := 144) (v := 1) C dX3_fails_144 (by decide) ?_
        refine gV_goto (pc := 145) C 149 dX3_fails_145 (by decide) ?_
        refine gV_zret (pc := 149) C dX3_fails_149 (by decide) (by decide) (by decide) ?_
        exact ⟨by rw [pm_flR, if_neg c_35], by rw [sI_sI]⟩
theorem nd1_eq {μ : pm_S} {b w : Int32} {x : Int32} (h : pm_nd1 μ b w = x) : pm_nd1 μ b w = x := h
set_option maxHeartbeats 4000000 in
set_option maxRecDepth 100000 in
/-- fails -/
theorem d_fails {D : va_G} {o : Nat → Nat} {ct : Nat → ClassId} {μ : pm_S} {F S : Nat} (p a y : Int32) (hok : pm_ok F S μ) : gM yX3_fails cX3_fails 6 (some .boolean) rm_X3_fails D (gt ct) (mw o ct μ) [.ref (o 0), .int p, .int a, .int y] (fun v w => v = some (.int (pm_flR (pm_flT F S μ p a y))) ∧ w = mw o ct (pm_sI μ 0 (pm_flT F S μ p a y))) := by
  refine gM_in RX3 rfl (by decide) (Nat.le_of_ble_eq_true rfl) (fun X C => ?_)
  obtain ⟨⟨hF2, hF16, hS64⟩, e1, e2, hhd, hpn, hbo⟩ := id hok
  refine gV_aload_n (pc := 0) (x := o 0) C dX3_fails_0 0 rfl rfl ?_
  refine gV_iconst (pc := 1) (v := 1) C dX3_fails_1 (by decide) ?_
  refine mp_thrown (pc := 2) C fl_X3_45 dX3_fails_2 ?_
  refine gV_aload_n (pc := 5) (x := o 0) C dX3_fails_5 0 rfl rfl ?_
  refine gV_iload_n (pc := 6) C dX3_fails_6 1 rfl rfl ?_
  refine gV_callV (pc := 7) (As := [.int p]) (rest := []) C ml_X3_48 gy_X3_isProcess gv_X3_isProcess (d_isProcess _) ⟨0, 3, _, _, rfl, rfl, rfl⟩ rfl rfl ⟨by decide, by decide⟩ (Nat.le_of_ble_eq_true rfl) (by decide) (by decide) dX3_fails_7 ?_
  rintro _ _ ⟨rfl, rfl⟩
  refine gV_if_eq (pc := 10) C 30 dX3_fails_10 (by decide) (fun c_1 => ?_) (fun c_1 => ?_)
  · skip
    refine gV_iconst (pc := 30) (v := 1) C dX3_fails_30 (by decide) ?_
    refine gV_zret (pc := 31) C dX3_fails_31 (by decide) (by decide) (by decide) ?_
    exact ⟨by rw [pm_flT, if_pos (by rw [← ip_sI μ 0 1]; exact c_1)]; rfl, by rw [pm_flT, if_pos (by rw [← ip_sI μ 0 1]; exact c_1)]⟩
  · skip
    refine gV_iload_n (pc := 13) C dX3_fails_13 2 rfl rfl ?_
    refine gV_if_lt (pc := 14) C 30 dX3_fails_14 (by decide) (fun c_2 => ?_) (fun c_2 => ?_)
    · skip
      refine gV_iconst (pc := 30) (v := 1) C dX3_fails_30 (by decide) ?_
      refine gV_zret (pc := 31) C dX3_fails_31 (by decide) (by decide) (by decide) ?_
      exact ⟨by rw [pm_flT, if_neg (by rw [← ip_sI μ 0 1]; exact c_1), if_pos c_2]; rfl, by rw [pm_flT, if_neg (by rw [← ip_sI μ 0 1]; exact c_1), if_pos c_2]⟩
    · skip
      refine gV_iload_n (pc := 17) C dX3_fails_17 2 rfl rfl ?_
      refine gV_bipush (pc := 18) (v := 16) C dX3_fails_18 (by decide) ?_
      refine gV_aload_n (pc := 20) (x := o 0) C dX3_fails_20 0 rfl rfl ?_
      refine mg_pages (pc := 21) C fl_X3_7 dX3_fails_21 ?_
      refine gV_iload_n (pc := 24) C dX3_fails_24 1 rfl rfl ?_
      refine ma_pages (pc := 25) C (pm_ip_vin c_1) dX3_fails_25 ?_
      refine gV_imul (pc := 26) C dX3_fails_26 ?_
      refine gV_icmp_lt (pc := 27) C 32 dX3_fails_27 (by decide) (fun c_3 => ?_) (fun c_3 => ?_)
      · skip
        obtain ⟨P, hP, rfl⟩ := vp_in_of (pm_ip_vin (c_1)) (by decide)
        obtain ⟨x, hx, rfl⟩ := nI_of c_2
        obtain ⟨m, hm, em⟩ := hpn P hP
        have eP : (nI P).toNatClampNeg = P := nI_clamp (by omega)
        have hlt : x < 16 * m := by
          have h9 : nI x < 16 * pm_A μ 0 (nI P).toNatClampNeg := c_3
          rw [eP, em, show (16 : Int32) = nI 16 from rfl, pk_mul] at h9
          exact Nat.lt_of_not_le (fun z => (nI_nlt z hx) h9)
        have es : (32 : Int32) * nI P + nI x / 16 = nI (32 * P + x / 16) := by rw [div16 hx, ix32]
        have hT : pm_flT F S μ (nI P) (nI x) y = pm_fl2 F S μ (pm_nd μ (pm_A μ 1 (32 * P + x / 16)) y) := by
          rw [pm_flT, if_neg (by rw [← ip_sI μ 0 1]; exact c_1), if_neg c_2, if_pos (show nI x < 16 * pm_A μ 0 (nI P).toNatClampNeg from c_3), es, nI_clamp (by omega)]
        rw [hT] at C
        refine gV_aload_n (pc := 32) (x := o 0) C dX3_fails_32 0 rfl rfl ?_
        refine mg_bodyOf (pc := 33) C fl_X3_13 dX3_fails_33 ?_
        refine gV_bipush (pc := 36) (v := 32) C dX3_fails_36 (by decide) ?_
        refine gV_iload_n (pc := 38) C dX3_fails_38 1 rfl rfl ?_
        refine gV_imul (pc := 39) C dX3_fails_39 ?_
        refine gV_iload_n (pc := 40) C dX3_fails_40 2 rfl rfl ?_
        refine gV_bipush (pc := 41) (v := 16) C dX3_fails_41 (by decide) ?_
        refine gV_idiv (pc := 43) C dX3_fails_43 (by decide) ?_
        refine gV_iadd (pc := 44) C dX3_fails_44 ?_
        rw [show (32 * (nI P)) + ((nI x) / 16) = nI (32 * P + x / 16) from es]
        refine ma_bodyOf (pc := 45) C (vp_in_nI (by omega) (by omega)) dX3_fails_45 ?_
        rw [nI_clamp (by omega)]
        rw [show pm_A (pm_sI μ 0 1) 1 (32 * P + x / 16) = pm_A μ 1 (32 * P + x / 16) from rfl]
        refine gV_istore (pc := 46) (lv' := [(4, .int (pm_A μ 1 (32 * P + x / 16))), (0, .ref (o 0)), (1, .int (nI P)), (2, .int (nI x)), (3, .int y)]) C dX3_fails_46 (by decide) rfl ?_
        refine gV_iload (pc := 48) C dX3_fails_48 0 rfl ?_
        refine gV_iconst (pc := 50) (v := (-1)) C dX3_fails_50 (by decide) ?_
        refine gV_icmp_ne (pc := 51) C 66 dX3_fails_51 (by decide) (fun c_24 => ?_) (fun c_24 => ?_)
        · skip
          refine gV_aload_n (pc := 66) (x := o 0) C dX3_fails_66 1 rfl rfl ?_
          refine mg_frameOf (pc := 67) C fl_X3_20 dX3_fails_67 ?_
          refine gV_iload (pc := 70) C dX3_fails_70 0 rfl ?_
          refine ma_frameOf (pc := 72) C (by rcases hbo (32 * P + x / 16) (by omega) with h | ⟨z, hz, e⟩; exact absurd h c_24; rw [e]; exact vp_in_nI hz (by omega)) dX3_fails_72 ?_
          refine gV_iconst (pc := 73) (v := (-1)) C dX3_fails_73 (by decide) ?_
          refine gV_icmp_ne (pc := 74) C 81 dX3_fails_74 (by decide) (fun c_25 => ?_) (fun c_25 => ?_)
          · skip
            refine gV_iconst (pc := 81) (v := 0) C dX3_fails_81 (by decide) ?_
            refine gV_iload_n (pc := 82) C dX3_fails_82 4 rfl rfl ?_
            refine gV_if_eq (pc := 83) C 100 dX3_fails_83 (by decide) (fun c_26 => ?_) (fun c_26 => ?_)
            · skip
              refine gV_iconst (pc := 100) (v := 0) C dX3_fails_100 (by decide) ?_
              refine gV_iadd (pc := 101) C dX3_fails_101 ?_
              exact mlp_fails2 hF16 hS64 e1 e2 (by congr 1; rw [pm_nd, if_neg c_24, if_neg (show ¬ pm_A μ 3 (pm_A μ 1 (32 * P + x / 16)).toNatClampNeg = -1 from c_25), pm_nd1, if_pos c_26]) C
            · skip
              refine gV_aload_n (pc := 86) (x := o 0) C dX3_fails_86 1 rfl rfl ?_
              refine gV_iload (pc := 87) C dX3_fails_87 0 rfl ?_
              refine gV_callV (pc := 89) (As := [.int (pm_A μ 1 (32 * P + x / 16))]) (rest := [.int 0]) C ml_X3_59 gy_X3_holders gv_X3_holders (d_holders _) ⟨0, 3, _, _, rfl, rfl, rfl⟩ rfl rfl ⟨by decide, by decide⟩ (Nat.le_of_ble_eq_true rfl) (by decide) (by decide) dX3_fails_89 ?_
              rintro _ _ ⟨rfl, rfl⟩
              refine gV_iconst (pc := 92) (v := 1) C dX3_fails_92 (by decide) ?_
              refine gV_icmp_le (pc := 93) C 100 dX3_fails_93 (by decide) (fun c_27 => ?_) (fun c_27 => ?_)
              · skip
                refine gV_iconst (pc := 100) (v := 0) C dX3_fails_100 (by decide) ?_
                refine gV_iadd (pc := 101) C dX3_fails_101 ?_
                exact mlp_fails2 hF16 hS64 e1 e2 (by congr 1; rw [pm_nd, if_neg c_24, if_neg (show ¬ pm_A μ 3 (pm_A μ 1 (32 * P + x / 16)).toNatClampNeg = -1 from c_25), pm_nd1, if_neg c_26, ← ho_sI μ 0 1, if_pos c_27]) C
              · skip
                refine gV_iconst (pc := 96) (v := 1) C dX3_fails_96 (by decide) ?_
                refine gV_goto (pc := 97) C 101 dX3_fails_97 (by decide) ?_
                refine gV_iadd (pc := 101) C dX3_fails_101 ?_
                exact mlp_fails2 hF16 hS64 e1 e2 (by congr 1; rw [pm_nd, if_neg c_24, if_neg (show ¬ pm_A μ 3 (pm_A μ 1 (32 * P + x / 16)).toNatClampNeg = -1 from c_25), pm_nd1, if_neg c_26, ← ho_sI μ 0 1, if_neg c_27]) C
          · skip
            refine gV_iconst (pc := 77) (v := 1) C dX3_fails_77 (by decide) ?_
            refine gV_goto (pc := 78) C 82 dX3_fails_78 (by decide) ?_
            refine gV_iload_n (pc := 82) C dX3_fails_82 4 rfl rfl ?_
            refine gV_if_eq (pc := 83) C 100 dX3_fails_83 (by decide) (fun c_28 => ?_) (fun c_28 => ?_)
            · skip
              refine gV_iconst (pc := 100) (v := 0) C dX3_fails_100 (by decide) ?_
              refine gV_iadd (pc := 101) C dX3_fails_101 ?_
              exact mlp_fails2 hF16 hS64 e1 e2 (by congr 1; rw [pm_nd, if_neg c_24, if_pos (show pm_A μ 3 (pm_A μ 1 (32 * P + x / 16)).toNatClampNeg = -1 from c_25), pm_nd1, if_pos c_28]) C
            · skip
              refine gV_aload_n (pc := 86) (x := o 0) C dX3_fails_86 1 rfl rfl ?_
              refine gV_iload (pc := 87) C dX3_fails_87 0 rfl ?_
              refine gV_callV (pc := 89) (As := [.int (pm_A μ 1 (32 * P + x / 16))]) (rest := [.int 1]) C ml_X3_59 gy_X3_holders gv_X3_holders (d_holders _) ⟨0, 3, _, _, rfl, rfl, rfl⟩ rfl rfl ⟨by decide, by decide⟩ (Nat.le_of_ble_eq_true rfl) (by decide) (by decide) dX3_fails_89 ?_
              rintro _ _ ⟨rfl, rfl⟩
              refine gV_iconst (pc := 92) (v := 1) C dX3_fails_92 (by decide) ?_
              refine gV_icmp_le (pc := 93) C 100 dX3_fails_93 (by decide) (fun c_29 => ?_) (fun c_29 => ?_)
              · skip
                refine gV_iconst (pc := 100) (v := 0) C dX3_fails_100 (by decide) ?_
                refine gV_iadd (pc := 101) C dX3_fails_101 ?_
                exact mlp_fails2 hF16 hS64 e1 e2 (by congr 1; rw [pm_nd, if_neg c_24, if_pos (show pm_A μ 3 (pm_A μ 1 (32 * P + x / 16)).toNatClampNeg = -1 from c_25), pm_nd1, if_neg c_28, ← ho_sI μ 0 1, if_pos c_29]) C
              · skip
                refine gV_iconst (pc := 96) (v := 1) C dX3_fails_96 (by decide) ?_
                refine gV_goto (pc := 97) C 101 dX3_fails_97 (by decide) ?_
                refine gV_iadd (pc := 101) C dX3_fails_101 ?_
                exact mlp_fails2 hF16 hS64 e1 e2 (by congr 1; rw [pm_nd, if_neg c_24, if_pos (show pm_A μ 3 (pm_A μ 1 (32 * P + x / 16)).toNatClampNeg = -1 from c_25), pm_nd1, if_neg c_28, ← ho_sI μ 0 1, if_neg c_29]) C
        · skip
          refine gV_iload_n (pc := 54) C dX3_fails_54 4 rfl rfl ?_
          refine gV_if_eq (pc := 55) C 62 dX3_fails_55 (by decide) (fun c_30 => ?_) (fun c_30 => ?_)
          · skip
            refine gV_iconst (pc := 62) (v := 0) C dX3_fails_62 (by decide) ?_
            refine gV_goto (pc := 63) C 102 dX3_fails_63 (by decide) ?_
            exact mlp_fails2 hF16 hS64 e1 e2 (by congr 1; rw [pm_nd, if_pos c_24, if_pos c_30]) C
          · skip
            refine gV_iconst (pc := 58) (v := 1) C dX3_fails_58 (by decide) ?_
            refine gV_goto (pc := 59) C 102 dX3_fails_59 (by decide) ?_
            exact mlp_fails2 hF16 hS64 e1 e2 (by congr 1; rw [pm_nd, if_pos c_24, if_neg c_30]) C
      · skip
        refine gV_iconst (pc := 30) (v := 1) C dX3_fails_30 (by decide) ?_
        refine gV_zret (pc := 31) C dX3_fails_31 (by decide) (by decide) (by decide) ?_
        exact ⟨by rw [pm_flT, if_neg (by rw [← ip_sI μ 0 1]; exact c_1), if_neg c_2, if_neg (show ¬ a < 16 * pm_A μ 0 p.toNatClampNeg from c_3)]; rfl, by rw [pm_flT, if_neg (by rw [← ip_sI μ 0 1]; exact c_1), if_neg c_2, if_neg (show ¬ a < 16 * pm_A μ 0 p.toNatClampNeg from c_3)]⟩
end
section
theorem zz_last : True := trivial
end
