section
-- ===== PART A: goes FIRST, ahead of the names: the tables' words, and 'selects' of the private methods out of them =====
/-- a private method of a class that the tables say can be made, by its rows of tables_1 -/
def lw_okq (q : MethodName × Nat) : Prop := (q.1.cls ≠ "java/lang/invoke/MethodHandle" ∧ q.1.cls ≠ "java/lang/invoke/VarHandle") ∧ Cond.instantiable q.1.cls q.2 ∈ tables_1 ∧ Cond.privateMethod q.1 ∈ tables_1 ∧ Cond.instanceMethod q.1 ∈ tables_1
theorem lw_p0 : lw_okq (⟨"PackageModules", "isTypeOrNone", "(I)Z"⟩, 7) := ⟨⟨by decide +kernel, by decide +kernel⟩, List.mem_of_getElem? (i := 15) (by decide +kernel), List.mem_of_getElem? (i := 249) (by decide +kernel), List.mem_of_getElem? (i := 250) (by decide +kernel)⟩
theorem lw_p1 : lw_okq (⟨"PackageModules$Modules", "closed", "(I[I)I"⟩, 5) := ⟨⟨by decide +kernel, by decide +kernel⟩, List.mem_of_getElem? (i := 23) (by decide +kernel), List.mem_of_getElem? (i := 286) (by decide +kernel), List.mem_of_getElem? (i := 287) (by decide +kernel)⟩
theorem lw_p2 : lw_okq (⟨"PackageModules", "isTypeSeen", "(II)Z"⟩, 7) := ⟨⟨by decide +kernel, by decide +kernel⟩, List.mem_of_getElem? (i := 15) (by decide +kernel), List.mem_of_getElem? (i := 331) (by decide +kernel), List.mem_of_getElem? (i := 332) (by decide +kernel)⟩
theorem lw_p3 : lw_okq (⟨"PackageModules", "ownerOfType", "(I)I"⟩, 7) := ⟨⟨by decide +kernel, by decide +kernel⟩, List.mem_of_getElem? (i := 15) (by decide +kernel), List.mem_of_getElem? (i := 335) (by decide +kernel), List.mem_of_getElem? (i := 336) (by decide +kernel)⟩
theorem lw_p4 : lw_okq (⟨"PackageModules", "isPackSeen", "(II)Z"⟩, 7) := ⟨⟨by decide +kernel, by decide +kernel⟩, List.mem_of_getElem? (i := 15) (by decide +kernel), List.mem_of_getElem? (i := 347) (by decide +kernel), List.mem_of_getElem? (i := 348) (by decide +kernel)⟩
theorem lw_p5 : lw_okq (⟨"PackageModules", "provideRule", "(III)I"⟩, 7) := ⟨⟨by decide +kernel, by decide +kernel⟩, List.mem_of_getElem? (i := 15) (by decide +kernel), List.mem_of_getElem? (i := 376) (by decide +kernel), List.mem_of_getElem? (i := 377) (by decide +kernel)⟩
theorem lw_p6 : lw_okq (⟨"PackageModules", "giverRule", "(II)I"⟩, 7) := ⟨⟨by decide +kernel, by decide +kernel⟩, List.mem_of_getElem? (i := 15) (by decide +kernel), List.mem_of_getElem? (i := 384) (by decide +kernel), List.mem_of_getElem? (i := 385) (by decide +kernel)⟩
theorem lw_p7 : lw_okq (⟨"PackageModules", "makerRule", "(II)I"⟩, 7) := ⟨⟨by decide +kernel, by decide +kernel⟩, List.mem_of_getElem? (i := 15) (by decide +kernel), List.mem_of_getElem? (i := 396) (by decide +kernel), List.mem_of_getElem? (i := 397) (by decide +kernel)⟩
theorem lw_p8 : lw_okq (⟨"PackageModules", "leastSplitName", "(I)I"⟩, 7) := ⟨⟨by decide +kernel, by decide +kernel⟩, List.mem_of_getElem? (i := 15) (by decide +kernel), List.mem_of_getElem? (i := 456) (by decide +kernel), List.mem_of_getElem? (i := 457) (by decide +kernel)⟩
theorem lw_p9 : lw_okq (⟨"PackageModules", "isImport", "(III)Z"⟩, 7) := ⟨⟨by decide +kernel, by decide +kernel⟩, List.mem_of_getElem? (i := 15) (by decide +kernel), List.mem_of_getElem? (i := 481) (by decide +kernel), List.mem_of_getElem? (i := 482) (by decide +kernel)⟩
theorem lw_p10 : lw_okq (⟨"PackageModules", "importRule", "(IIII)I"⟩, 7) := ⟨⟨by decide +kernel, by decide +kernel⟩, List.mem_of_getElem? (i := 15) (by decide +kernel), List.mem_of_getElem? (i := 489) (by decide +kernel), List.mem_of_getElem? (i := 490) (by decide +kernel)⟩
theorem lw_p11 : lw_okq (⟨"PackageModules", "ownerOfUnit", "(I)I"⟩, 7) := ⟨⟨by decide +kernel, by decide +kernel⟩, List.mem_of_getElem? (i := 15) (by decide +kernel), List.mem_of_getElem? (i := 493) (by decide +kernel), List.mem_of_getElem? (i := 494) (by decide +kernel)⟩
theorem lw_p12 : lw_okq (⟨"PackageModules", "isPackNameSeen", "(II)Z"⟩, 7) := ⟨⟨by decide +kernel, by decide +kernel⟩, List.mem_of_getElem? (i := 15) (by decide +kernel), List.mem_of_getElem? (i := 501) (by decide +kernel), List.mem_of_getElem? (i := 502) (by decide +kernel)⟩
theorem lw_p13 : lw_okq (⟨"PackageModules", "importsRival", "(II)Z"⟩, 7) := ⟨⟨by decide +kernel, by decide +kernel⟩, List.mem_of_getElem? (i := 15) (by decide +kernel), List.mem_of_getElem? (i := 505) (by decide +kernel), List.mem_of_getElem? (i := 506) (by decide +kernel)⟩
theorem lw_p14 : lw_okq (⟨"PackageModules", "singlyImportedType", "(II)I"⟩, 7) := ⟨⟨by decide +kernel, by decide +kernel⟩, List.mem_of_getElem? (i := 15) (by decide +kernel), List.mem_of_getElem? (i := 513) (by decide +kernel), List.mem_of_getElem? (i := 514) (by decide +kernel)⟩
theorem lw_p15 : lw_okq (⟨"PackageModules", "hasUsableMember", "(III)Z"⟩, 7) := ⟨⟨by decide +kernel, by decide +kernel⟩, List.mem_of_getElem? (i := 15) (by decide +kernel), List.mem_of_getElem? (i := 529) (by decide +kernel), List.mem_of_getElem? (i := 530) (by decide +kernel)⟩
def lw_privs_1 : List (MethodName × Nat) := [(⟨"PackageModules", "isTypeOrNone", "(I)Z"⟩, 7), (⟨"PackageModules$Modules", "closed", "(I[I)I"⟩, 5), (⟨"PackageModules", "isTypeSeen", "(II)Z"⟩, 7), (⟨"PackageModules", "ownerOfType", "(I)I"⟩, 7), (⟨"PackageModules", "isPackSeen", "(II)Z"⟩, 7), (⟨"PackageModules", "provideRule", "(III)I"⟩, 7), (⟨"PackageModules", "giverRule", "(II)I"⟩, 7), (⟨"PackageModules", "makerRule", "(II)I"⟩, 7), (⟨"PackageModules", "leastSplitName", "(I)I"⟩, 7), (⟨"PackageModules", "isImport", "(III)Z"⟩, 7), (⟨"PackageModules", "importRule", "(IIII)I"⟩, 7), (⟨"PackageModules", "ownerOfUnit", "(I)I"⟩, 7), (⟨"PackageModules", "isPackNameSeen", "(II)Z"⟩, 7), (⟨"PackageModules", "importsRival", "(II)Z"⟩, 7), (⟨"PackageModules", "singlyImportedType", "(II)I"⟩, 7), (⟨"PackageModules", "hasUsableMember", "(III)Z"⟩, 7)]
theorem lw_r1 : ∀ q ∈ lw_privs_1, lw_okq q := List.forall_mem_cons.mpr ⟨lw_p0, List.forall_mem_cons.mpr ⟨lw_p1, List.forall_mem_cons.mpr ⟨lw_p2, List.forall_mem_cons.mpr ⟨lw_p3, List.forall_mem_cons.mpr ⟨lw_p4, List.forall_mem_cons.mpr ⟨lw_p5, List.forall_mem_cons.mpr ⟨lw_p6, List.forall_mem_cons.mpr ⟨lw_p7, List.forall_mem_cons.mpr ⟨lw_p8, List.forall_mem_cons.mpr ⟨lw_p9, List.forall_mem_cons.mpr ⟨lw_p10, List.forall_mem_cons.mpr ⟨lw_p11, List.forall_mem_cons.mpr ⟨lw_p12, List.forall_mem_cons.mpr ⟨lw_p13, List.forall_mem_cons.mpr ⟨lw_p14, List.forall_mem_cons.mpr ⟨lw_p15, fun _ h => absurd h List.not_mem_nil⟩⟩⟩⟩⟩⟩⟩⟩⟩⟩⟩⟩⟩⟩⟩⟩
theorem lw_p16 : lw_okq (⟨"PackageModules", "usableMember", "(IIII)I"⟩, 7) := ⟨⟨by decide +kernel, by decide +kernel⟩, List.mem_of_getElem? (i := 15) (by decide +kernel), List.mem_of_getElem? (i := 533) (by decide +kernel), List.mem_of_getElem? (i := 534) (by decide +kernel)⟩
theorem lw_p17 : lw_okq (⟨"PackageModules", "nearestMember", "(III)I"⟩, 7) := ⟨⟨by decide +kernel, by decide +kernel⟩, List.mem_of_getElem? (i := 15) (by decide +kernel), List.mem_of_getElem? (i := 537) (by decide +kernel), List.mem_of_getElem? (i := 538) (by decide +kernel)⟩
theorem lw_p18 : lw_okq (⟨"PackageModules", "widelyImportedType", "(II)I"⟩, 7) := ⟨⟨by decide +kernel, by decide +kernel⟩, List.mem_of_getElem? (i := 15) (by decide +kernel), List.mem_of_getElem? (i := 568) (by decide +kernel), List.mem_of_getElem? (i := 569) (by decide +kernel)⟩
theorem lw_p19 : lw_okq (⟨"PackageModules", "isWidelyImported", "(II)Z"⟩, 7) := ⟨⟨by decide +kernel, by decide +kernel⟩, List.mem_of_getElem? (i := 15) (by decide +kernel), List.mem_of_getElem? (i := 572) (by decide +kernel), List.mem_of_getElem? (i := 573) (by decide +kernel)⟩
theorem lw_p20 : lw_okq (⟨"PackageModules", "importedMember", "(IIII)I"⟩, 7) := ⟨⟨by decide +kernel, by decide +kernel⟩, List.mem_of_getElem? (i := 15) (by decide +kernel), List.mem_of_getElem? (i := 580) (by decide +kernel), List.mem_of_getElem? (i := 581) (by decide +kernel)⟩
theorem lw_p21 : lw_okq (⟨"PackageModules", "memberByImport", "(IIIII)I"⟩, 7) := ⟨⟨by decide +kernel, by decide +kernel⟩, List.mem_of_getElem? (i := 15) (by decide +kernel), List.mem_of_getElem? (i := 584) (by decide +kernel), List.mem_of_getElem? (i := 585) (by decide +kernel)⟩
theorem lw_p22 : lw_okq (⟨"PackageModules", "graphOf", "(IZ)I"⟩, 7) := ⟨⟨by decide +kernel, by decide +kernel⟩, List.mem_of_getElem? (i := 15) (by decide +kernel), List.mem_of_getElem? (i := 593) (by decide +kernel), List.mem_of_getElem? (i := 594) (by decide +kernel)⟩
theorem lw_p23 : lw_okq (⟨"PackageModules", "providersFor", "(I)I"⟩, 7) := ⟨⟨by decide +kernel, by decide +kernel⟩, List.mem_of_getElem? (i := 15) (by decide +kernel), List.mem_of_getElem? (i := 601) (by decide +kernel), List.mem_of_getElem? (i := 602) (by decide +kernel)⟩
theorem lw_p24 : lw_okq (⟨"PackageModules", "providerAt", "(III)I"⟩, 7) := ⟨⟨by decide +kernel, by decide +kernel⟩, List.mem_of_getElem? (i := 15) (by decide +kernel), List.mem_of_getElem? (i := 632) (by decide +kernel), List.mem_of_getElem? (i := 633) (by decide +kernel)⟩
theorem lw_p25 : lw_okq (⟨"PackageModules", "anySplit", "(I)Z"⟩, 7) := ⟨⟨by decide +kernel, by decide +kernel⟩, List.mem_of_getElem? (i := 15) (by decide +kernel), List.mem_of_getElem? (i := 653) (by decide +kernel), List.mem_of_getElem? (i := 654) (by decide +kernel)⟩
theorem lw_p26 : lw_okq (⟨"PackageModules", "foundPack", "(III)I"⟩, 7) := ⟨⟨by decide +kernel, by decide +kernel⟩, List.mem_of_getElem? (i := 15) (by decide +kernel), List.mem_of_getElem? (i := 675) (by decide +kernel), List.mem_of_getElem? (i := 676) (by decide +kernel)⟩
theorem lw_p27 : lw_okq (⟨"PackageModulesModel", "isModule", "(I)Z"⟩, 34) := ⟨⟨by decide +kernel, by decide +kernel⟩, List.mem_of_getElem? (i := 684) (by decide +kernel), List.mem_of_getElem? (i := 801) (by decide +kernel), List.mem_of_getElem? (i := 802) (by decide +kernel)⟩
theorem lw_p28 : lw_okq (⟨"PackageModulesModel", "packOf", "(II)I"⟩, 34) := ⟨⟨by decide +kernel, by decide +kernel⟩, List.mem_of_getElem? (i := 684) (by decide +kernel), List.mem_of_getElem? (i := 811) (by decide +kernel), List.mem_of_getElem? (i := 812) (by decide +kernel)⟩
theorem lw_p29 : lw_okq (⟨"PackageModulesModel", "isPack", "(I)Z"⟩, 34) := ⟨⟨by decide +kernel, by decide +kernel⟩, List.mem_of_getElem? (i := 684) (by decide +kernel), List.mem_of_getElem? (i := 819) (by decide +kernel), List.mem_of_getElem? (i := 820) (by decide +kernel)⟩
theorem lw_p30 : lw_okq (⟨"PackageModulesModel", "isType", "(I)Z"⟩, 34) := ⟨⟨by decide +kernel, by decide +kernel⟩, List.mem_of_getElem? (i := 684) (by decide +kernel), List.mem_of_getElem? (i := 823) (by decide +kernel), List.mem_of_getElem? (i := 824) (by decide +kernel)⟩
theorem lw_p31 : lw_okq (⟨"PackageModulesModel", "typeOf", "(II)I"⟩, 34) := ⟨⟨by decide +kernel, by decide +kernel⟩, List.mem_of_getElem? (i := 684) (by decide +kernel), List.mem_of_getElem? (i := 827) (by decide +kernel), List.mem_of_getElem? (i := 828) (by decide +kernel)⟩
def lw_privs_2 : List (MethodName × Nat) := [(⟨"PackageModules", "usableMember", "(IIII)I"⟩, 7), (⟨"PackageModules", "nearestMember", "(III)I"⟩, 7), (⟨"PackageModules", "widelyImportedType", "(II)I"⟩, 7), (⟨"PackageModules", "isWidelyImported", "(II)Z"⟩, 7), (⟨"PackageModules", "importedMember", "(IIII)I"⟩, 7), (⟨"PackageModules", "memberByImport", "(IIIII)I"⟩, 7), (⟨"PackageModules", "graphOf", "(IZ)I"⟩, 7), (⟨"PackageModules", "providersFor", "(I)I"⟩, 7), (⟨"PackageModules", "providerAt", "(III)I"⟩, 7), (⟨"PackageModules", "anySplit", "(I)Z"⟩, 7), (⟨"PackageModules", "foundPack", "(III)I"⟩, 7), (⟨"PackageModulesModel", "isModule", "(I)Z"⟩, 34), (⟨"PackageModulesModel", "packOf", "(II)I"⟩, 34), (⟨"PackageModulesModel", "isPack", "(I)Z"⟩, 34), (⟨"PackageModulesModel", "isType", "(I)Z"⟩, 34), (⟨"PackageModulesModel", "typeOf", "(II)I"⟩, 34)]
theorem lw_r2 : ∀ q ∈ lw_privs_2, lw_okq q := List.forall_mem_cons.mpr ⟨lw_p16, List.forall_mem_cons.mpr ⟨lw_p17, List.forall_mem_cons.mpr ⟨lw_p18, List.forall_mem_cons.mpr ⟨lw_p19, List.forall_mem_cons.mpr ⟨lw_p20, List.forall_mem_cons.mpr ⟨lw_p21, List.forall_mem_cons.mpr ⟨lw_p22, List.forall_mem_cons.mpr ⟨lw_p23, List.forall_mem_cons.mpr ⟨lw_p24, List.forall_mem_cons.mpr ⟨lw_p25, List.forall_mem_cons.mpr ⟨lw_p26, List.forall_mem_cons.mpr ⟨lw_p27, List.forall_mem_cons.mpr ⟨lw_p28, List.forall_mem_cons.mpr ⟨lw_p29, List.forall_mem_cons.mpr ⟨lw_p30, List.forall_mem_cons.mpr ⟨lw_p31, fun _ h => absurd h List.not_mem_nil⟩⟩⟩⟩⟩⟩⟩⟩⟩⟩⟩⟩⟩⟩⟩⟩
theorem lw_p32 : lw_okq (⟨"PackageModulesModel", "ownMember", "(III)I"⟩, 34) := ⟨⟨by decide +kernel, by decide +kernel⟩, List.mem_of_getElem? (i := 684) (by decide +kernel), List.mem_of_getElem? (i := 835) (by decide +kernel), List.mem_of_getElem? (i := 836) (by decide +kernel)⟩
theorem lw_p33 : lw_okq (⟨"PackageModulesModel", "clear", "()V"⟩, 34) := ⟨⟨by decide +kernel, by decide +kernel⟩, List.mem_of_getElem? (i := 684) (by decide +kernel), List.mem_of_getElem? (i := 843) (by decide +kernel), List.mem_of_getElem? (i := 844) (by decide +kernel)⟩
theorem lw_p34 : lw_okq (⟨"PackageModulesModel", "goesOn", "(ZZI)Z"⟩, 34) := ⟨⟨by decide +kernel, by decide +kernel⟩, List.mem_of_getElem? (i := 684) (by decide +kernel), List.mem_of_getElem? (i := 847) (by decide +kernel), List.mem_of_getElem? (i := 848) (by decide +kernel)⟩
theorem lw_p35 : lw_okq (⟨"PackageModulesModel", "isEdge", "(IIZZ)Z"⟩, 34) := ⟨⟨by decide +kernel, by decide +kernel⟩, List.mem_of_getElem? (i := 684) (by decide +kernel), List.mem_of_getElem? (i := 851) (by decide +kernel), List.mem_of_getElem? (i := 852) (by decide +kernel)⟩
theorem lw_p36 : lw_okq (⟨"PackageModulesModel", "read", "(IZ)V"⟩, 34) := ⟨⟨by decide +kernel, by decide +kernel⟩, List.mem_of_getElem? (i := 684) (by decide +kernel), List.mem_of_getElem? (i := 866) (by decide +kernel), List.mem_of_getElem? (i := 867) (by decide +kernel)⟩
theorem lw_p37 : lw_okq (⟨"PackageModulesModel", "seesType", "(II)Z"⟩, 34) := ⟨⟨by decide +kernel, by decide +kernel⟩, List.mem_of_getElem? (i := 684) (by decide +kernel), List.mem_of_getElem? (i := 874) (by decide +kernel), List.mem_of_getElem? (i := 875) (by decide +kernel)⟩
theorem lw_p38 : lw_okq (⟨"PackageModulesModel", "seesPack", "(II)Z"⟩, 34) := ⟨⟨by decide +kernel, by decide +kernel⟩, List.mem_of_getElem? (i := 684) (by decide +kernel), List.mem_of_getElem? (i := 878) (by decide +kernel), List.mem_of_getElem? (i := 879) (by decide +kernel)⟩
theorem lw_p39 : lw_okq (⟨"PackageModulesModel", "isExported", "(II)Z"⟩, 34) := ⟨⟨by decide +kernel, by decide +kernel⟩, List.mem_of_getElem? (i := 684) (by decide +kernel), List.mem_of_getElem? (i := 882) (by decide +kernel), List.mem_of_getElem? (i := 883) (by decide +kernel)⟩
theorem lw_p40 : lw_okq (⟨"PackageModulesModel", "isOpen", "(I)Z"⟩, 34) := ⟨⟨by decide +kernel, by decide +kernel⟩, List.mem_of_getElem? (i := 684) (by decide +kernel), List.mem_of_getElem? (i := 886) (by decide +kernel), List.mem_of_getElem? (i := 887) (by decide +kernel)⟩
theorem lw_p41 : lw_okq (⟨"PackageModulesModel", "moduleOf", "(I)I"⟩, 34) := ⟨⟨by decide +kernel, by decide +kernel⟩, List.mem_of_getElem? (i := 684) (by decide +kernel), List.mem_of_getElem? (i := 890) (by decide +kernel), List.mem_of_getElem? (i := 891) (by decide +kernel)⟩
theorem lw_p42 : lw_okq (⟨"PackageModulesModel", "splitOf", "(I)I"⟩, 34) := ⟨⟨by decide +kernel, by decide +kernel⟩, List.mem_of_getElem? (i := 684) (by decide +kernel), List.mem_of_getElem? (i := 902) (by decide +kernel), List.mem_of_getElem? (i := 903) (by decide +kernel)⟩
theorem lw_p43 : lw_okq (⟨"PackageModulesModel", "provideRule", "(III)I"⟩, 34) := ⟨⟨by decide +kernel, by decide +kernel⟩, List.mem_of_getElem? (i := 684) (by decide +kernel), List.mem_of_getElem? (i := 914) (by decide +kernel), List.mem_of_getElem? (i := 915) (by decide +kernel)⟩
theorem lw_p44 : lw_okq (⟨"PackageModulesModel", "isSubtype", "(II)Z"⟩, 34) := ⟨⟨by decide +kernel, by decide +kernel⟩, List.mem_of_getElem? (i := 684) (by decide +kernel), List.mem_of_getElem? (i := 918) (by decide +kernel), List.mem_of_getElem? (i := 919) (by decide +kernel)⟩
theorem lw_p45 : lw_okq (⟨"PackageModulesModel", "graphOf", "(IZ)V"⟩, 34) := ⟨⟨by decide +kernel, by decide +kernel⟩, List.mem_of_getElem? (i := 684) (by decide +kernel), List.mem_of_getElem? (i := 926) (by decide +kernel), List.mem_of_getElem? (i := 927) (by decide +kernel)⟩
theorem lw_p46 : lw_okq (⟨"PackageModulesModel", "binds", "()Z"⟩, 34) := ⟨⟨by decide +kernel, by decide +kernel⟩, List.mem_of_getElem? (i := 684) (by decide +kernel), List.mem_of_getElem? (i := 930) (by decide +kernel), List.mem_of_getElem? (i := 931) (by decide +kernel)⟩
theorem lw_p47 : lw_okq (⟨"PackageModulesModel", "isUsed", "(I)Z"⟩, 34) := ⟨⟨by decide +kernel, by decide +kernel⟩, List.mem_of_getElem? (i := 684) (by decide +kernel), List.mem_of_getElem? (i := 934) (by decide +kernel), List.mem_of_getElem? (i := 935) (by decide +kernel)⟩
def lw_privs_3 : List (MethodName × Nat) := [(⟨"PackageModulesModel", "ownMember", "(III)I"⟩, 34), (⟨"PackageModulesModel", "clear", "()V"⟩, 34), (⟨"PackageModulesModel", "goesOn", "(ZZI)Z"⟩, 34), (⟨"PackageModulesModel", "isEdge", "(IIZZ)Z"⟩, 34), (⟨"PackageModulesModel", "read", "(IZ)V"⟩, 34), (⟨"PackageModulesModel", "seesType", "(II)Z"⟩, 34), (⟨"PackageModulesModel", "seesPack", "(II)Z"⟩, 34), (⟨"PackageModulesModel", "isExported", "(II)Z"⟩, 34), (⟨"PackageModulesModel", "isOpen", "(I)Z"⟩, 34), (⟨"PackageModulesModel", "moduleOf", "(I)I"⟩, 34), (⟨"PackageModulesModel", "splitOf", "(I)I"⟩, 34), (⟨"PackageModulesModel", "provideRule", "(III)I"⟩, 34), (⟨"PackageModulesModel", "isSubtype", "(II)Z"⟩, 34), (⟨"PackageModulesModel", "graphOf", "(IZ)V"⟩, 34), (⟨"PackageModulesModel", "binds", "()Z"⟩, 34), (⟨"PackageModulesModel", "isUsed", "(I)Z"⟩, 34)]
theorem lw_r3 : ∀ q ∈ lw_privs_3, lw_okq q := List.forall_mem_cons.mpr ⟨lw_p32, List.forall_mem_cons.mpr ⟨lw_p33, List.forall_mem_cons.mpr ⟨lw_p34, List.forall_mem_cons.mpr ⟨lw_p35, List.forall_mem_cons.mpr ⟨lw_p36, List.forall_mem_cons.mpr ⟨lw_p37, List.forall_mem_cons.mpr ⟨lw_p38, List.forall_mem_cons.mpr ⟨lw_p39, List.forall_mem_cons.mpr ⟨lw_p40, List.forall_mem_cons.mpr ⟨lw_p41, List.forall_mem_cons.mpr ⟨lw_p42, List.forall_mem_cons.mpr ⟨lw_p43, List.forall_mem_cons.mpr ⟨lw_p44, List.forall_mem_cons.mpr ⟨lw_p45, List.forall_mem_cons.mpr ⟨lw_p46, List.forall_mem_cons.mpr ⟨lw_p47, fun _ h => absurd h List.not_mem_nil⟩⟩⟩⟩⟩⟩⟩⟩⟩⟩⟩⟩⟩⟩⟩⟩
theorem lw_p48 : lw_okq (⟨"PackageModulesModel", "isProviding", "(II)Z"⟩, 34) := ⟨⟨by decide +kernel, by decide +kernel⟩, List.mem_of_getElem? (i := 684) (by decide +kernel), List.mem_of_getElem? (i := 938) (by decide +kernel), List.mem_of_getElem? (i := 939) (by decide +kernel)⟩
theorem lw_p49 : lw_okq (⟨"PackageModulesModel", "isUnit", "(I)Z"⟩, 34) := ⟨⟨by decide +kernel, by decide +kernel⟩, List.mem_of_getElem? (i := 684) (by decide +kernel), List.mem_of_getElem? (i := 958) (by decide +kernel), List.mem_of_getElem? (i := 959) (by decide +kernel)⟩
theorem lw_p50 : lw_okq (⟨"PackageModulesModel", "importRule", "(IIII)I"⟩, 34) := ⟨⟨by decide +kernel, by decide +kernel⟩, List.mem_of_getElem? (i := 684) (by decide +kernel), List.mem_of_getElem? (i := 962) (by decide +kernel), List.mem_of_getElem? (i := 963) (by decide +kernel)⟩
theorem lw_p51 : lw_okq (⟨"PackageModulesModel", "home", "(I)I"⟩, 34) := ⟨⟨by decide +kernel, by decide +kernel⟩, List.mem_of_getElem? (i := 684) (by decide +kernel), List.mem_of_getElem? (i := 966) (by decide +kernel), List.mem_of_getElem? (i := 967) (by decide +kernel)⟩
theorem lw_p52 : lw_okq (⟨"PackageModulesModel", "usable", "(IIII)I"⟩, 34) := ⟨⟨by decide +kernel, by decide +kernel⟩, List.mem_of_getElem? (i := 684) (by decide +kernel), List.mem_of_getElem? (i := 970) (by decide +kernel), List.mem_of_getElem? (i := 971) (by decide +kernel)⟩
theorem lw_p53 : lw_okq (⟨"PackageModulesModel", "byPacks", "(II)I"⟩, 34) := ⟨⟨by decide +kernel, by decide +kernel⟩, List.mem_of_getElem? (i := 684) (by decide +kernel), List.mem_of_getElem? (i := 978) (by decide +kernel), List.mem_of_getElem? (i := 979) (by decide +kernel)⟩
theorem lw_p54 : lw_okq (⟨"PackageModulesModel", "byImports", "(IIII)I"⟩, 34) := ⟨⟨by decide +kernel, by decide +kernel⟩, List.mem_of_getElem? (i := 684) (by decide +kernel), List.mem_of_getElem? (i := 986) (by decide +kernel), List.mem_of_getElem? (i := 987) (by decide +kernel)⟩
theorem lw_p55 : lw_okq (⟨"PackageModulesModel", "isLayer", "(I)Z"⟩, 34) := ⟨⟨by decide +kernel, by decide +kernel⟩, List.mem_of_getElem? (i := 684) (by decide +kernel), List.mem_of_getElem? (i := 994) (by decide +kernel), List.mem_of_getElem? (i := 995) (by decide +kernel)⟩
theorem lw_p56 : lw_okq (⟨"PackageModulesModel", "loaderOf", "(II)I"⟩, 34) := ⟨⟨by decide +kernel, by decide +kernel⟩, List.mem_of_getElem? (i := 684) (by decide +kernel), List.mem_of_getElem? (i := 998) (by decide +kernel), List.mem_of_getElem? (i := 999) (by decide +kernel)⟩
def lw_privs_4 : List (MethodName × Nat) := [(⟨"PackageModulesModel", "isProviding", "(II)Z"⟩, 34), (⟨"PackageModulesModel", "isUnit", "(I)Z"⟩, 34), (⟨"PackageModulesModel", "importRule", "(IIII)I"⟩, 34), (⟨"PackageModulesModel", "home", "(I)I"⟩, 34), (⟨"PackageModulesModel", "usable", "(IIII)I"⟩, 34), (⟨"PackageModulesModel", "byPacks", "(II)I"⟩, 34), (⟨"PackageModulesModel", "byImports", "(IIII)I"⟩, 34), (⟨"PackageModulesModel", "isLayer", "(I)Z"⟩, 34), (⟨"PackageModulesModel", "loaderOf", "(II)I"⟩, 34)]
theorem lw_r4 : ∀ q ∈ lw_privs_4, lw_okq q := List.forall_mem_cons.mpr ⟨lw_p48, List.forall_mem_cons.mpr ⟨lw_p49, List.forall_mem_cons.mpr ⟨lw_p50, List.forall_mem_cons.mpr ⟨lw_p51, List.forall_mem_cons.mpr ⟨lw_p52, List.forall_mem_cons.mpr ⟨lw_p53, List.forall_mem_cons.mpr ⟨lw_p54, List.forall_mem_cons.mpr ⟨lw_p55, List.forall_mem_cons.mpr ⟨lw_p56, fun _ h => absurd h List.not_mem_nil⟩⟩⟩⟩⟩⟩⟩⟩⟩
def lw_privs : List (MethodName × Nat) := lw_privs_1 ++ (lw_privs_2 ++ (lw_privs_3 ++ (lw_privs_4)))
def lw_tbl : List Cond := k2_sels lw_privs ++ tables_1
theorem lw_privs_ok : ∀ q ∈ lw_privs, lw_okq q := by
  show ∀ q ∈ lw_privs_1 ++ (lw_privs_2 ++ (lw_privs_3 ++ (lw_privs_4))), lw_okq q
  exact List.forall_mem_append.mpr ⟨lw_r1, List.forall_mem_append.mpr ⟨lw_r2, List.forall_mem_append.mpr ⟨lw_r3, lw_r4⟩⟩⟩
end
section
/-! names: a part of what TURN printed (NAMES.whole), and the tables of the small machine; laid by wip/whole/gen_tables.py -/
def RX0 : String := "PackageModules$Layers"
def TX0 : u_T := fun k => match k with
  | 0 => ("PackageModules$Layers", "size", "I", false)
  | 1 => ("PackageModules$Layers", "parents", "[I", true)
  | _ => ("PackageModules$Layers", "sets", "[I", true)
def tyX0 : Nat → FieldType := fun k => match k with
  | 0 => .int
  | 1 => .array .int
  | _ => .array .int
theorem nmX0 : ∀ a, a < 3 → ∀ b, b < 3 → a ≠ b → (TX0 a).2.1 ≠ (TX0 b).2.1 := by decide +kernel
theorem tyX0_ok : ∀ k, k < 3 → parseFieldDescriptor (TX0 k).2.2.1 = some (tyX0 k) := by decide +kernel
abbrev cX0_init : ByteArray := prog_2_method_1_code
def yX0_init : MethodName := ⟨RX0, "<init>", "()V"⟩
abbrev cX0_holds : ByteArray := prog_2_method_2_code
def yX0_holds : MethodName := ⟨RX0, "holds", "(I)Z"⟩
abbrev cX0_isFull : ByteArray := prog_2_method_3_code
def yX0_isFull : MethodName := ⟨RX0, "isFull", "()Z"⟩
abbrev cX0_add : ByteArray := prog_2_method_4_code
def yX0_add : MethodName := ⟨RX0, "add", "(II)I"⟩
abbrev cX0_knownTo : ByteArray := prog_2_method_5_code
def yX0_knownTo : MethodName := ⟨RX0, "knownTo", "(I)I"⟩
abbrev cX0_homeOf : ByteArray := prog_2_method_6_code
def yX0_homeOf : MethodName := ⟨RX0, "homeOf", "(II)I"⟩
def RX1 : String := "PackageModules$Members"
def TX1 : u_T := fun k => match k with
  | 0 => ("PackageModules$Members", "size", "I", false)
  | 1 => ("PackageModules$Members", "types", "[I", true)
  | 2 => ("PackageModules$Members", "names", "[I", true)
  | 3 => ("PackageModules$Members", "kinds", "[I", true)
  | 4 => ("PackageModules$Members", "opens", "[Z", true)
  | _ => ("PackageModules$Members", "given", "[I", true)
def tyX1 : Nat → FieldType := fun k => match k with
  | 0 => .int
  | 1 => .array .int
  | 2 => .array .int
  | 3 => .array .int
  | 4 => .array .boolean
  | _ => .array .int
theorem nmX1 : ∀ a, a < 6 → ∀ b, b < 6 → a ≠ b → (TX1 a).2.1 ≠ (TX1 b).2.1 := by decide +kernel
theorem tyX1_ok : ∀ k, k < 6 → parseFieldDescriptor (TX1 k).2.2.1 = some (tyX1 k) := by decide +kernel
abbrev cX1_init : ByteArray := prog_3_method_1_code
def yX1_init : MethodName := ⟨RX1, "<init>", "()V"⟩
abbrev cX1_add : ByteArray := prog_3_method_2_code
def yX1_add : MethodName := ⟨RX1, "add", "(IIIZI)I"⟩
abbrev cX1_find : ByteArray := prog_3_method_3_code
def yX1_find : MethodName := ⟨RX1, "find", "(III)I"⟩
abbrev cX1_typeOf : ByteArray := prog_3_method_4_code
def yX1_typeOf : MethodName := ⟨RX1, "typeOf", "(I)I"⟩
abbrev cX1_isOpen : ByteArray := prog_3_method_5_code
def yX1_isOpen : MethodName := ⟨RX1, "isOpen", "(I)Z"⟩
abbrev cX1_givenBy : ByteArray := prog_3_method_6_code
def yX1_givenBy : MethodName := ⟨RX1, "givenBy", "(I)I"⟩
def RX2 : String := "PackageModules$Modules"
def TX2 : u_T := fun k => match k with
  | 0 => ("PackageModules$Modules", "size", "I", false)
  | 1 => ("PackageModules$Modules", "needs", "[I", true)
  | 2 => ("PackageModules$Modules", "passes", "[I", true)
  | 3 => ("PackageModules$Modules", "runNeeds", "[I", true)
  | _ => ("PackageModules$Modules", "runPasses", "[I", true)
def tyX2 : Nat → FieldType := fun k => match k with
  | 0 => .int
  | 1 => .array .int
  | 2 => .array .int
  | 3 => .array .int
  | _ => .array .int
theorem nmX2 : ∀ a, a < 5 → ∀ b, b < 5 → a ≠ b → (TX2 a).2.1 ≠ (TX2 b).2.1 := by decide +kernel
theorem tyX2_ok : ∀ k, k < 5 → parseFieldDescriptor (TX2 k).2.2.1 = some (tyX2 k) := by decide +kernel
abbrev cX2_init : ByteArray := prog_4_method_1_code
def yX2_init : MethodName := ⟨RX2, "<init>", "()V"⟩
abbrev cX2_holds : ByteArray := prog_4_method_2_code
def yX2_holds : MethodName := ⟨RX2, "holds", "(I)Z"⟩
abbrev cX2_add : ByteArray := prog_4_method_3_code
def yX2_add : MethodName := ⟨RX2, "add", "()I"⟩
abbrev cX2_join : ByteArray := prog_4_method_4_code
def yX2_join : MethodName := ⟨RX2, "join", "(III)V"⟩
abbrev cX2_needsAlready : ByteArray := prog_4_method_5_code
def yX2_needsAlready : MethodName := ⟨RX2, "needsAlready", "(II)Z"⟩
abbrev cX2_reaches : ByteArray := prog_4_method_6_code
def yX2_reaches : MethodName := ⟨RX2, "reaches", "(II)Z"⟩
abbrev cX2_readBy : ByteArray := prog_4_method_7_code
def yX2_readBy : MethodName := ⟨RX2, "readBy", "(IZ)I"⟩
abbrev cX2_neededAtRun : ByteArray := prog_4_method_8_code
def yX2_neededAtRun : MethodName := ⟨RX2, "neededAtRun", "(I)I"⟩
abbrev cX2_closed : ByteArray := prog_4_method_9_code
def yX2_closed : MethodName := ⟨RX2, "closed", "(I[I)I"⟩
def RX3 : String := "PackageModules$Packs"
def TX3 : u_T := fun k => match k with
  | 0 => ("PackageModules$Packs", "size", "I", false)
  | 1 => ("PackageModules$Packs", "owners", "[I", true)
  | 2 => ("PackageModules$Packs", "names", "[I", true)
  | 3 => ("PackageModules$Packs", "exported", "[I", true)
  | _ => ("PackageModules$Packs", "opened", "[I", true)
def tyX3 : Nat → FieldType := fun k => match k with
  | 0 => .int
  | 1 => .array .int
  | 2 => .array .int
  | 3 => .array .int
  | _ => .array .int
theorem nmX3 : ∀ a, a < 5 → ∀ b, b < 5 → a ≠ b → (TX3 a).2.1 ≠ (TX3 b).2.1 := by decide +kernel
theorem tyX3_ok : ∀ k, k < 5 → parseFieldDescriptor (TX3 k).2.2.1 = some (tyX3 k) := by decide +kernel
abbrev cX3_init : ByteArray := prog_5_method_1_code
def yX3_init : MethodName := ⟨RX3, "<init>", "()V"⟩
abbrev cX3_holds : ByteArray := prog_5_method_2_code
def yX3_holds : MethodName := ⟨RX3, "holds", "(I)Z"⟩
abbrev cX3_add : ByteArray := prog_5_method_3_code
def yX3_add : MethodName := ⟨RX3, "add", "(II)I"⟩
abbrev cX3_find : ByteArray := prog_5_method_4_code
def yX3_find : MethodName := ⟨RX3, "find", "(II)I"⟩
abbrev cX3_ownerOf : ByteArray := prog_5_method_5_code
def yX3_ownerOf : MethodName := ⟨RX3, "ownerOf", "(I)I"⟩
abbrev cX3_nameOf : ByteArray := prog_5_method_6_code
def yX3_nameOf : MethodName := ⟨RX3, "nameOf", "(I)I"⟩
abbrev cX3_isTold : ByteArray := prog_5_method_7_code
def yX3_isTold : MethodName := ⟨RX3, "isTold", "(IIZ)Z"⟩
abbrev cX3_tell : ByteArray := prog_5_method_8_code
def yX3_tell : MethodName := ⟨RX3, "tell", "(IIZ)V"⟩
abbrev cX3_isExportedTo : ByteArray := prog_5_method_9_code
def yX3_isExportedTo : MethodName := ⟨RX3, "isExportedTo", "(II)Z"⟩
abbrev cX3_isOpenedTo : ByteArray := prog_5_method_10_code
def yX3_isOpenedTo : MethodName := ⟨RX3, "isOpenedTo", "(II)Z"⟩
abbrev cX3_isSeenBy : ByteArray := prog_5_method_11_code
def yX3_isSeenBy : MethodName := ⟨RX3, "isSeenBy", "(III)Z"⟩
abbrev cX3_bitOf : ByteArray := prog_5_method_12_code
def yX3_bitOf : MethodName := ⟨RX3, "bitOf", "(I)I"⟩
def RX4 : String := "PackageModules$Services"
def TX4 : u_T := fun k => match k with
  | 0 => ("PackageModules$Services", "size", "I", false)
  | 1 => ("PackageModules$Services", "used", "[J", true)
  | 2 => ("PackageModules$Services", "provided", "[I", false)
  | _ => ("PackageModules$Services", "places", "[I", false)
def tyX4 : Nat → FieldType := fun k => match k with
  | 0 => .int
  | 1 => .array .long
  | 2 => .array .int
  | _ => .array .int
theorem nmX4 : ∀ a, a < 4 → ∀ b, b < 4 → a ≠ b → (TX4 a).2.1 ≠ (TX4 b).2.1 := by decide +kernel
theorem tyX4_ok : ∀ k, k < 4 → parseFieldDescriptor (TX4 k).2.2.1 = some (tyX4 k) := by decide +kernel
abbrev cX4_init : ByteArray := prog_6_method_1_code
def yX4_init : MethodName := ⟨RX4, "<init>", "()V"⟩
abbrev cX4_isUsed : ByteArray := prog_6_method_2_code
def yX4_isUsed : MethodName := ⟨RX4, "isUsed", "(II)Z"⟩
abbrev cX4_use : ByteArray := prog_6_method_3_code
def yX4_use : MethodName := ⟨RX4, "use", "(II)V"⟩
abbrev cX4_usedBy : ByteArray := prog_6_method_4_code
def yX4_usedBy : MethodName := ⟨RX4, "usedBy", "(I)J"⟩
abbrev cX4_provide : ByteArray := prog_6_method_5_code
def yX4_provide : MethodName := ⟨RX4, "provide", "(II)V"⟩
abbrev cX4_isProvided : ByteArray := prog_6_method_6_code
def yX4_isProvided : MethodName := ⟨RX4, "isProvided", "(II)Z"⟩
abbrev cX4_serviceAt : ByteArray := prog_6_method_7_code
def yX4_serviceAt : MethodName := ⟨RX4, "serviceAt", "(I)I"⟩
abbrev cX4_typeAt : ByteArray := prog_6_method_8_code
def yX4_typeAt : MethodName := ⟨RX4, "typeAt", "(I)I"⟩
def RX5 : String := "PackageModules$Types"
def TX5 : u_T := fun k => match k with
  | 0 => ("PackageModules$Types", "size", "I", false)
  | 1 => ("PackageModules$Types", "packs", "[I", true)
  | 2 => ("PackageModules$Types", "names", "[I", true)
  | 3 => ("PackageModules$Types", "kinds", "[I", true)
  | 4 => ("PackageModules$Types", "flags", "[I", true)
  | _ => ("PackageModules$Types", "parents", "[I", true)
def tyX5 : Nat → FieldType := fun k => match k with
  | 0 => .int
  | 1 => .array .int
  | 2 => .array .int
  | 3 => .array .int
  | 4 => .array .int
  | _ => .array .int
theorem nmX5 : ∀ a, a < 6 → ∀ b, b < 6 → a ≠ b → (TX5 a).2.1 ≠ (TX5 b).2.1 := by decide +kernel
theorem tyX5_ok : ∀ k, k < 6 → parseFieldDescriptor (TX5 k).2.2.1 = some (tyX5 k) := by decide +kernel
abbrev cX5_init : ByteArray := prog_7_method_1_code
def yX5_init : MethodName := ⟨RX5, "<init>", "()V"⟩
abbrev cX5_holds : ByteArray := prog_7_method_2_code
def yX5_holds : MethodName := ⟨RX5, "holds", "(I)Z"⟩
abbrev cX5_add : ByteArray := prog_7_method_3_code
def yX5_add : MethodName := ⟨RX5, "add", "(IIIII)I"⟩
abbrev cX5_find : ByteArray := prog_7_method_4_code
def yX5_find : MethodName := ⟨RX5, "find", "(II)I"⟩
abbrev cX5_anyIn : ByteArray := prog_7_method_5_code
def yX5_anyIn : MethodName := ⟨RX5, "anyIn", "(I)Z"⟩
abbrev cX5_packOf : ByteArray := prog_7_method_6_code
def yX5_packOf : MethodName := ⟨RX5, "packOf", "(I)I"⟩
abbrev cX5_nameOf : ByteArray := prog_7_method_7_code
def yX5_nameOf : MethodName := ⟨RX5, "nameOf", "(I)I"⟩
abbrev cX5_kindOf : ByteArray := prog_7_method_8_code
def yX5_kindOf : MethodName := ⟨RX5, "kindOf", "(I)I"⟩
abbrev cX5_parentOf : ByteArray := prog_7_method_9_code
def yX5_parentOf : MethodName := ⟨RX5, "parentOf", "(I)I"⟩
abbrev cX5_isOpen : ByteArray := prog_7_method_10_code
def yX5_isOpen : MethodName := ⟨RX5, "isOpen", "(I)Z"⟩
abbrev cX5_hasMaker : ByteArray := prog_7_method_11_code
def yX5_hasMaker : MethodName := ⟨RX5, "hasMaker", "(I)Z"⟩
abbrev cX5_isSubtype : ByteArray := prog_7_method_12_code
def yX5_isSubtype : MethodName := ⟨RX5, "isSubtype", "(II)Z"⟩
def RX6 : String := "PackageModules$Units"
def TX6 : u_T := fun k => match k with
  | 0 => ("PackageModules$Units", "size", "I", false)
  | 1 => ("PackageModules$Units", "packs", "[I", true)
  | 2 => ("PackageModules$Units", "sizes", "[I", true)
  | 3 => ("PackageModules$Units", "kinds", "[I", true)
  | 4 => ("PackageModules$Units", "whats", "[I", true)
  | _ => ("PackageModules$Units", "names", "[I", true)
def tyX6 : Nat → FieldType := fun k => match k with
  | 0 => .int
  | 1 => .array .int
  | 2 => .array .int
  | 3 => .array .int
  | 4 => .array .int
  | _ => .array .int
theorem nmX6 : ∀ a, a < 6 → ∀ b, b < 6 → a ≠ b → (TX6 a).2.1 ≠ (TX6 b).2.1 := by decide +kernel
theorem tyX6_ok : ∀ k, k < 6 → parseFieldDescriptor (TX6 k).2.2.1 = some (tyX6 k) := by decide +kernel
abbrev cX6_init : ByteArray := prog_8_method_1_code
def yX6_init : MethodName := ⟨RX6, "<init>", "()V"⟩
abbrev cX6_holds : ByteArray := prog_8_method_2_code
def yX6_holds : MethodName := ⟨RX6, "holds", "(I)Z"⟩
abbrev cX6_add : ByteArray := prog_8_method_3_code
def yX6_add : MethodName := ⟨RX6, "add", "(I)I"⟩
abbrev cX6_packOf : ByteArray := prog_8_method_4_code
def yX6_packOf : MethodName := ⟨RX6, "packOf", "(I)I"⟩
abbrev cX6_importsOf : ByteArray := prog_8_method_5_code
def yX6_importsOf : MethodName := ⟨RX6, "importsOf", "(I)I"⟩
abbrev cX6_isFull : ByteArray := prog_8_method_6_code
def yX6_isFull : MethodName := ⟨RX6, "isFull", "(I)Z"⟩
abbrev cX6_addImport : ByteArray := prog_8_method_7_code
def yX6_addImport : MethodName := ⟨RX6, "addImport", "(IIII)I"⟩
abbrev cX6_kindAt : ByteArray := prog_8_method_8_code
def yX6_kindAt : MethodName := ⟨RX6, "kindAt", "(II)I"⟩
abbrev cX6_whatAt : ByteArray := prog_8_method_9_code
def yX6_whatAt : MethodName := ⟨RX6, "whatAt", "(II)I"⟩
abbrev cX6_nameAt : ByteArray := prog_8_method_10_code
def yX6_nameAt : MethodName := ⟨RX6, "nameAt", "(II)I"⟩
abbrev cX6_hasImport : ByteArray := prog_8_method_11_code
def yX6_hasImport : MethodName := ⟨RX6, "hasImport", "(IIII)Z"⟩
def RX7 : String := "PackageModules"
def TX7 : u_T := fun k => match k with
  | 0 => ("PackageModules", "modules", "LPackageModules$Modules;", true)
  | 1 => ("PackageModules", "packs", "LPackageModules$Packs;", true)
  | 2 => ("PackageModules", "types", "LPackageModules$Types;", true)
  | 3 => ("PackageModules", "members", "LPackageModules$Members;", true)
  | 4 => ("PackageModules", "units", "LPackageModules$Units;", true)
  | 5 => ("PackageModules", "services", "LPackageModules$Services;", true)
  | _ => ("PackageModules", "layers", "LPackageModules$Layers;", true)
def tyX7 : Nat → FieldType := fun k => match k with
  | 0 => .object "PackageModules$Modules"
  | 1 => .object "PackageModules$Packs"
  | 2 => .object "PackageModules$Types"
  | 3 => .object "PackageModules$Members"
  | 4 => .object "PackageModules$Units"
  | 5 => .object "PackageModules$Services"
  | _ => .object "PackageModules$Layers"
theorem nmX7 : ∀ a, a < 7 → ∀ b, b < 7 → a ≠ b → (TX7 a).2.1 ≠ (TX7 b).2.1 := by decide +kernel
theorem tyX7_ok : ∀ k, k < 7 → parseFieldDescriptor (TX7 k).2.2.1 = some (tyX7 k) := by decide +kernel
abbrev cX7_init : ByteArray := prog_1_method_1_code
def yX7_init : MethodName := ⟨RX7, "<init>", "()V"⟩
abbrev cX7_module : ByteArray := prog_1_method_2_code
def yX7_module : MethodName := ⟨RX7, "module", "()I"⟩
abbrev cX7_pack : ByteArray := prog_1_method_3_code
def yX7_pack : MethodName := ⟨RX7, "pack", "(II)I"⟩
abbrev cX7_type : ByteArray := prog_1_method_4_code
def yX7_type : MethodName := ⟨RX7, "type", "(IIIII)I"⟩
abbrev cX7_member : ByteArray := prog_1_method_5_code
def yX7_member : MethodName := ⟨RX7, "member", "(IIIZI)I"⟩
abbrev cX7_requires : ByteArray := prog_1_method_6_code
def yX7_requires : MethodName := ⟨RX7, "requires", "(III)I"⟩
abbrev cX7_exports : ByteArray := prog_1_method_7_code
def yX7_exports : MethodName := ⟨RX7, "exports", "(IIZ)I"⟩
abbrev cX7_uses : ByteArray := prog_1_method_8_code
def yX7_uses : MethodName := ⟨RX7, "uses", "(II)I"⟩
abbrev cX7_provides : ByteArray := prog_1_method_9_code
def yX7_provides : MethodName := ⟨RX7, "provides", "(III)I"⟩
abbrev cX7_reads : ByteArray := prog_1_method_10_code
def yX7_reads : MethodName := ⟨RX7, "reads", "(IIZ)I"⟩
abbrev cX7_sees : ByteArray := prog_1_method_11_code
def yX7_sees : MethodName := ⟨RX7, "sees", "(IIZ)I"⟩
abbrev cX7_looks : ByteArray := prog_1_method_12_code
def yX7_looks : MethodName := ⟨RX7, "looks", "(II)I"⟩
abbrev cX7_split : ByteArray := prog_1_method_13_code
def yX7_split : MethodName := ⟨RX7, "split", "(I)I"⟩
abbrev cX7_unit : ByteArray := prog_1_method_14_code
def yX7_unit : MethodName := ⟨RX7, "unit", "(I)I"⟩
abbrev cX7_imports : ByteArray := prog_1_method_15_code
def yX7_imports : MethodName := ⟨RX7, "imports", "(IIII)I"⟩
abbrev cX7_meaning : ByteArray := prog_1_method_16_code
def yX7_meaning : MethodName := ⟨RX7, "meaning", "(II)I"⟩
abbrev cX7_memberOf : ByteArray := prog_1_method_17_code
def yX7_memberOf : MethodName := ⟨RX7, "memberOf", "(III)I"⟩
abbrev cX7_graph : ByteArray := prog_1_method_18_code
def yX7_graph : MethodName := ⟨RX7, "graph", "(IZ)I"⟩
abbrev cX7_has : ByteArray := prog_1_method_19_code
def yX7_has : MethodName := ⟨RX7, "has", "(IZI)I"⟩
abbrev cX7_provider : ByteArray := prog_1_method_20_code
def yX7_provider : MethodName := ⟨RX7, "provider", "(III)I"⟩
abbrev cX7_layer : ByteArray := prog_1_method_21_code
def yX7_layer : MethodName := ⟨RX7, "layer", "(IIZ)I"⟩
abbrev cX7_loader : ByteArray := prog_1_method_22_code
def yX7_loader : MethodName := ⟨RX7, "loader", "(II)I"⟩
abbrev cX7_finds : ByteArray := prog_1_method_23_code
def yX7_finds : MethodName := ⟨RX7, "finds", "(IIII)I"⟩
abbrev cX7_count : ByteArray := prog_1_method_24_code
def yX7_count : MethodName := ⟨RX7, "count", "(I)I"⟩
abbrev cX7_within : ByteArray := prog_1_method_25_code
def yX7_within : MethodName := ⟨RX7, "within", "(II)Z"⟩
abbrev cX7_isName : ByteArray := prog_1_method_26_code
def yX7_isName : MethodName := ⟨RX7, "isName", "(I)Z"⟩
abbrev cX7_hasBit : ByteArray := prog_1_method_27_code
def yX7_hasBit : MethodName := ⟨RX7, "hasBit", "(II)Z"⟩
abbrev cX7_broken : ByteArray := prog_1_method_28_code
def yX7_broken : MethodName := ⟨RX7, "broken", "(I)I"⟩
abbrev cX7_asAnswer : ByteArray := prog_1_method_29_code
def yX7_asAnswer : MethodName := ⟨RX7, "asAnswer", "(Z)I"⟩
abbrev cX7_isTypeOrNone : ByteArray := prog_1_method_30_code
def yX7_isTypeOrNone : MethodName := ⟨RX7, "isTypeOrNone", "(I)Z"⟩
abbrev cX7_ownerOfType : ByteArray := prog_1_method_31_code
def yX7_ownerOfType : MethodName := ⟨RX7, "ownerOfType", "(I)I"⟩
abbrev cX7_ownerOfUnit : ByteArray := prog_1_method_32_code
def yX7_ownerOfUnit : MethodName := ⟨RX7, "ownerOfUnit", "(I)I"⟩
abbrev cX7_isPackSeen : ByteArray := prog_1_method_33_code
def yX7_isPackSeen : MethodName := ⟨RX7, "isPackSeen", "(II)Z"⟩
abbrev cX7_isTypeSeen : ByteArray := prog_1_method_34_code
def yX7_isTypeSeen : MethodName := ⟨RX7, "isTypeSeen", "(II)Z"⟩
abbrev cX7_leastSplitName : ByteArray := prog_1_method_35_code
def yX7_leastSplitName : MethodName := ⟨RX7, "leastSplitName", "(I)I"⟩
abbrev cX7_anySplit : ByteArray := prog_1_method_36_code
def yX7_anySplit : MethodName := ⟨RX7, "anySplit", "(I)Z"⟩
abbrev cX7_isImport : ByteArray := prog_1_method_37_code
def yX7_isImport : MethodName := ⟨RX7, "isImport", "(III)Z"⟩
abbrev cX7_importRule : ByteArray := prog_1_method_38_code
def yX7_importRule : MethodName := ⟨RX7, "importRule", "(IIII)I"⟩
abbrev cX7_isPackNameSeen : ByteArray := prog_1_method_39_code
def yX7_isPackNameSeen : MethodName := ⟨RX7, "isPackNameSeen", "(II)Z"⟩
abbrev cX7_importsRival : ByteArray := prog_1_method_40_code
def yX7_importsRival : MethodName := ⟨RX7, "importsRival", "(II)Z"⟩
abbrev cX7_hasUsableMember : ByteArray := prog_1_method_41_code
def yX7_hasUsableMember : MethodName := ⟨RX7, "hasUsableMember", "(III)Z"⟩
abbrev cX7_usableMember : ByteArray := prog_1_method_42_code
def yX7_usableMember : MethodName := ⟨RX7, "usableMember", "(IIII)I"⟩
abbrev cX7_nearestMember : ByteArray := prog_1_method_43_code
def yX7_nearestMember : MethodName := ⟨RX7, "nearestMember", "(III)I"⟩
abbrev cX7_singlyImportedType : ByteArray := prog_1_method_44_code
def yX7_singlyImportedType : MethodName := ⟨RX7, "singlyImportedType", "(II)I"⟩
abbrev cX7_widelyImportedType : ByteArray := prog_1_method_45_code
def yX7_widelyImportedType : MethodName := ⟨RX7, "widelyImportedType", "(II)I"⟩
abbrev cX7_isWidelyImported : ByteArray := prog_1_method_46_code
def yX7_isWidelyImported : MethodName := ⟨RX7, "isWidelyImported", "(II)Z"⟩
abbrev cX7_importedMember : ByteArray := prog_1_method_47_code
def yX7_importedMember : MethodName := ⟨RX7, "importedMember", "(IIII)I"⟩
abbrev cX7_memberByImport : ByteArray := prog_1_method_48_code
def yX7_memberByImport : MethodName := ⟨RX7, "memberByImport", "(IIIII)I"⟩
abbrev cX7_provideRule : ByteArray := prog_1_method_49_code
def yX7_provideRule : MethodName := ⟨RX7, "provideRule", "(III)I"⟩
abbrev cX7_giverRule : ByteArray := prog_1_method_50_code
def yX7_giverRule : MethodName := ⟨RX7, "giverRule", "(II)I"⟩
abbrev cX7_makerRule : ByteArray := prog_1_method_51_code
def yX7_makerRule : MethodName := ⟨RX7, "makerRule", "(II)I"⟩
abbrev cX7_graphOf : ByteArray := prog_1_method_52_code
def yX7_graphOf : MethodName := ⟨RX7, "graphOf", "(IZ)I"⟩
abbrev cX7_providersFor : ByteArray := prog_1_method_53_code
def yX7_providersFor : MethodName := ⟨RX7, "providersFor", "(I)I"⟩
abbrev cX7_providerAt : ByteArray := prog_1_method_54_code
def yX7_providerAt : MethodName := ⟨RX7, "providerAt", "(III)I"⟩
abbrev cX7_foundPack : ByteArray := prog_1_method_55_code
def yX7_foundPack : MethodName := ⟨RX7, "foundPack", "(III)I"⟩
def RX8 : String := "PackageModulesModel"
def TX8 : u_T := fun k => match k with
  | 0 => ("PackageModulesModel", "modules", "I", false)
  | 1 => ("PackageModulesModel", "required", "[I", true)
  | 2 => ("PackageModulesModel", "packs", "I", false)
  | 3 => ("PackageModulesModel", "packModule", "[I", true)
  | 4 => ("PackageModulesModel", "packName", "[I", true)
  | 5 => ("PackageModulesModel", "exported", "[Z", true)
  | 6 => ("PackageModulesModel", "opened", "[Z", true)
  | 7 => ("PackageModulesModel", "types", "I", false)
  | 8 => ("PackageModulesModel", "typePack", "[I", true)
  | 9 => ("PackageModulesModel", "typeName", "[I", true)
  | 10 => ("PackageModulesModel", "typeKind", "[I", true)
  | 11 => ("PackageModulesModel", "typeFlags", "[I", true)
  | 12 => ("PackageModulesModel", "typeParent", "[I", true)
  | 13 => ("PackageModulesModel", "members", "I", false)
  | 14 => ("PackageModulesModel", "memberType", "[I", true)
  | 15 => ("PackageModulesModel", "memberName", "[I", true)
  | 16 => ("PackageModulesModel", "memberKind", "[I", true)
  | 17 => ("PackageModulesModel", "memberOpen", "[Z", true)
  | 18 => ("PackageModulesModel", "memberGives", "[I", true)
  | 19 => ("PackageModulesModel", "units", "I", false)
  | 20 => ("PackageModulesModel", "unitPack", "[I", true)
  | 21 => ("PackageModulesModel", "importMany", "[I", true)
  | 22 => ("PackageModulesModel", "importKind", "[I", true)
  | 23 => ("PackageModulesModel", "importWhat", "[I", true)
  | 24 => ("PackageModulesModel", "importName", "[I", true)
  | 25 => ("PackageModulesModel", "used", "[Z", true)
  | 26 => ("PackageModulesModel", "provisions", "I", false)
  | 27 => ("PackageModulesModel", "provideModule", "[I", true)
  | 28 => ("PackageModulesModel", "provideService", "[I", true)
  | 29 => ("PackageModulesModel", "provideType", "[I", true)
  | 30 => ("PackageModulesModel", "layers", "I", false)
  | 31 => ("PackageModulesModel", "layerParent", "[I", true)
  | 32 => ("PackageModulesModel", "layerHas", "[Z", true)
  | _ => ("PackageModulesModel", "come", "[Z", true)
def tyX8 : Nat → FieldType := fun k => match k with
  | 0 => .int
  | 1 => .array .int
  | 2 => .int
  | 3 => .array .int
  | 4 => .array .int
  | 5 => .array .boolean
  | 6 => .array .boolean
  | 7 => .int
  | 8 => .array .int
  | 9 => .array .int
  | 10 => .array .int
  | 11 => .array .int
  | 12 => .array .int
  | 13 => .int
  | 14 => .array .int
  | 15 => .array .int
  | 16 => .array .int
  | 17 => .array .boolean
  | 18 => .array .int
  | 19 => .int
  | 20 => .array .int
  | 21 => .array .int
  | 22 => .array .int
  | 23 => .array .int
  | 24 => .array .int
  | 25 => .array .boolean
  | 26 => .int
  | 27 => .array .int
  | 28 => .array .int
  | 29 => .array .int
  | 30 => .int
  | 31 => .array .int
  | 32 => .array .boolean
  | _ => .array .boolean
theorem nmX8 : ∀ a, a < 34 → ∀ b, b < 34 → a ≠ b → (TX8 a).2.1 ≠ (TX8 b).2.1 := by decide +kernel
theorem tyX8_ok : ∀ k, k < 34 → parseFieldDescriptor (TX8 k).2.2.1 = some (tyX8 k) := by decide +kernel
abbrev cX8_init : ByteArray := prog_10_method_1_code
def yX8_init : MethodName := ⟨RX8, "<init>", "()V"⟩
abbrev cX8_in : ByteArray := prog_10_method_3_code
def yX8_in : MethodName := ⟨RX8, "in", "(III)Z"⟩
abbrev cX8_broken : ByteArray := prog_10_method_4_code
def yX8_broken : MethodName := ⟨RX8, "broken", "(I)I"⟩
abbrev cX8_isModule : ByteArray := prog_10_method_5_code
def yX8_isModule : MethodName := ⟨RX8, "isModule", "(I)Z"⟩
abbrev cX8_isPack : ByteArray := prog_10_method_6_code
def yX8_isPack : MethodName := ⟨RX8, "isPack", "(I)Z"⟩
abbrev cX8_isType : ByteArray := prog_10_method_7_code
def yX8_isType : MethodName := ⟨RX8, "isType", "(I)Z"⟩
abbrev cX8_isUnit : ByteArray := prog_10_method_8_code
def yX8_isUnit : MethodName := ⟨RX8, "isUnit", "(I)Z"⟩
abbrev cX8_isName : ByteArray := prog_10_method_9_code
def yX8_isName : MethodName := ⟨RX8, "isName", "(I)Z"⟩
abbrev cX8_module : ByteArray := prog_10_method_10_code
def yX8_module : MethodName := ⟨RX8, "module", "()I"⟩
abbrev cX8_packOf : ByteArray := prog_10_method_11_code
def yX8_packOf : MethodName := ⟨RX8, "packOf", "(II)I"⟩
abbrev cX8_typeOf : ByteArray := prog_10_method_12_code
def yX8_typeOf : MethodName := ⟨RX8, "typeOf", "(II)I"⟩
abbrev cX8_ownMember : ByteArray := prog_10_method_13_code
def yX8_ownMember : MethodName := ⟨RX8, "ownMember", "(III)I"⟩
abbrev cX8_pack : ByteArray := prog_10_method_14_code
def yX8_pack : MethodName := ⟨RX8, "pack", "(II)I"⟩
abbrev cX8_type : ByteArray := prog_10_method_15_code
def yX8_type : MethodName := ⟨RX8, "type", "(IIIII)I"⟩
abbrev cX8_member : ByteArray := prog_10_method_16_code
def yX8_member : MethodName := ⟨RX8, "member", "(IIIZI)I"⟩
abbrev cX8_isOpen : ByteArray := prog_10_method_17_code
def yX8_isOpen : MethodName := ⟨RX8, "isOpen", "(I)Z"⟩
abbrev cX8_moduleOf : ByteArray := prog_10_method_18_code
def yX8_moduleOf : MethodName := ⟨RX8, "moduleOf", "(I)I"⟩
abbrev cX8_isSubtype : ByteArray := prog_10_method_19_code
def yX8_isSubtype : MethodName := ⟨RX8, "isSubtype", "(II)Z"⟩
abbrev cX8_clear : ByteArray := prog_10_method_20_code
def yX8_clear : MethodName := ⟨RX8, "clear", "()V"⟩
abbrev cX8_isEdge : ByteArray := prog_10_method_21_code
def yX8_isEdge : MethodName := ⟨RX8, "isEdge", "(IIZZ)Z"⟩
abbrev cX8_goesOn : ByteArray := prog_10_method_22_code
def yX8_goesOn : MethodName := ⟨RX8, "goesOn", "(ZZI)Z"⟩
abbrev cX8_read : ByteArray := prog_10_method_23_code
def yX8_read : MethodName := ⟨RX8, "read", "(IZ)V"⟩
abbrev cX8_requires : ByteArray := prog_10_method_24_code
def yX8_requires : MethodName := ⟨RX8, "requires", "(III)I"⟩
abbrev cX8_exports : ByteArray := prog_10_method_25_code
def yX8_exports : MethodName := ⟨RX8, "exports", "(IIZ)I"⟩
abbrev cX8_isExported : ByteArray := prog_10_method_26_code
def yX8_isExported : MethodName := ⟨RX8, "isExported", "(II)Z"⟩
abbrev cX8_seesPack : ByteArray := prog_10_method_27_code
def yX8_seesPack : MethodName := ⟨RX8, "seesPack", "(II)Z"⟩
abbrev cX8_seesType : ByteArray := prog_10_method_28_code
def yX8_seesType : MethodName := ⟨RX8, "seesType", "(II)Z"⟩
abbrev cX8_reads : ByteArray := prog_10_method_29_code
def yX8_reads : MethodName := ⟨RX8, "reads", "(IIZ)I"⟩
abbrev cX8_sees : ByteArray := prog_10_method_30_code
def yX8_sees : MethodName := ⟨RX8, "sees", "(IIZ)I"⟩
abbrev cX8_looks : ByteArray := prog_10_method_31_code
def yX8_looks : MethodName := ⟨RX8, "looks", "(II)I"⟩
abbrev cX8_splitOf : ByteArray := prog_10_method_32_code
def yX8_splitOf : MethodName := ⟨RX8, "splitOf", "(I)I"⟩
abbrev cX8_split : ByteArray := prog_10_method_33_code
def yX8_split : MethodName := ⟨RX8, "split", "(I)I"⟩
abbrev cX8_uses : ByteArray := prog_10_method_34_code
def yX8_uses : MethodName := ⟨RX8, "uses", "(II)I"⟩
abbrev cX8_provideRule : ByteArray := prog_10_method_35_code
def yX8_provideRule : MethodName := ⟨RX8, "provideRule", "(III)I"⟩
abbrev cX8_provides : ByteArray := prog_10_method_36_code
def yX8_provides : MethodName := ⟨RX8, "provides", "(III)I"⟩
abbrev cX8_isProviding : ByteArray := prog_10_method_37_code
def yX8_isProviding : MethodName := ⟨RX8, "isProviding", "(II)Z"⟩
abbrev cX8_isUsed : ByteArray := prog_10_method_38_code
def yX8_isUsed : MethodName := ⟨RX8, "isUsed", "(I)Z"⟩
abbrev cX8_binds : ByteArray := prog_10_method_39_code
def yX8_binds : MethodName := ⟨RX8, "binds", "()Z"⟩
abbrev cX8_graphOf : ByteArray := prog_10_method_40_code
def yX8_graphOf : MethodName := ⟨RX8, "graphOf", "(IZ)V"⟩
abbrev cX8_graph : ByteArray := prog_10_method_41_code
def yX8_graph : MethodName := ⟨RX8, "graph", "(IZ)I"⟩
abbrev cX8_has : ByteArray := prog_10_method_42_code
def yX8_has : MethodName := ⟨RX8, "has", "(IZI)I"⟩
abbrev cX8_provider : ByteArray := prog_10_method_43_code
def yX8_provider : MethodName := ⟨RX8, "provider", "(III)I"⟩
abbrev cX8_unit : ByteArray := prog_10_method_44_code
def yX8_unit : MethodName := ⟨RX8, "unit", "(I)I"⟩
abbrev cX8_home : ByteArray := prog_10_method_45_code
def yX8_home : MethodName := ⟨RX8, "home", "(I)I"⟩
abbrev cX8_usable : ByteArray := prog_10_method_46_code
def yX8_usable : MethodName := ⟨RX8, "usable", "(IIII)I"⟩
abbrev cX8_importRule : ByteArray := prog_10_method_47_code
def yX8_importRule : MethodName := ⟨RX8, "importRule", "(IIII)I"⟩
abbrev cX8_imports : ByteArray := prog_10_method_48_code
def yX8_imports : MethodName := ⟨RX8, "imports", "(IIII)I"⟩
abbrev cX8_byPacks : ByteArray := prog_10_method_49_code
def yX8_byPacks : MethodName := ⟨RX8, "byPacks", "(II)I"⟩
abbrev cX8_meaning : ByteArray := prog_10_method_50_code
def yX8_meaning : MethodName := ⟨RX8, "meaning", "(II)I"⟩
abbrev cX8_byImports : ByteArray := prog_10_method_51_code
def yX8_byImports : MethodName := ⟨RX8, "byImports", "(IIII)I"⟩
abbrev cX8_memberOf : ByteArray := prog_10_method_52_code
def yX8_memberOf : MethodName := ⟨RX8, "memberOf", "(III)I"⟩
abbrev cX8_isLayer : ByteArray := prog_10_method_53_code
def yX8_isLayer : MethodName := ⟨RX8, "isLayer", "(I)Z"⟩
abbrev cX8_loaderOf : ByteArray := prog_10_method_54_code
def yX8_loaderOf : MethodName := ⟨RX8, "loaderOf", "(II)I"⟩
abbrev cX8_layer : ByteArray := prog_10_method_55_code
def yX8_layer : MethodName := ⟨RX8, "layer", "(IIZ)I"⟩
abbrev cX8_loader : ByteArray := prog_10_method_56_code
def yX8_loader : MethodName := ⟨RX8, "loader", "(II)I"⟩
abbrev cX8_finds : ByteArray := prog_10_method_57_code
def yX8_finds : MethodName := ⟨RX8, "finds", "(IIII)I"⟩
abbrev cX8_count : ByteArray := prog_10_method_58_code
def yX8_count : MethodName := ⟨RX8, "count", "(I)I"⟩
def RJx8e188 : String := "java/lang/Cloneable"
def RJ6 : String := "java/lang/Integer"
abbrev cJ6_bitCount_0f7a4 : ByteArray := prog_12_method_49_code
def yJ6_bitCount_0f7a4 : MethodName := ⟨RJ6, "bitCount", "(I)I"⟩
def RJ9 : String := "java/lang/Math"
abbrev cJ9_min_7cf53 : ByteArray := prog_13_method_69_code
def yJ9_min_7cf53 : MethodName := ⟨RJ9, "min", "(II)I"⟩
def RJ10 : String := "java/lang/System"
def RJ7 : String := "java/util/Arrays"
abbrev cJ7_copyOf_59c91 : ByteArray := prog_15_method_123_code
def yJ7_copyOf_59c91 : MethodName := ⟨RJ7, "copyOf", "([II)[I"⟩
def RL : String := "PackageModulesLaw"
abbrev cL_law : ByteArray := code
def yL_law : MethodName := ⟨RL, "law", "([I)Z"⟩
abbrev vwCl : List vw_C := [(RX0, TX0, 3), (RX1, TX1, 6), (RX2, TX2, 5), (RX3, TX3, 5), (RX4, TX4, 4), (RX5, TX5, 6), (RX6, TX6, 6), (RX7, TX7, 7), (RX8, TX8, 34)]
end
section
abbrev xm_M : Type := MethodName × ByteArray × Nat × Option FieldType × Nat × Nat × Nat × Bool
def xp_cl : List vw_C := [(RX0, TX0, 3), (RX1, TX1, 6), (RX2, TX2, 5), (RX3, TX3, 5), (RX4, TX4, 4), (RX5, TX5, 6), (RX6, TX6, 6), (RX7, TX7, 7), (RX8, TX8, 34)]
/-- a class's name by its number -/
def xp_on : List String := [RX0, RX1, RX2, RX3, RX4, RX5, RX6, RX7, RX8, RJ6, RJ9, RJ7, RL]
abbrev xM0 : xm_M := (yX0_isFull, cX0_isFull, 1, some .boolean, 0, 0, 0, false)
abbrev xM1 : xm_M := (yX0_knownTo, cX0_knownTo, 5, some .int, 0, 0, 0, false)
abbrev xM2 : xm_M := (yX1_add, cX1_add, 6, some .int, 1, 0, 0, false)
abbrev xM3 : xm_M := (yX1_find, cX1_find, 5, some .int, 1, 0, 0, false)
abbrev xM4 : xm_M := (yX1_typeOf, cX1_typeOf, 2, some .int, 1, 0, 0, false)
abbrev xM5 : xm_M := (yX1_isOpen, cX1_isOpen, 2, some .boolean, 1, 0, 0, false)
abbrev xM6 : xm_M := (yX1_givenBy, cX1_givenBy, 2, some .int, 1, 0, 0, false)
abbrev xM7 : xm_M := (yX2_add, cX2_add, 1, some .int, 2, 0, 0, false)
abbrev xM8 : xm_M := (yX2_join, cX2_join, 7, none, 2, 0, 0, false)
abbrev xM9 : xm_M := (yX3_add, cX3_add, 3, some .int, 3, 0, 0, false)
abbrev xM10 : xm_M := (yX3_find, cX3_find, 4, some .int, 3, 0, 0, false)
abbrev xM11 : xm_M := (yX3_ownerOf, cX3_ownerOf, 2, some .int, 3, 0, 0, false)
abbrev xM12 : xm_M := (yX3_nameOf, cX3_nameOf, 2, some .int, 3, 0, 0, false)
abbrev xM13 : xm_M := (yX3_bitOf, cX3_bitOf, 1, some .int, 3, 0, 0, false)
abbrev xM14 : xm_M := (yX4_isUsed, cX4_isUsed, 3, some .boolean, 4, 0, 0, false)
abbrev xM15 : xm_M := (yX4_use, cX4_use, 3, none, 4, 0, 0, false)
abbrev xM16 : xm_M := (yX4_isProvided, cX4_isProvided, 4, some .boolean, 4, 0, 0, false)
abbrev xM17 : xm_M := (yX4_serviceAt, cX4_serviceAt, 2, some .int, 4, 0, 0, false)
abbrev xM18 : xm_M := (yX4_typeAt, cX4_typeAt, 2, some .int, 4, 0, 0, false)
abbrev xM19 : xm_M := (yX5_add, cX5_add, 6, some .int, 5, 0, 0, false)
abbrev xM20 : xm_M := (yX5_find, cX5_find, 4, some .int, 5, 0, 0, false)
abbrev xM21 : xm_M := (yX5_anyIn, cX5_anyIn, 3, some .boolean, 5, 0, 0, false)
abbrev xM22 : xm_M := (yX5_packOf, cX5_packOf, 2, some .int, 5, 0, 0, false)
abbrev xM23 : xm_M := (yX5_nameOf, cX5_nameOf, 2, some .int, 5, 0, 0, false)
abbrev xM24 : xm_M := (yX5_kindOf, cX5_kindOf, 2, some .int, 5, 0, 0, false)
abbrev xM25 : xm_M := (yX5_parentOf, cX5_parentOf, 2, some .int, 5, 0, 0, false)
abbrev xM26 : xm_M := (yX5_isOpen, cX5_isOpen, 2, some .boolean, 5, 0, 0, false)
abbrev xM27 : xm_M := (yX5_hasMaker, cX5_hasMaker, 2, some .boolean, 5, 0, 0, false)
abbrev xM28 : xm_M := (yX5_isSubtype, cX5_isSubtype, 5, some .boolean, 5, 0, 0, false)
abbrev xM29 : xm_M := (yX6_add, cX6_add, 2, some .int, 6, 0, 0, false)
abbrev xM30 : xm_M := (yX6_packOf, cX6_packOf, 2, some .int, 6, 0, 0, false)
abbrev xM31 : xm_M := (yX6_importsOf, cX6_importsOf, 2, some .int, 6, 0, 0, false)
abbrev xM32 : xm_M := (yX6_isFull, cX6_isFull, 2, some .boolean, 6, 0, 0, false)
abbrev xM33 : xm_M := (yX6_kindAt, cX6_kindAt, 3, some .int, 6, 0, 0, false)
abbrev xM34 : xm_M := (yX6_whatAt, cX6_whatAt, 3, some .int, 6, 0, 0, false)
abbrev xM35 : xm_M := (yX6_nameAt, cX6_nameAt, 3, some .int, 6, 0, 0, false)
abbrev xM36 : xm_M := (yX7_count, cX7_count, 2, some .int, 7, 0, 0, false)
abbrev xM37 : xm_M := (yX7_within, cX7_within, 2, some .boolean, 7, 0, 0, false)
abbrev xM38 : xm_M := (yX7_hasBit, cX7_hasBit, 2, some .boolean, 7, 0, 0, false)
abbrev xM39 : xm_M := (yX7_broken, cX7_broken, 1, some .int, 7, 0, 0, false)
abbrev xM40 : xm_M := (yX7_asAnswer, cX7_asAnswer, 1, some .int, 7, 0, 0, false)
abbrev xM41 : xm_M := (yX8_in, cX8_in, 3, some .boolean, 8, 0, 0, false)
abbrev xM42 : xm_M := (yX8_broken, cX8_broken, 1, some .int, 8, 0, 0, false)
abbrev xM43 : xm_M := (yX8_module, cX8_module, 1, some .int, 8, 0, 0, false)
abbrev xM44 : xm_M := (yX8_packOf, cX8_packOf, 5, some .int, 8, 0, 0, false)
abbrev xM45 : xm_M := (yX8_typeOf, cX8_typeOf, 5, some .int, 8, 0, 0, false)
abbrev xM46 : xm_M := (yX8_ownMember, cX8_ownMember, 6, some .int, 8, 0, 0, false)
abbrev xM47 : xm_M := (yX8_isOpen, cX8_isOpen, 2, some .boolean, 8, 0, 0, false)
abbrev xM48 : xm_M := (yX8_moduleOf, cX8_moduleOf, 2, some .int, 8, 0, 0, false)
abbrev xM49 : xm_M := (yX8_isSubtype, cX8_isSubtype, 4, some .boolean, 8, 0, 0, false)
abbrev xM50 : xm_M := (yX8_clear, cX8_clear, 2, none, 8, 0, 0, false)
abbrev xM51 : xm_M := (yX8_isEdge, cX8_isEdge, 6, some .boolean, 8, 0, 0, false)
abbrev xM52 : xm_M := (yX8_isExported, cX8_isExported, 3, some .boolean, 8, 0, 0, false)
abbrev xM53 : xm_M := (yX8_isProviding, cX8_isProviding, 5, some .boolean, 8, 0, 0, false)
abbrev xM54 : xm_M := (yX8_isUsed, cX8_isUsed, 4, some .boolean, 8, 0, 0, false)
abbrev xM55 : xm_M := (yX8_home, cX8_home, 2, some .int, 8, 0, 0, false)
abbrev xM56 : xm_M := (yX8_loaderOf, cX8_loaderOf, 4, some .int, 8, 0, 0, false)
abbrev xM57 : xm_M := (yX8_count, cX8_count, 2, some .int, 8, 0, 0, false)
abbrev xM58 : xm_M := (yJ6_bitCount_0f7a4, cJ6_bitCount_0f7a4, 1, some .int, 9, 0, 0, false)
abbrev xM59 : xm_M := (yJ9_min_7cf53, cJ9_min_7cf53, 2, some .int, 10, 0, 0, false)
abbrev xM60 : xm_M := (yX0_init, cX0_init, 1, none, 0, 1, 20, true)
abbrev xM61 : xm_M := (yX0_holds, cX0_holds, 2, some .boolean, 0, 1, 21, false)
abbrev xM62 : xm_M := (yX0_add, cX0_add, 3, some .int, 0, 1, 20, false)
abbrev xM63 : xm_M := (yX0_homeOf, cX0_homeOf, 5, some .int, 0, 1, 21, false)
abbrev xM64 : xm_M := (yX1_init, cX1_init, 1, none, 1, 1, 20, true)
abbrev xM65 : xm_M := (yX2_init, cX2_init, 1, none, 2, 1, 20, true)
abbrev xM66 : xm_M := (yX2_holds, cX2_holds, 2, some .boolean, 2, 1, 21, false)
abbrev xM67 : xm_M := (yX2_needsAlready, cX2_needsAlready, 3, some .boolean, 2, 1, 21, false)
abbrev xM68 : xm_M := (yX2_closed, cX2_closed, 7, some .int, 2, 1, 21, false)
abbrev xM69 : xm_M := (yX3_init, cX3_init, 1, none, 3, 1, 20, true)
abbrev xM70 : xm_M := (yX3_holds, cX3_holds, 2, some .boolean, 3, 1, 21, false)
abbrev xM71 : xm_M := (yX3_isTold, cX3_isTold, 4, some .boolean, 3, 1, 20, false)
abbrev xM72 : xm_M := (yX3_tell, cX3_tell, 4, none, 3, 1, 20, false)
abbrev xM73 : xm_M := (yX3_isExportedTo, cX3_isExportedTo, 3, some .boolean, 3, 1, 20, false)
abbrev xM74 : xm_M := (yX3_isOpenedTo, cX3_isOpenedTo, 3, some .boolean, 3, 1, 20, false)
abbrev xM75 : xm_M := (yX4_init, cX4_init, 1, none, 4, 1, 20, true)
abbrev xM76 : xm_M := (yX4_usedBy, cX4_usedBy, 5, some .long, 4, 1, 21, false)
abbrev xM77 : xm_M := (yX5_init, cX5_init, 1, none, 5, 1, 20, true)
abbrev xM78 : xm_M := (yX5_holds, cX5_holds, 2, some .boolean, 5, 1, 21, false)
abbrev xM79 : xm_M := (yX6_init, cX6_init, 1, none, 6, 1, 20, true)
abbrev xM80 : xm_M := (yX6_holds, cX6_holds, 2, some .boolean, 6, 1, 21, false)
abbrev xM81 : xm_M := (yX6_addImport, cX6_addImport, 6, some .int, 6, 1, 21, false)
abbrev xM82 : xm_M := (yX6_hasImport, cX6_hasImport, 6, some .boolean, 6, 1, 22, false)
abbrev xM83 : xm_M := (yX7_module, cX7_module, 1, some .int, 7, 1, 20, false)
abbrev xM84 : xm_M := (yX7_isName, cX7_isName, 1, some .boolean, 7, 1, 21, false)
abbrev xM85 : xm_M := (yX7_ownerOfType, cX7_ownerOfType, 2, some .int, 7, 1, 21, false)
abbrev xM86 : xm_M := (yX7_ownerOfUnit, cX7_ownerOfUnit, 2, some .int, 7, 1, 21, false)
abbrev xM87 : xm_M := (yX7_nearestMember, cX7_nearestMember, 7, some .int, 7, 1, 24, false)
abbrev xM88 : xm_M := (yX7_singlyImportedType, cX7_singlyImportedType, 5, some .int, 7, 1, 22, false)
abbrev xM89 : xm_M := (yX7_giverRule, cX7_giverRule, 3, some .int, 7, 1, 24, false)
abbrev xM90 : xm_M := (yX7_makerRule, cX7_makerRule, 3, some .int, 7, 1, 24, false)
abbrev xM91 : xm_M := (yX8_init, cX8_init, 1, none, 8, 1, 20, true)
abbrev xM92 : xm_M := (yX8_isModule, cX8_isModule, 2, some .boolean, 8, 1, 22, false)
abbrev xM93 : xm_M := (yX8_isPack, cX8_isPack, 2, some .boolean, 8, 1, 22, false)
abbrev xM94 : xm_M := (yX8_isType, cX8_isType, 2, some .boolean, 8, 1, 22, false)
abbrev xM95 : xm_M := (yX8_isUnit, cX8_isUnit, 2, some .boolean, 8, 1, 22, false)
abbrev xM96 : xm_M := (yX8_isName, cX8_isName, 1, some .boolean, 8, 1, 22, false)
abbrev xM97 : xm_M := (yX8_goesOn, cX8_goesOn, 7, some .boolean, 8, 1, 25, false)
abbrev xM98 : xm_M := (yX8_seesPack, cX8_seesPack, 3, some .boolean, 8, 1, 22, false)
abbrev xM99 : xm_M := (yX8_binds, cX8_binds, 5, some .boolean, 8, 1, 24, false)
abbrev xM100 : xm_M := (yX8_usable, cX8_usable, 7, some .int, 8, 1, 25, false)
abbrev xM101 : xm_M := (yX8_isLayer, cX8_isLayer, 2, some .boolean, 8, 1, 22, false)
abbrev xM102 : xm_M := (yJ7_copyOf_59c91, cJ7_copyOf_59c91, 3, some (.array .int), 11, 1, 26, false)
abbrev xM103 : xm_M := (yX2_reaches, cX2_reaches, 3, some .boolean, 2, 2, 47, false)
abbrev xM104 : xm_M := (yX2_readBy, cX2_readBy, 4, some .int, 2, 2, 47, false)
abbrev xM105 : xm_M := (yX2_neededAtRun, cX2_neededAtRun, 2, some .int, 2, 2, 47, false)
abbrev xM106 : xm_M := (yX3_isSeenBy, cX3_isSeenBy, 4, some .boolean, 3, 2, 42, false)
abbrev xM107 : xm_M := (yX4_provide, cX4_provide, 3, none, 4, 2, 48, false)
abbrev xM108 : xm_M := (yX7_init, cX7_init, 1, none, 7, 2, 40, true)
abbrev xM109 : xm_M := (yX7_pack, cX7_pack, 3, some .int, 7, 2, 42, false)
abbrev xM110 : xm_M := (yX7_exports, cX7_exports, 4, some .int, 7, 2, 43, false)
abbrev xM111 : xm_M := (yX7_looks, cX7_looks, 3, some .int, 7, 2, 42, false)
abbrev xM112 : xm_M := (yX7_unit, cX7_unit, 2, some .int, 7, 2, 42, false)
abbrev xM113 : xm_M := (yX7_loader, cX7_loader, 3, some .int, 7, 2, 45, false)
abbrev xM114 : xm_M := (yX7_isTypeOrNone, cX7_isTypeOrNone, 2, some .boolean, 7, 2, 42, false)
abbrev xM115 : xm_M := (yX7_isImport, cX7_isImport, 5, some .boolean, 7, 2, 42, false)
abbrev xM116 : xm_M := (yX7_importsRival, cX7_importsRival, 4, some .boolean, 7, 2, 46, false)
abbrev xM117 : xm_M := (yX7_usableMember, cX7_usableMember, 7, some .int, 7, 2, 50, false)
abbrev xM118 : xm_M := (yX7_isWidelyImported, cX7_isWidelyImported, 3, some .boolean, 7, 2, 47, false)
abbrev xM119 : xm_M := (yX7_providersFor, cX7_providersFor, 6, some .int, 7, 2, 45, false)
abbrev xM120 : xm_M := (yX7_providerAt, cX7_providerAt, 8, some .int, 7, 2, 42, false)
abbrev xM121 : xm_M := (yX8_pack, cX8_pack, 3, some .int, 8, 2, 43, false)
abbrev xM122 : xm_M := (yX8_type, cX8_type, 6, some .int, 8, 2, 43, false)
abbrev xM123 : xm_M := (yX8_member, cX8_member, 6, some .int, 8, 2, 43, false)
abbrev xM124 : xm_M := (yX8_read, cX8_read, 4, none, 8, 2, 51, false)
abbrev xM125 : xm_M := (yX8_requires, cX8_requires, 5, some .int, 8, 2, 51, false)
abbrev xM126 : xm_M := (yX8_exports, cX8_exports, 6, some .int, 8, 2, 43, false)
abbrev xM127 : xm_M := (yX8_seesType, cX8_seesType, 3, some .boolean, 8, 2, 44, false)
abbrev xM128 : xm_M := (yX8_looks, cX8_looks, 3, some .int, 8, 2, 43, false)
abbrev xM129 : xm_M := (yX8_graphOf, cX8_graphOf, 4, none, 8, 2, 51, false)
abbrev xM130 : xm_M := (yX8_unit, cX8_unit, 2, some .int, 8, 2, 43, false)
abbrev xM131 : xm_M := (yX8_byImports, cX8_byImports, 8, some .int, 8, 2, 51, false)
abbrev xM132 : xm_M := (yX8_loader, cX8_loader, 3, some .int, 8, 2, 43, false)
abbrev xM133 : xm_M := (yX7_type, cX7_type, 6, some .int, 7, 3, 63, false)
abbrev xM134 : xm_M := (yX7_member, cX7_member, 6, some .int, 7, 3, 63, false)
abbrev xM135 : xm_M := (yX7_requires, cX7_requires, 4, some .int, 7, 3, 69, false)
abbrev xM136 : xm_M := (yX7_reads, cX7_reads, 4, some .int, 7, 3, 70, false)
abbrev xM137 : xm_M := (yX7_isPackSeen, cX7_isPackSeen, 3, some .boolean, 7, 3, 70, false)
abbrev xM138 : xm_M := (yX7_leastSplitName, cX7_leastSplitName, 7, some .int, 7, 3, 70, false)
abbrev xM139 : xm_M := (yX7_isPackNameSeen, cX7_isPackNameSeen, 5, some .boolean, 7, 3, 70, false)
abbrev xM140 : xm_M := (yX7_hasUsableMember, cX7_hasUsableMember, 5, some .boolean, 7, 3, 76, false)
abbrev xM141 : xm_M := (yX7_memberByImport, cX7_memberByImport, 6, some .int, 7, 3, 76, false)
abbrev xM142 : xm_M := (yX7_graphOf, cX7_graphOf, 6, some .int, 7, 3, 70, false)
abbrev xM143 : xm_M := (yX7_foundPack, cX7_foundPack, 8, some .int, 7, 3, 70, false)
abbrev xM144 : xm_M := (yX8_reads, cX8_reads, 4, some .int, 8, 3, 74, false)
abbrev xM145 : xm_M := (yX8_sees, cX8_sees, 4, some .int, 8, 3, 74, false)
abbrev xM146 : xm_M := (yX8_splitOf, cX8_splitOf, 5, some .int, 8, 3, 74, false)
abbrev xM147 : xm_M := (yX8_uses, cX8_uses, 3, some .int, 8, 3, 74, false)
abbrev xM148 : xm_M := (yX8_provideRule, cX8_provideRule, 5, some .int, 8, 3, 74, false)
abbrev xM149 : xm_M := (yX8_graph, cX8_graph, 5, some .int, 8, 3, 74, false)
abbrev xM150 : xm_M := (yX8_has, cX8_has, 4, some .int, 8, 3, 74, false)
abbrev xM151 : xm_M := (yX8_provider, cX8_provider, 7, some .int, 8, 3, 74, false)
abbrev xM152 : xm_M := (yX8_importRule, cX8_importRule, 10, some .int, 8, 3, 74, false)
abbrev xM153 : xm_M := (yX8_byPacks, cX8_byPacks, 8, some .int, 8, 3, 74, false)
abbrev xM154 : xm_M := (yX8_memberOf, cX8_memberOf, 5, some .int, 8, 3, 78, false)
abbrev xM155 : xm_M := (yX8_finds, cX8_finds, 9, some .int, 8, 3, 74, false)
abbrev xM156 : xm_M := (yX7_split, cX7_split, 2, some .int, 7, 4, 96, false)
abbrev xM157 : xm_M := (yX7_graph, cX7_graph, 3, some .int, 7, 4, 95, false)
abbrev xM158 : xm_M := (yX7_has, cX7_has, 4, some .int, 7, 4, 95, false)
abbrev xM159 : xm_M := (yX7_provider, cX7_provider, 4, some .int, 7, 4, 95, false)
abbrev xM160 : xm_M := (yX7_finds, cX7_finds, 8, some .int, 7, 4, 97, false)
abbrev xM161 : xm_M := (yX7_isTypeSeen, cX7_isTypeSeen, 3, some .boolean, 7, 4, 92, false)
abbrev xM162 : xm_M := (yX7_anySplit, cX7_anySplit, 3, some .boolean, 7, 4, 96, false)
abbrev xM163 : xm_M := (yX7_importedMember, cX7_importedMember, 8, some .int, 7, 4, 101, false)
abbrev xM164 : xm_M := (yX8_split, cX8_split, 2, some .int, 8, 4, 98, false)
abbrev xM165 : xm_M := (yX8_provides, cX8_provides, 6, some .int, 8, 4, 98, false)
abbrev xM166 : xm_M := (yX8_imports, cX8_imports, 8, some .int, 8, 4, 103, false)
abbrev xM167 : xm_M := (yX8_meaning, cX8_meaning, 4, some .int, 8, 4, 101, false)
abbrev xM168 : xm_M := (yX8_layer, cX8_layer, 7, some .int, 8, 4, 98, false)
abbrev xM169 : xm_M := (yX7_uses, cX7_uses, 3, some .int, 7, 5, 114, false)
abbrev xM170 : xm_M := (yX7_sees, cX7_sees, 4, some .int, 7, 5, 114, false)
abbrev xM171 : xm_M := (yX7_memberOf, cX7_memberOf, 5, some .int, 7, 5, 128, false)
abbrev xM172 : xm_M := (yX7_layer, cX7_layer, 5, some .int, 7, 5, 118, false)
abbrev xM173 : xm_M := (yX7_importRule, cX7_importRule, 6, some .int, 7, 5, 114, false)
abbrev xM174 : xm_M := (yX7_widelyImportedType, cX7_widelyImportedType, 6, some .int, 7, 5, 114, false)
abbrev xM175 : xm_M := (yX7_provideRule, cX7_provideRule, 6, some .int, 7, 5, 114, false)
abbrev xM176 : xm_M := (yX7_provides, cX7_provides, 5, some .int, 7, 6, 139, false)
abbrev xM177 : xm_M := (yX7_imports, cX7_imports, 6, some .int, 7, 6, 139, false)
abbrev xM178 : xm_M := (yX7_meaning, cX7_meaning, 5, some .int, 7, 6, 139, false)
abbrev xM179 : xm_M := (yL_law, cL_law, 4, some .boolean, 12, 7, 164, false)
def xp_mi0 : List xm_M := [xM0, xM1, xM2, xM3, xM4, xM5, xM6, xM7, xM8, xM9, xM10, xM11, xM12, xM13, xM14, xM15]
def xp_mi1 : List xm_M := [xM16, xM17, xM18, xM19, xM20, xM21, xM22, xM23, xM24, xM25, xM26, xM27, xM28, xM29, xM30, xM31]
def xp_mi2 : List xm_M := [xM32, xM33, xM34, xM35, xM36, xM37, xM38, xM39, xM40, xM41, xM42, xM43, xM44, xM45, xM46, xM47]
def xp_mi3 : List xm_M := [xM48, xM49, xM50, xM51, xM52, xM53, xM54, xM55, xM56, xM57, xM58, xM59, xM60, xM61, xM62, xM63]
def xp_mi4 : List xm_M := [xM64, xM65, xM66, xM67, xM68, xM69, xM70, xM71, xM72, xM73, xM74, xM75, xM76, xM77, xM78, xM79]
def xp_mi5 : List xm_M := [xM80, xM81, xM82, xM83, xM84, xM85, xM86, xM87, xM88, xM89, xM90, xM91, xM92, xM93, xM94, xM95]
def xp_mi6 : List xm_M := [xM96, xM97, xM98, xM99, xM100, xM101, xM102, xM103, xM104, xM105, xM106, xM107, xM108, xM109, xM110, xM111]
def xp_mi7 : List xm_M := [xM112, xM113, xM114, xM115, xM116, xM117, xM118, xM119, xM120, xM121, xM122, xM123, xM124, xM125, xM126, xM127]
def xp_mi8 : List xm_M := [xM128, xM129, xM130, xM131, xM132, xM133, xM134, xM135, xM136, xM137, xM138, xM139, xM140, xM141, xM142, xM143]
def xp_mi9 : List xm_M := [xM144, xM145, xM146, xM147, xM148, xM149, xM150, xM151, xM152, xM153, xM154, xM155, xM156, xM157, xM158, xM159]
def xp_mi10 : List xm_M := [xM160, xM161, xM162, xM163, xM164, xM165, xM166, xM167, xM168, xM169, xM170, xM171, xM172, xM173, xM174, xM175]
def xp_mi11 : List xm_M := [xM176, xM177, xM178, xM179]
def xp_miT : List (List xm_M) := [xp_mi0, xp_mi1, xp_mi2, xp_mi3, xp_mi4, xp_mi5, xp_mi6, xp_mi7, xp_mi8, xp_mi9, xp_mi10, xp_mi11]
def xp_mi (j : Nat) : Option xm_M := match xp_miT[j / 16]? with
  | some l => l[j % 16]?
  | none => none
def xp_at {α : Type} (l : List (Nat × α)) (i : Nat) : Option α := match l with
  | [] => none
  | (k, v) :: r => if k = i then some v else xp_at r i
theorem xp_at_mem {α : Type} {l : List (Nat × α)} {i : Nat} {v : α} (h : xp_at l i = some v) : (i, v) ∈ l := by
  induction l with
  | nil => simp [xp_at] at h
  | cons q r ih =>
    obtain ⟨k, w⟩ := q
    unfold xp_at at h
    split at h
    · rename_i hk
      cases h; subst hk; exact List.mem_cons_self
    · exact List.mem_cons_of_mem _ (ih h)
def xp_flT : List (List (Nat × (Nat × Nat × Bool × FieldType))) := [
  [(9, (0, 1, true, .array .int)), (15, (0, 2, true, .array .int)), (18, (0, 0, false, .int))],
  [(9, (1, 1, true, .array .int)), (15, (1, 2, true, .array .int)), (18, (1, 3, true, .array .int)), (21, (1, 4, true, .array .boolean)), (25, (1, 5, true, .array .int)), (28, (1, 0, false, .int))],
  [(9, (2, 1, true, .array .int)), (15, (2, 2, true, .array .int)), (18, (2, 3, true, .array .int)), (21, (2, 4, true, .array .int)), (24, (2, 0, false, .int))],
  [(9, (3, 1, true, .array .int)), (15, (3, 2, true, .array .int)), (18, (3, 3, true, .array .int)), (21, (3, 4, true, .array .int)), (24, (3, 0, false, .int))],
  [(9, (4, 1, true, .array .long)), (15, (4, 2, false, .array .int)), (19, (4, 3, false, .array .int)), (26, (4, 0, false, .int))],
  [(9, (5, 1, true, .array .int)), (15, (5, 2, true, .array .int)), (18, (5, 3, true, .array .int)), (21, (5, 4, true, .array .int)), (24, (5, 5, true, .array .int)), (27, (5, 0, false, .int))],
  [(9, (6, 1, true, .array .int)), (15, (6, 2, true, .array .int)), (18, (6, 3, true, .array .int)), (21, (6, 4, true, .array .int)), (24, (6, 5, true, .array .int)), (27, (6, 0, false, .int))],
  [(10, (7, 0, true, .object "PackageModules$Modules")), (19, (7, 1, true, .object "PackageModules$Packs")), (26, (7, 2, true, .object "PackageModules$Types")), (33, (7, 3, true, .object "PackageModules$Members")), (40, (7, 4, true, .object "PackageModules$Units")), (47, (7, 5, true, .object "PackageModules$Services")), (54, (7, 6, true, .object "PackageModules$Layers")), (218, (2, 0, false, .int)), (222, (3, 0, false, .int)), (223, (5, 0, false, .int)), (224, (1, 0, false, .int)), (225, (6, 0, false, .int)), (226, (0, 0, false, .int)), (316, (4, 0, false, .int))],
  [(7, (8, 1, true, .array .int)), (13, (8, 3, true, .array .int)), (16, (8, 4, true, .array .int)), (19, (8, 5, true, .array .boolean)), (23, (8, 6, true, .array .boolean)), (26, (8, 8, true, .array .int)), (29, (8, 9, true, .array .int)), (32, (8, 10, true, .array .int)), (35, (8, 11, true, .array .int)), (38, (8, 12, true, .array .int)), (41, (8, 14, true, .array .int)), (44, (8, 15, true, .array .int)), (47, (8, 16, true, .array .int)), (50, (8, 17, true, .array .boolean)), (53, (8, 18, true, .array .int)), (56, (8, 20, true, .array .int)), (59, (8, 21, true, .array .int)), (62, (8, 22, true, .array .int)), (65, (8, 23, true, .array .int)), (68, (8, 24, true, .array .int)), (71, (8, 25, true, .array .boolean)), (74, (8, 27, true, .array .int)), (77, (8, 28, true, .array .int)), (80, (8, 29, true, .array .int)), (83, (8, 31, true, .array .int)), (86, (8, 32, true, .array .boolean)), (89, (8, 33, true, .array .boolean)), (92, (8, 0, false, .int)), (100, (8, 2, false, .int)), (103, (8, 7, false, .int)), (106, (8, 19, false, .int)), (109, (8, 13, false, .int)), (180, (8, 26, false, .int)), (215, (8, 30, false, .int))],
  [],
  [],
  [],
  []]
def xp_fl (oc idx : Nat) : Option (Nat × Nat × Bool × FieldType) := match xp_flT[oc]? with
  | some l => xp_at l idx
  | none => none
def xp_msT : List (List (Nat × (Nat × Nat))) := [
  [(22, (37, 2)), (30, (38, 2))],
  [],
  [(28, (37, 2)), (32, (38, 2))],
  [(28, (37, 2)), (32, (13, 1)), (36, (38, 2))],
  [(22, (38, 2)), (30, (102, 2))],
  [(31, (37, 2))],
  [(31, (37, 2))],
  [(66, (84, 1)), (76, (37, 2)), (97, (39, 1)), (142, (38, 2)), (145, (40, 1)), (190, (58, 1))],
  [(96, (41, 3)), (116, (96, 1)), (147, (42, 1))],
  [],
  [],
  [(304, (59, 2))],
  []]
def xp_ms (oc idx : Nat) : Option (Nat × Nat) := match xp_msT[oc]? with
  | some l => xp_at l idx
  | none => none
def xp_mvT : List (List (Nat × (Nat × Nat))) := [
  [(26, (0, 0))],
  [],
  [(35, (68, 2))],
  [(39, (73, 2))],
  [],
  [],
  [(35, (32, 1)), (39, (33, 2)), (43, (34, 2)), (46, (35, 2))],
  [(58, (7, 0)), (62, (66, 1)), (69, (10, 2)), (73, (9, 2)), (75, (70, 1)), (80, (114, 1)), (83, (20, 2)), (84, (19, 5)), (87, (78, 1)), (88, (3, 3)), (91, (2, 5)), (94, (103, 2)), (101, (67, 2)), (104, (8, 3)), (108, (21, 1)), (111, (71, 3)), (115, (11, 1)), (118, (72, 3)), (122, (161, 2)), (125, (14, 2)), (128, (15, 2)), (132, (175, 3)), (135, (107, 2)), (138, (104, 2)), (149, (137, 2)), (152, (74, 2)), (155, (138, 1)), (158, (29, 1)), (160, (80, 1)), (161, (115, 3)), (165, (32, 1)), (168, (173, 4)), (172, (81, 4)), (175, (88, 2)), (178, (30, 1)), (181, (174, 2)), (184, (163, 4)), (187, (142, 2)), (195, (120, 3)), (198, (61, 1)), (199, (0, 0)), (202, (1, 1)), (205, (162, 1)), (208, (62, 2)), (209, (63, 2)), (212, (143, 3)), (215, (26, 1)), (227, (22, 1)), (228, (106, 3)), (231, (85, 1)), (234, (12, 1)), (237, (86, 1)), (240, (139, 2)), (243, (116, 2)), (246, (140, 3)), (249, (82, 4)), (253, (23, 1)), (254, (117, 4)), (257, (87, 3)), (260, (4, 1)), (263, (5, 1)), (264, (25, 1)), (267, (31, 1)), (270, (33, 2)), (273, (34, 2)), (276, (118, 2)), (279, (141, 5)), (282, (35, 2)), (285, (89, 2)), (288, (90, 2)), (291, (16, 2)), (294, (6, 1)), (297, (28, 2)), (300, (24, 1)), (303, (27, 1)), (306, (105, 1)), (309, (119, 1)), (312, (76, 1)), (317, (17, 1)), (320, (18, 1)), (323, (73, 2))],
  [(112, (92, 1)), (119, (44, 2)), (123, (93, 1)), (126, (94, 1)), (129, (45, 2)), (132, (46, 3)), (136, (51, 4)), (140, (50, 0)), (143, (97, 3)), (151, (52, 2)), (155, (98, 2)), (158, (47, 1)), (161, (48, 1)), (164, (124, 2)), (168, (127, 2)), (171, (146, 1)), (174, (49, 2)), (177, (148, 3)), (183, (54, 1)), (186, (53, 2)), (189, (99, 0)), (193, (129, 2)), (196, (55, 1)), (199, (100, 4)), (203, (95, 1)), (206, (152, 4)), (209, (153, 2)), (212, (131, 4)), (218, (101, 1)), (221, (56, 2))],
  [],
  [],
  [],
  [(13, (83, 0)), (17, (43, 0)), (18, (109, 2)), (22, (121, 2)), (23, (133, 5)), (27, (122, 5)), (28, (134, 5)), (32, (123, 5)), (33, (135, 3)), (37, (125, 3)), (38, (110, 3)), (42, (126, 3)), (43, (169, 2)), (46, (147, 2)), (47, (176, 3)), (50, (165, 3)), (51, (136, 3)), (54, (144, 3)), (55, (170, 3)), (58, (145, 3)), (59, (111, 2)), (62, (128, 2)), (63, (156, 1)), (67, (164, 1)), (68, (112, 1)), (71, (130, 1)), (72, (177, 4)), (76, (166, 4)), (77, (178, 2)), (80, (167, 2)), (81, (171, 3)), (84, (154, 3)), (85, (157, 2)), (89, (149, 2)), (90, (158, 3)), (94, (150, 3)), (95, (159, 3)), (98, (151, 3)), (99, (172, 3)), (102, (168, 3)), (103, (113, 2)), (106, (132, 2)), (107, (160, 4)), (110, (155, 4)), (111, (36, 1)), (114, (57, 1))]]
def xp_mv (oc idx : Nat) : Option (Nat × Nat) := match xp_mvT[oc]? with
  | some l => xp_at l idx
  | none => none
def xp_mpT : List (List (Nat × (Nat × Nat))) := [
  [],
  [],
  [],
  [],
  [],
  [],
  [],
  [(9, (65, 0)), (18, (69, 0)), (25, (77, 0)), (32, (64, 0)), (39, (79, 0)), (46, (75, 0)), (53, (60, 0))],
  [],
  [],
  [],
  [],
  [(9, (108, 0)), (12, (91, 0))]]
def xp_mp (oc idx : Nat) : Option (Nat × Nat) := match xp_mpT[oc]? with
  | some l => xp_at l idx
  | none => none
def xp_nwT : List (List (Nat × (Nat × List Value))) := [
  [],
  [],
  [],
  [],
  [],
  [],
  [],
  [(7, (2, [.int 0, .null, .null, .null, .null])), (16, (3, [.int 0, .null, .null, .null, .null])), (23, (5, [.int 0, .null, .null, .null, .null, .null])), (30, (1, [.int 0, .null, .null, .null, .null, .null])), (37, (6, [.int 0, .null, .null, .null, .null, .null])), (44, (4, [.int 0, .null, .null, .null])), (51, (0, [.int 0, .null, .null]))],
  [],
  [],
  [],
  [],
  [(7, (7, [.null, .null, .null, .null, .null, .null, .null])), (10, (8, [.int 0, .null, .int 0, .null, .null, .null, .null, .int 0, .null, .null, .null, .null, .null, .int 0, .null, .null, .null, .null, .null, .int 0, .null, .null, .null, .null, .null, .null, .int 0, .null, .null, .null, .int 0, .null, .null, .null]))]]
def xp_nw (oc idx : Nat) : Option (Nat × List Value) := match xp_nwT[oc]? with
  | some l => xp_at l idx
  | none => none
def xp_cnT : List (List (Nat × (Int32))) := [
  [],
  [],
  [],
  [],
  [],
  [],
  [],
  [],
  [],
  [(265, 1431655765), (266, 858993459), (267, 252645135)],
  [],
  [],
  []]
def xp_cn (oc idx : Nat) : Option (Int32) := match xp_cnT[oc]? with
  | some l => xp_at l idx
  | none => none
def xp_oiL : List (Nat × Nat) := [(0, 3), (1, 3), (2, 3), (3, 3), (4, 3), (5, 3), (6, 3), (7, 1), (8, 1)]
def xp_oi (oc idx : Nat) : Bool := decide ((oc, idx) ∈ xp_oiL)
def xp_acL : List (Nat × Nat) := [(11, 150)]
def xp_ac (oc idx : Nat) : Bool := decide ((oc, idx) ∈ xp_acL)
end
section
/-! THE SMALL MACHINE. The same instructions over a heap of entries: a state is (pc, locals, stack, heap), a run is a function of fuel, 'xm_out' its answer.
The tables that it reads (xp_mi, xp_fl, xp_ml, xp_nw, xp_cn, xp_cj, xp_oi, xp_ac) stand in the names' part; that the machine of the Statement does the same is part 11. -/
abbrev xm_E : Type := (FieldType × vp_A) ⊕ ((Nat × List Value) ⊕ (Nat × (Nat → Int32)))
abbrev xm_H : Type := (Nat → Option xm_E) × Nat × Nat
abbrev xm_L : Type := List (Option Value)
abbrev xm_S : Type := Nat × xm_L × List Value × xm_H
abbrev xm_R : Type := Option Value × xm_H
abbrev xm_T : Type := xm_S ⊕ (xm_R ⊕ ((Nat × List Value) × xm_S))
def xm_set (g : Nat → Option xm_E) (a : Nat) (e : xm_E) : Nat → Option xm_E := fun q => if q = a then some e else g q
theorem xm_set_self (g : Nat → Option xm_E) (a : Nat) (e : xm_E) : xm_set g a e a = some e := if_pos rfl
theorem xm_set_ne {g : Nat → Option xm_E} {a : Nat} {e : xm_E} {q : Nat} (h : q ≠ a) : xm_set g a e q = g q := if_neg h
/-- a heap with one entry changed -/
def xm_up (hp : xm_H) (a : Nat) (e : xm_E) : xm_H := (xm_set hp.1 a e, hp.2)
/-- a heap with one entry more, of so many slots -/
def xm_add (hp : xm_H) (e : xm_E) (n : Nat) : xm_H := (xm_set hp.1 hp.2.1 e, hp.2.1 + 1, hp.2.2 + n)
def xm_arr (hp : xm_H) (a : Nat) : Option (FieldType × vp_A) := match hp.1 a with
  | some (.inl x) => some x
  | _ => none
def xm_obj (hp : xm_H) (a : Nat) : Option (Nat × List Value) := match hp.1 a with
  | some (.inr (.inl x)) => some x
  | _ => none
def xm_ok (n k : Nat) (x : xm_S) : Option xm_T := if n = k then some (.inl x) else none
def xm_tgt (pc : Nat) (off : Int) : Nat := ((pc : Int) + off).toNat
def xm_jmp (n : Nat) (pc : Nat) (off : Int) (c : Bool) (lo : xm_L) (sk : List Value) (hp : xm_H) : Option xm_T :=
  if n = 3 then (if c then (if 0 ≤ (pc : Int) + off then some (.inl (xm_tgt pc off, lo, sk, hp)) else none) else some (.inl (pc + 3, lo, sk, hp))) else none
/-- locals -/
def xm_kill (lo : xm_L) (i : Nat) : xm_L := match i with
  | 0 => lo
  | j + 1 => match lo[j]? with
    | some (some v) => if v.category = 2 then lo.set j none else lo
    | _ => lo
def xm_st1 (lo : xm_L) (i : Nat) (v : Value) : xm_L := (xm_kill lo i).set i (some v)
def xm_st2 (lo : xm_L) (i : Nat) (v : Value) : xm_L := ((xm_kill lo i).set i (some v)).set (i + 1) none
def xm_lay : List Value → xm_L
  | [] => []
  | v :: vs => if v.category = 2 then some v :: none :: xm_lay vs else some v :: xm_lay vs
def xm_ent (maxL : Nat) (as : List Value) : xm_L := xm_lay as ++ List.replicate (maxL - (xm_lay as).length) none
def xm_ld (n k : Nat) (ty : Value → Bool) (i : Nat) (pc : Nat) (lo : xm_L) (sk : List Value) (hp : xm_H) : Option xm_T := match lo[i]? with
  | some (some v) => if ty v then xm_ok n k (pc + k, lo, v :: sk, hp) else none
  | _ => none
def xm_isI : Value → Bool
  | .int _ => true
  | _ => false
def xm_isJ : Value → Bool
  | .long _ => true
  | _ => false
def xm_isA : Value → Bool
  | .ref _ => true
  | .null => true
  | _ => false
def xm_sto (n k : Nat) (ty : Value → Bool) (i : Nat) (pc : Nat) (lo : xm_L) (sk : List Value) (hp : xm_H) : Option xm_T := match sk with
  | v :: sk => if ty v && decide (i < lo.length) then xm_ok n k (pc + k, xm_st1 lo i v, sk, hp) else none
  | _ => none
def xm_stJ (n k : Nat) (i : Nat) (pc : Nat) (lo : xm_L) (sk : List Value) (hp : xm_H) : Option xm_T := match sk with
  | .long v :: sk => if i + 1 < lo.length then xm_ok n k (pc + k, xm_st2 lo i (.long v), sk, hp) else none
  | _ => none
def xm_i2 (n : Nat) (f : Int32 → Int32 → Int32) (pc : Nat) (lo : xm_L) (sk : List Value) (hp : xm_H) : Option xm_T := match sk with
  | .int y :: .int x :: sk => xm_ok n 1 (pc + 1, lo, .int (f x y) :: sk, hp)
  | _ => none
def xm_i1 (n : Nat) (f : Int32 → Int32) (pc : Nat) (lo : xm_L) (sk : List Value) (hp : xm_H) : Option xm_T := match sk with
  | .int x :: sk => xm_ok n 1 (pc + 1, lo, .int (f x) :: sk, hp)
  | _ => none
def xm_d2 (n : Nat) (f : Int32 → Int32 → Int32) (pc : Nat) (lo : xm_L) (sk : List Value) (hp : xm_H) : Option xm_T := match sk with
  | .int y :: .int x :: sk => if y = 0 then none else xm_ok n 1 (pc + 1, lo, .int (f x y) :: sk, hp)
  | _ => none
def xm_j2 (n : Nat) (f : Int64 → Int64 → Int64) (pc : Nat) (lo : xm_L) (sk : List Value) (hp : xm_H) : Option xm_T := match sk with
  | .long y :: .long x :: sk => xm_ok n 1 (pc + 1, lo, .long (f x y) :: sk, hp)
  | _ => none
def xm_jsh (n : Nat) (f : Int64 → Int32 → Int64) (pc : Nat) (lo : xm_L) (sk : List Value) (hp : xm_H) : Option xm_T := match sk with
  | .int y :: .long x :: sk => xm_ok n 1 (pc + 1, lo, .long (f x y) :: sk, hp)
  | _ => none
/-- arrays -/
def xm_out_of (i : Int32) (N : Nat) : Bool := decide (i < 0) || decide (N ≤ i.toNatClampNeg)
def xm_iald (n pc : Nat) (lo : xm_L) (sk : List Value) (hp : xm_H) : Option xm_T := match sk with
  | .int i :: .ref a :: sk => match hp.1 a with
    | some (.inl (.int, N, .inl f)) => if xm_out_of i N then none else xm_ok n 1 (pc + 1, lo, .int (f i.toNatClampNeg) :: sk, hp)
    | some (.inr (.inr (N, f))) => if xm_out_of i N then none else xm_ok n 1 (pc + 1, lo, .int (f i.toNatClampNeg) :: sk, hp)
    | _ => none
  | _ => none
def xm_zald (n pc : Nat) (lo : xm_L) (sk : List Value) (hp : xm_H) : Option xm_T := match sk with
  | .int i :: .ref a :: sk => match hp.1 a with
    | some (.inl (.boolean, N, .inl f)) => if xm_out_of i N then none else xm_ok n 1 (pc + 1, lo, .int (f i.toNatClampNeg) :: sk, hp)
    | _ => none
  | _ => none
def xm_lald (n pc : Nat) (lo : xm_L) (sk : List Value) (hp : xm_H) : Option xm_T := match sk with
  | .int i :: .ref a :: sk => match hp.1 a with
    | some (.inl (.long, N, .inr (.inl f))) => if xm_out_of i N then none else xm_ok n 1 (pc + 1, lo, .long (f i.toNatClampNeg) :: sk, hp)
    | _ => none
  | _ => none
def xm_iast (n pc : Nat) (lo : xm_L) (sk : List Value) (hp : xm_H) : Option xm_T := match sk with
  | .int x :: .int i :: .ref a :: sk => match hp.1 a with
    | some (.inl (.int, N, .inl f)) => if xm_out_of i N then none else xm_ok n 1 (pc + 1, lo, sk, xm_up hp a (.inl (.int, N, .inl (upd f i.toNatClampNeg x))))
    | _ => none
  | _ => none
def xm_zast (n pc : Nat) (lo : xm_L) (sk : List Value) (hp : xm_H) : Option xm_T := match sk with
  | .int x :: .int i :: .ref a :: sk => match hp.1 a with
    | some (.inl (.boolean, N, .inl f)) => if xm_out_of i N then none else xm_ok n 1 (pc + 1, lo, sk, xm_up hp a (.inl (.boolean, N, .inl (upd f i.toNatClampNeg (vp_nar .boolean x)))))
    | _ => none
  | _ => none
def xm_last (n pc : Nat) (lo : xm_L) (sk : List Value) (hp : xm_H) : Option xm_T := match sk with
  | .long x :: .int i :: .ref a :: sk => match hp.1 a with
    | some (.inl (.long, N, .inr (.inl f))) => if xm_out_of i N then none else xm_ok n 1 (pc + 1, lo, sk, xm_up hp a (.inl (.long, N, .inr (.inl (vp_updL f i.toNatClampNeg x)))))
    | _ => none
  | _ => none
def xm_alen (n pc : Nat) (lo : xm_L) (sk : List Value) (hp : xm_H) : Option xm_T := match sk with
  | .ref a :: sk => match hp.1 a with
    | some (.inl (_, N, _)) => xm_ok n 1 (pc + 1, lo, .int (Int32.ofNat N) :: sk, hp)
    | some (.inr (.inr (N, _))) => xm_ok n 1 (pc + 1, lo, .int (Int32.ofNat N) :: sk, hp)
    | _ => none
  | _ => none
def xm_blank (t : ArrayType) (N : Nat) : Option xm_E := match t with
  | .int => some (.inl (.int, N, .inl (fun _ => 0)))
  | .boolean => some (.inl (.boolean, N, .inl (fun _ => 0)))
  | .long => some (.inl (.long, N, .inr (.inl (fun _ => 0))))
  | _ => none
def xm_newa (n pc : Nat) (t : ArrayType) (lo : xm_L) (sk : List Value) (hp : xm_H) : Option xm_T := match sk with
  | .int k :: sk => if k < 0 then none else if k.toNatClampNeg * 8 ≤ 536870912 then (match xm_blank t k.toNatClampNeg with
    | some e => xm_ok n 2 (pc + 2, lo, .ref hp.2.1 :: sk, xm_add hp e k.toNatClampNeg)
    | none => none) else none
  | _ => none
/-- fields, objects -/
def xm_get (n pc oc idx : Nat) (lo : xm_L) (sk : List Value) (hp : xm_H) : Option xm_T := match sk with
  | .ref a :: sk => match xp_fl oc idx, xm_obj hp a with
    | some (ci, k, _, _), some (cj, fs) => if cj = ci then (match fs[k]? with
      | some v => xm_ok n 3 (pc + 3, lo, v :: sk, hp)
      | none => none) else none
    | _, _ => none
  | _ => none
def xm_put (n pc oc idx : Nat) (ini : Bool) (lo : xm_L) (sk : List Value) (hp : xm_H) : Option xm_T := match sk with
  | v :: .ref a :: sk => match xp_fl oc idx, xm_obj hp a with
    | some (ci, k, fin, ty), some (cj, fs) => if cj = ci ∧ k < fs.length ∧ (fin = false ∨ (ini = true ∧ oc = ci)) ∧ narrow ty v = v ∧ fits ty v = true then xm_ok n 3 (pc + 3, lo, sk, xm_up hp a (.inr (.inl (ci, fs.set k v)))) else none
    | _, _ => none
  | _ => none
def xm_new (n pc oc idx : Nat) (lo : xm_L) (sk : List Value) (hp : xm_H) : Option xm_T := match xp_nw oc idx with
  | some (ci, fs) => xm_ok n 3 (pc + 3, lo, .ref hp.2.1 :: sk, xm_add hp (.inr (.inl (ci, fs))) fs.length)
  | none => none
/-- calls -/
def xm_low (sk : List Value) : Bool := decide ((sk.map fun v => v.category).sum ≤ 8)
def xm_fit (M N : xm_M) : Bool := decide (N.2.2.2.2.2.1 + 1 ≤ M.2.2.2.2.2.1) && decide (8 + (N.2.2.1 + 11) + N.2.2.2.2.2.2.1 ≤ M.2.2.2.2.2.2.1)
def xm_calS (n pc : Nat) (M : xm_M) (idx : Nat) (lo : xm_L) (sk : List Value) (hp : xm_H) : Option xm_T := match xp_ms M.2.2.2.2.1 idx with
  | some (j, k) => match xp_mi j with
    | some N => if n = 3 ∧ k ≤ sk.length ∧ xm_low (sk.drop k) = true ∧ xm_fit M N = true then some (.inr (.inr ((j, (sk.take k).reverse), (pc + 3, lo, sk.drop k, hp)))) else none
    | none => none
  | none => none
def xm_calV (n pc : Nat) (M : xm_M) (idx : Nat) (lo : xm_L) (sk : List Value) (hp : xm_H) : Option xm_T := match xp_mv M.2.2.2.2.1 idx with
  | some (j, k) => match xp_mi j, sk.drop k with
    | some N, .ref b :: rest => match xm_obj hp b with
      | some (ci, _) => if n = 3 ∧ k ≤ sk.length ∧ xm_low rest = true ∧ xm_fit M N = true ∧ ci = N.2.2.2.2.1 then some (.inr (.inr ((j, .ref b :: (sk.take k).reverse), (pc + 3, lo, rest, hp)))) else none
      | none => none
    | _, _ => none
  | none => none
def xm_calP (n pc : Nat) (M : xm_M) (idx : Nat) (lo : xm_L) (sk : List Value) (hp : xm_H) : Option xm_T := if xp_oi M.2.2.2.2.1 idx then (match sk with
    | .ref _ :: rest => if xm_low rest && (decide (1 ≤ M.2.2.2.2.2.1) && decide (20 ≤ M.2.2.2.2.2.2.1)) then xm_ok n 3 (pc + 3, lo, rest, hp) else none
    | _ => none) else match xp_mp M.2.2.2.2.1 idx with
  | some (j, k) => match xp_mi j, sk.drop k with
    | some N, .ref b :: rest => if n = 3 ∧ k ≤ sk.length ∧ xm_low rest = true ∧ xm_fit M N = true then some (.inr (.inr ((j, .ref b :: (sk.take k).reverse), (pc + 3, lo, rest, hp)))) else none
    | _, _ => none
  | none => none
def xm_copy (n pc : Nat) (M : xm_M) (lo : xm_L) (sk : List Value) (hp : xm_H) : Option xm_T := match sk with
  | .int z :: .int dp :: .ref a :: .int sp :: .ref a0 :: rest => match hp.1 a0, hp.1 a with
    | some (.inl (.int, n0, .inl f)), some (.inl (.int, n1, .inl g)) => if a0 ≠ a ∧ ¬ sp < 0 ∧ ¬ dp < 0 ∧ ¬ z < 0 ∧ sp.toNatClampNeg + z.toNatClampNeg ≤ n0 ∧ dp.toNatClampNeg + z.toNatClampNeg ≤ n1 ∧ xm_low rest = true ∧ 1 ≤ M.2.2.2.2.2.1 ∧ 26 ≤ M.2.2.2.2.2.2.1 then xm_ok n 3 (pc + 3, lo, rest, xm_up hp a (.inl (.int, n1, .inl (va_cpy f g sp.toNatClampNeg dp.toNatClampNeg z.toNatClampNeg)))) else none
    | _, _ => none
  | _ => none
def xm_ret (rt : Option FieldType) (i : Instr) (sk : List Value) : Option (Option Value) := match i with
  | .ireturn => match sk, rt with
    | [.int v], some .int => some (some (.int v))
    | [.int v], some .boolean => if narrow .boolean (.int v) = .int v then some (some (.int v)) else none
    | _, _ => none
  | .lreturn => match sk, rt with
    | [.long v], some .long => some (some (.long v))
    | _, _ => none
  | .areturn => match sk, rt with
    | [.ref a], some (.object _) => some (some (.ref a))
    | [.ref a], some (.array _) => some (some (.ref a))
    | [.null], some (.object _) => some (some .null)
    | [.null], some (.array _) => some (some .null)
    | _, _ => none
  | .return_ => match sk, rt with
    | [], none => some none
    | _, _ => none
  | _ => none
def xm_end (n : Nat) (rt : Option FieldType) (i : Instr) (sk : List Value) (hp : xm_H) : Option xm_T := match xm_ret rt i sk with
  | some r => if n = 1 then some (.inr (.inl (r, hp))) else none
  | none => none
/-- branches -/
def xm_ci (c : ClassFile.Cond) (x y : Int32) : Bool := match c with
  | .eq => decide (x = y)
  | .ne => !decide (x = y)
  | .lt => decide (x < y)
  | .ge => decide (y ≤ x)
  | .gt => decide (y < x)
  | .le => decide (x ≤ y)
def xm_icmp (n pc : Nat) (c : ClassFile.Cond) (off : Int) (lo : xm_L) (sk : List Value) (hp : xm_H) : Option xm_T := match sk with
  | .int y :: .int x :: sk => xm_jmp n pc off (xm_ci c x y) lo sk hp
  | _ => none
def xm_if (n pc : Nat) (c : ClassFile.Cond) (off : Int) (lo : xm_L) (sk : List Value) (hp : xm_H) : Option xm_T := match sk with
  | .int x :: sk => xm_jmp n pc off (xm_ci c x 0) lo sk hp
  | _ => none
def xm_sw (pc : Nat) (x : Int32) (d l h : Int) (os : Array Int) : Option Nat := if x.toInt < l ∨ h < x.toInt then (if 0 ≤ (pc : Int) + d then some (xm_tgt pc d) else none) else match os[(x.toInt - l).toNat]? with
  | some o => if 0 ≤ (pc : Int) + o then some (xm_tgt pc o) else none
  | none => none
def xm_tsw (pc : Nat) (d l h : Int) (os : Array Int) (lo : xm_L) (sk : List Value) (hp : xm_H) : Option xm_T := match sk with
  | .int x :: sk => match xm_sw pc x d l h os with
    | some t => some (.inl (t, lo, sk, hp))
    | none => none
  | _ => none
def xm_inc (n pc i : Nat) (k : Int) (lo : xm_L) (sk : List Value) (hp : xm_H) : Option xm_T := match lo[i]? with
  | some (some (.int x)) => xm_ok n 3 (pc + 3, xm_st1 lo i (.int (x + Int32.ofInt k)), sk, hp)
  | _ => none
def xm_c1 (v : Value) : Bool := decide (v.category = 1)
def xm_c2 (v : Value) : Bool := decide (v.category = 2)
def xm_dup (n pc : Nat) (lo : xm_L) (sk : List Value) (hp : xm_H) : Option xm_T := match sk with
  | v :: sk => if xm_c1 v then xm_ok n 1 (pc + 1, lo, v :: v :: sk, hp) else none
  | _ => none
def xm_dx1 (n pc : Nat) (lo : xm_L) (sk : List Value) (hp : xm_H) : Option xm_T := match sk with
  | v :: w :: sk => if xm_c1 v && xm_c1 w then xm_ok n 1 (pc + 1, lo, v :: w :: v :: sk, hp) else none
  | _ => none
def xm_dx2 (n pc : Nat) (lo : xm_L) (sk : List Value) (hp : xm_H) : Option xm_T := match sk with
  | v :: w :: u :: sk => if xm_c1 v && xm_c1 w && xm_c1 u then xm_ok n 1 (pc + 1, lo, v :: w :: u :: v :: sk, hp) else none
  | _ => none
def xm_d22 (n pc : Nat) (lo : xm_L) (sk : List Value) (hp : xm_H) : Option xm_T := match sk with
  | v :: w :: sk => if xm_c1 v && xm_c1 w then xm_ok n 1 (pc + 1, lo, v :: w :: v :: w :: sk, hp) else none
  | _ => none
def xm_pop (n pc : Nat) (lo : xm_L) (sk : List Value) (hp : xm_H) : Option xm_T := match sk with
  | v :: sk => if xm_c1 v then xm_ok n 1 (pc + 1, lo, sk, hp) else none
  | _ => none
/-- one instruction -/
def xm_ex (M : xm_M) (pc : Nat) (lo : xm_L) (sk : List Value) (hp : xm_H) (n : Nat) (i : Instr) : Option xm_T := match i with
  | .iconst k => xm_ok n 1 (pc + 1, lo, .int (Int32.ofInt k) :: sk, hp)
  | .bipush k => xm_ok n 2 (pc + 2, lo, .int (Int8.ofInt k).toInt32 :: sk, hp)
  | .sipush k => xm_ok n 3 (pc + 3, lo, .int (Int16.ofInt k).toInt32 :: sk, hp)
  | .lconst k => xm_ok n 1 (pc + 1, lo, .long (Int64.ofNat (k : Nat)) :: sk, hp)
  | .aconst_null => xm_ok n 1 (pc + 1, lo, .null :: sk, hp)
  | .ldc_w k => match xp_cn M.2.2.2.2.1 k with
    | some v => xm_ok n 3 (pc + 3, lo, .int v :: sk, hp)
    | none => none
  | .iload k => xm_ld n 2 xm_isI k pc lo sk hp
  | .iload_n k => xm_ld n 1 xm_isI k pc lo sk hp
  | .lload k => xm_ld n 2 xm_isJ k pc lo sk hp
  | .lload_n k => xm_ld n 1 xm_isJ k pc lo sk hp
  | .aload k => xm_ld n 2 xm_isA k pc lo sk hp
  | .aload_n k => xm_ld n 1 xm_isA k pc lo sk hp
  | .istore k => xm_sto n 2 xm_isI k pc lo sk hp
  | .istore_n k => xm_sto n 1 xm_isI k pc lo sk hp
  | .astore k => xm_sto n 2 xm_isA k pc lo sk hp
  | .astore_n k => xm_sto n 1 xm_isA k pc lo sk hp
  | .lstore k => xm_stJ n 2 k pc lo sk hp
  | .lstore_n k => xm_stJ n 1 k pc lo sk hp
  | .iinc k d => xm_inc n pc k d lo sk hp
  | .iadd => xm_i2 n (fun x y => x + y) pc lo sk hp
  | .isub => xm_i2 n (fun x y => x - y) pc lo sk hp
  | .imul => xm_i2 n (fun x y => x * y) pc lo sk hp
  | .iand => xm_i2 n (fun x y => x &&& y) pc lo sk hp
  | .ior => xm_i2 n (fun x y => x ||| y) pc lo sk hp
  | .ixor => xm_i2 n (fun x y => x ^^^ y) pc lo sk hp
  | .ishl => xm_i2 n (fun x y => x <<< (y &&& 31)) pc lo sk hp
  | .ishr => xm_i2 n (fun x y => x >>> (y &&& 31)) pc lo sk hp
  | .iushr => xm_i2 n (fun x y => (x.toUInt32 >>> (y.toUInt32 &&& Int32.toUInt32 31)).toInt32) pc lo sk hp
  | .ineg => xm_i1 n (fun x => -x) pc lo sk hp
  | .idiv => xm_d2 n (fun x y => x / y) pc lo sk hp
  | .irem => xm_d2 n (fun x y => x - x / y * y) pc lo sk hp
  | .ladd => xm_j2 n (fun x y => x + y) pc lo sk hp
  | .lsub => xm_j2 n (fun x y => x - y) pc lo sk hp
  | .land => xm_j2 n (fun x y => x &&& y) pc lo sk hp
  | .lor => xm_j2 n (fun x y => x ||| y) pc lo sk hp
  | .lxor => xm_j2 n (fun x y => x ^^^ y) pc lo sk hp
  | .lshl => xm_jsh n (fun x y => x <<< (y.toInt64 &&& 63)) pc lo sk hp
  | .lshr => xm_jsh n (fun x y => x >>> (y.toInt64 &&& 63)) pc lo sk hp
  | .lcmp => match sk with
    | .long y :: .long x :: sk => xm_ok n 1 (pc + 1, lo, .int (lg_cmp x y) :: sk, hp)
    | _ => none
  | .i2l => match sk with
    | .int x :: sk => xm_ok n 1 (pc + 1, lo, .long x.toInt64 :: sk, hp)
    | _ => none
  | .l2i => match sk with
    | .long x :: sk => xm_ok n 1 (pc + 1, lo, .int x.toInt32 :: sk, hp)
    | _ => none
  | .dup => xm_dup n pc lo sk hp
  | .dup_x1 => xm_dx1 n pc lo sk hp
  | .dup_x2 => xm_dx2 n pc lo sk hp
  | .dup2 => xm_d22 n pc lo sk hp
  | .pop => xm_pop n pc lo sk hp
  | .goto o => xm_jmp n pc o true lo sk hp
  | .if_icmp c o => xm_icmp n pc c o lo sk hp
  | .ifCond c o => xm_if n pc c o lo sk hp
  | .tableswitch d l h os => xm_tsw pc d l h os lo sk hp
  | .iaload => xm_iald n pc lo sk hp
  | .baload => xm_zald n pc lo sk hp
  | .laload => xm_lald n pc lo sk hp
  | .iastore => xm_iast n pc lo sk hp
  | .bastore => xm_zast n pc lo sk hp
  | .lastore => xm_last n pc lo sk hp
  | .arraylength => xm_alen n pc lo sk hp
  | .newarray t => xm_newa n pc t lo sk hp
  | .getfield k => xm_get n pc M.2.2.2.2.1 k lo sk hp
  | .putfield k => xm_put n pc M.2.2.2.2.1 k M.2.2.2.2.2.2.2 lo sk hp
  | .new k => xm_new n pc M.2.2.2.2.1 k lo sk hp
  | .invokestatic k => if xp_ac M.2.2.2.2.1 k then xm_copy n pc M lo sk hp else xm_calS n pc M k lo sk hp
  | .invokevirtual k => xm_calV n pc M k lo sk hp
  | .invokespecial k => xm_calP n pc M k lo sk hp
  | .ireturn => xm_end n M.2.2.2.1 .ireturn sk hp
  | .lreturn => xm_end n M.2.2.2.1 .lreturn sk hp
  | .areturn => xm_end n M.2.2.2.1 .areturn sk hp
  | .return_ => xm_end n M.2.2.2.1 .return_ sk hp
  | _ => none
def xm_step (j : Nat) (x : xm_S) : Option xm_T := match xp_mi j with
  | some M => match decode M.2.1 x.1 with
    | .ok (i, n) => xm_ex M x.1 x.2.1 x.2.2.1 x.2.2.2 n i
    | _ => none
  | none => none
def xm_start (j : Nat) (as : List Value) (hp : xm_H) : Option xm_S := match xp_mi j with
  | some M => if (xm_lay as).length ≤ M.2.2.1 then some (0, xm_ent M.2.2.1 as, [], hp) else none
  | none => none
def xm_run : Nat → Nat → xm_S → Option xm_R
  | 0, _, _ => none
  | n + 1, j, x => match xm_step j x with
    | some (.inl y) => xm_run n j y
    | some (.inr (.inl r)) => some r
    | some (.inr (.inr ((j', as), y))) => match xm_start j' as y.2.2.2 with
      | some z => match xm_run n j' z with
        | some r => xm_run n j (y.1, y.2.1, r.1.toList ++ y.2.2.1, r.2)
        | none => none
      | none => none
    | none => none
theorem xm_run_up : ∀ (n j : Nat) (x : xm_S) (r : xm_R), xm_run n j x = some r → xm_run (n + 1) j x = some r
  | 0, _, _, _, h => by simp [xm_run] at h
  | n + 1, j, x, r, h => by
    rw [xm_run] at h ⊢
    split at h
    · rename_i y hy
      try rw [hy]
      exact xm_run_up n j y r h
    · rename_i r' hy
      try rw [hy]
      exact h
    · rename_i j' as y hy
      try rw [hy]
      split at h
      · rename_i z hz
        try rw [hz]
        split at h
        · rename_i r' hr
          simp only [xm_run_up n j' z r' hr]
          exact xm_run_up n j _ r h
        · cases h
      · cases h
    · cases h
theorem xm_run_le {n m j : Nat} {x : xm_S} {r : xm_R} (hl : n ≤ m) (h : xm_run n j x = some r) : xm_run m j x = some r := by
  induction hl with
  | refl => exact h
  | step _ ih => exact xm_run_up _ _ _ _ ih
theorem xm_run_det {n m j : Nat} {x : xm_S} {r r' : xm_R} (h : xm_run n j x = some r) (h' : xm_run m j x = some r') : r = r' := by
  have a := xm_run_le (Nat.le_max_left n m) h
  have b := xm_run_le (Nat.le_max_right n m) h'
  exact Option.some.inj (a.symm.trans b)
/-- the answer of a run, however long -/
noncomputable def xm_out (j : Nat) (x : xm_S) : Option xm_R := @dite _ (∃ n r, xm_run n j x = some r) (Classical.propDecidable _) (fun h => some (Classical.choose (Classical.choose_spec h))) (fun _ => none)
theorem xm_out_iff {j : Nat} {x : xm_S} {r : xm_R} : xm_out j x = some r ↔ ∃ n, xm_run n j x = some r := by
  unfold xm_out
  constructor
  · intro h
    split at h
    · rename_i hh
      exact ⟨_, (Option.some.inj h) ▸ Classical.choose_spec (Classical.choose_spec hh)⟩
    · cases h
  · rintro ⟨n, hn⟩
    have hh : ∃ n r, xm_run n j x = some r := ⟨n, r, hn⟩
    rw [dif_pos hh]
    exact congrArg some (xm_run_det (Classical.choose_spec (Classical.choose_spec hh)) hn)
theorem xm_ext {a b : Option xm_R} (h : ∀ r, a = some r ↔ b = some r) : a = b := by
  cases a with
  | some r => exact ((h r).mp rfl).symm
  | none => cases b with
    | some r => exact (h r).mpr rfl
    | none => rfl
theorem xo_next {j : Nat} {x y : xm_S} (h : xm_step j x = some (.inl y)) : xm_out j x = xm_out j y := by
  refine xm_ext fun r => ?_
  rw [xm_out_iff, xm_out_iff]
  constructor
  · rintro ⟨n, hn⟩
    cases n with
    | zero => simp [xm_run] at hn
    | succ n => rw [xm_run, h] at hn; exact ⟨n, hn⟩
  · rintro ⟨n, hn⟩
    exact ⟨n + 1, by rw [xm_run, h]; exact hn⟩
theorem xo_done {j : Nat} {x : xm_S} {r : xm_R} (h : xm_step j x = some (.inr (.inl r))) : xm_out j x = some r :=
  xm_out_iff.mpr ⟨1, by rw [xm_run, h]⟩
/-- a method's answer, at these arguments, over this heap -/
noncomputable def xm_call (j : Nat) (as : List Value) (hp : xm_H) : Option xm_R := match xm_start j as hp with
  | some z => xm_out j z
  | none => none
theorem xo_call {j j' : Nat} {as : List Value} {x y : xm_S} {r : xm_R} (h : xm_step j x = some (.inr (.inr ((j', as), y)))) (hc : xm_call j' as y.2.2.2 = some r) :
    xm_out j x = xm_out j (y.1, y.2.1, r.1.toList ++ y.2.2.1, r.2) := by
  unfold xm_call at hc
  split at hc
  · rename_i z hz
    obtain ⟨k, hk⟩ := xm_out_iff.mp hc
    refine xm_ext fun q => ?_
    rw [xm_out_iff, xm_out_iff]
    constructor
    · rintro ⟨n, hn⟩
      cases n with
      | zero => simp [xm_run] at hn
      | succ n =>
        rw [xm_run, h] at hn
        simp only [hz] at hn
        split at hn
        · rename_i r' hr
          cases xm_run_det hr hk
          exact ⟨n, hn⟩
        · cases hn
    · rintro ⟨n, hn⟩
      refine ⟨Nat.max n k + 1, ?_⟩
      rw [xm_run, h]
      simp only [hz, xm_run_le (Nat.le_max_right n k) hk]
      exact xm_run_le (Nat.le_max_left n k) hn
  · cases hc
end
section
/-- what stands at a place of a method's code -/
def xm_ins (j pc : Nat) : Option (Instr × Nat) := match xp_mi j with
  | some M => match decode M.2.1 pc with
    | .ok x => some x
    | .error _ => none
  | none => none
def xm_fl (j idx : Nat) : Option (Nat × Nat × Bool × FieldType) := match xp_mi j with
  | some M => xp_fl M.2.2.2.2.1 idx
  | none => none
def xm_ini (j : Nat) : Option (Bool × Nat) := match xp_mi j with
  | some M => some (M.2.2.2.2.2.2.2, M.2.2.2.2.1)
  | none => none
def xm_nw (j idx : Nat) : Option (Nat × List Value) := match xp_mi j with
  | some M => xp_nw M.2.2.2.2.1 idx
  | none => none
def xm_cn (j idx : Nat) : Option Int32 := match xp_mi j with
  | some M => xp_cn M.2.2.2.2.1 idx
  | none => none
def xm_rt (j : Nat) : Option (Option FieldType) := match xp_mi j with
  | some M => some M.2.2.2.1
  | none => none
def xm_to (j : Nat) (T : Nat → Nat → Option (Nat × Nat)) (idx : Nat) : Option (Nat × Nat × Nat) := match xp_mi j with
  | some M => match T M.2.2.2.2.1 idx with
    | some (j', k) => match xp_mi j' with
      | some M' => if xm_fit M M' = true then some (j', k, M'.2.2.2.2.1) else none
      | none => none
    | none => none
  | none => none
def xm_no (j : Nat) (T : Nat → Nat → Bool) (idx : Nat) : Option Bool := match xp_mi j with
  | some M => some (T M.2.2.2.2.1 idx)
  | none => none
/-- room for a frame of so many words -/
def xm_rm (j w : Nat) : Option Bool := match xp_mi j with
  | some M => some (decide (1 ≤ M.2.2.2.2.2.1) && decide (w ≤ M.2.2.2.2.2.2.1))
  | none => none
theorem xm_ins_of {j pc : Nat} {M : xm_M} {x : Instr × Nat} (hM : xp_mi j = some M) (hd : decode M.2.1 pc = .ok x) : xm_ins j pc = some x := by
  unfold xm_ins
  rw [hM]
  simp only [hd]
theorem xm_ins_decode {j pc n : Nat} {i : Instr} {M : xm_M} (hM : xp_mi j = some M) (hd : xm_ins j pc = some (i, n)) : decode M.2.1 pc = .ok (i, n) := by
  unfold xm_ins at hd
  rw [hM] at hd
  dsimp only at hd
  split at hd
  · rename_i x hx
    rw [hx, Option.some.inj hd]
  · cases hd
theorem xm_step_of' {j pc n : Nat} {i : Instr} {lo : xm_L} {sk : List Value} {hp : xm_H} (hd : xm_ins j pc = some (i, n)) : ∃ M, xp_mi j = some M ∧ xm_step j (pc, lo, sk, hp) = xm_ex M pc lo sk hp n i := by
  cases hM : xp_mi j with
  | none => simp [xm_ins, hM] at hd
  | some M =>
    refine ⟨M, rfl, ?_⟩
    have h := xm_ins_decode hM hd
    simp [xm_step, hM, h]
theorem xm_step_of {j pc n : Nat} {i : Instr} {lo : xm_L} {sk : List Value} {hp : xm_H} (hd : xm_ins j pc = some (i, n)) : ∃ M, xm_step j (pc, lo, sk, hp) = xm_ex M pc lo sk hp n i := by
  obtain ⟨M, -, h⟩ := xm_step_of' (lo := lo) (sk := sk) (hp := hp) hd
  exact ⟨M, h⟩
theorem xm_to_spec {j idx j' k oc : Nat} {T : Nat → Nat → Option (Nat × Nat)} {M : xm_M} (hM : xp_mi j = some M) (h : xm_to j T idx = some (j', k, oc)) : T M.2.2.2.2.1 idx = some (j', k) ∧ ∃ M', xp_mi j' = some M' ∧ xm_fit M M' = true ∧ M'.2.2.2.2.1 = oc := by
  simp only [xm_to, hM] at h
  split at h
  · rename_i a b hT
    split at h
    · rename_i M' hM'
      split at h
      · rename_i hl
        simp only [Option.some.injEq, Prod.mk.injEq] at h
        obtain ⟨rfl, rfl, rfl⟩ := h
        exact ⟨hT, M', hM', hl, rfl⟩
      · cases h
    · cases h
  · cases h
theorem xo_ldc {j pc idx : Nat} {lo : xm_L} {sk : List Value} {hp : xm_H} {v : Int32} (hd : xm_ins j pc = some (.ldc_w idx, 3)) (hv : xm_cn j idx = some v) : xm_out j (pc, lo, sk, hp) = xm_out j (pc + 3, lo, .int v :: sk, hp) := xo_next (by
  obtain ⟨M, hM, h⟩ := xm_step_of' (lo := lo) (sk := sk) (hp := hp) hd
  rw [h]; simp [xm_cn, hM] at hv; simp [xm_ex, hv, xm_ok])
/-- calls: the callee's answer as an equation -/
theorem xo_calS' {j pc idx j' k oc : Nat} {lo : xm_L} {sk As Ar rest : List Value} {hp hp' : xm_H} {r : Option Value} (hd : xm_ins j pc = some (.invokestatic idx, 3)) (ha : xm_no j xp_ac idx = some false) (hm : xm_to j xp_ms idx = some (j', k, oc)) (hk : k ≤ sk.length) (h1 : sk.take k = Ar) (h2 : Ar.reverse = As) (h3 : sk.drop k = rest) (hl : xm_low rest = true)
    (hc : xm_call j' As hp = some (r, hp')) : xm_out j (pc, lo, sk, hp) = xm_out j (pc + 3, lo, r.toList ++ rest, hp') := by
  obtain ⟨M, hM, h⟩ := xm_step_of' (lo := lo) (sk := sk) (hp := hp) hd
  obtain ⟨hT, M', hM', hlv, -⟩ := xm_to_spec hM hm
  simp [xm_no, hM] at ha
  subst h1 h2 h3
  have hs : xm_step j (pc, lo, sk, hp) = some (.inr (.inr ((j', (sk.take k).reverse), (pc + 3, lo, sk.drop k, hp)))) := by
    rw [h]; simp [xm_ex, ha, xm_calS, hT, hM', hlv, hk, hl]
  exact xo_call hs hc
theorem xo_calV' {j pc idx j' k oc b : Nat} {lo : xm_L} {sk As Ar rest : List Value} {hp hp' : xm_H} {r : Option Value} {fs : List Value} (hd : xm_ins j pc = some (.invokevirtual idx, 3)) (hm : xm_to j xp_mv idx = some (j', k, oc)) (hk : k ≤ sk.length) (h1 : sk.take k = Ar) (h2 : Ar.reverse = As) (h3 : sk.drop k = .ref b :: rest) (hl : xm_low rest = true) (hb : hp.1 b = some (.inr (.inl (oc, fs))))
    (hc : xm_call j' (.ref b :: As) hp = some (r, hp')) : xm_out j (pc, lo, sk, hp) = xm_out j (pc + 3, lo, r.toList ++ rest, hp') := by
  obtain ⟨M, hM, h⟩ := xm_step_of' (lo := lo) (sk := sk) (hp := hp) hd
  obtain ⟨hT, M', hM', hlv, rfl⟩ := xm_to_spec hM hm
  subst h1 h2
  have hs : xm_step j (pc, lo, sk, hp) = some (.inr (.inr ((j', .ref b :: (sk.take k).reverse), (pc + 3, lo, rest, hp)))) := by
    rw [h]; simp [xm_ex, xm_calV, hT, hM', hlv, hk, hl, h3, xm_obj, hb]
  exact xo_call hs hc
theorem xo_calP' {j pc idx j' k oc b : Nat} {lo : xm_L} {sk As Ar rest : List Value} {hp hp' : xm_H} {r : Option Value} (hd : xm_ins j pc = some (.invokespecial idx, 3)) (ha : xm_no j xp_oi idx = some false) (hm : xm_to j xp_mp idx = some (j', k, oc)) (hk : k ≤ sk.length) (h1 : sk.take k = Ar) (h2 : Ar.reverse = As) (h3 : sk.drop k = .ref b :: rest) (hl : xm_low rest = true)
    (hc : xm_call j' (.ref b :: As) hp = some (r, hp')) : xm_out j (pc, lo, sk, hp) = xm_out j (pc + 3, lo, r.toList ++ rest, hp') := by
  obtain ⟨M, hM, h⟩ := xm_step_of' (lo := lo) (sk := sk) (hp := hp) hd
  obtain ⟨hT, M', hM', hlv, -⟩ := xm_to_spec hM hm
  simp [xm_no, hM] at ha
  subst h1 h2
  have hs : xm_step j (pc, lo, sk, hp) = some (.inr (.inr ((j', .ref b :: (sk.take k).reverse), (pc + 3, lo, rest, hp)))) := by
    rw [h]; simp [xm_ex, ha, xm_calP, hT, hM', hlv, hk, hl, h3]
  exact xo_call hs hc
theorem xo_oi {j pc idx a : Nat} {lo : xm_L} {rest : List Value} {hp : xm_H} (hd : xm_ins j pc = some (.invokespecial idx, 3)) (ha : xm_no j xp_oi idx = some true) (hl : xm_low rest = true) (hrm : xm_rm j 20 = some true) : xm_out j (pc, lo, .ref a :: rest, hp) = xm_out j (pc + 3, lo, rest, hp) := xo_next (by
  obtain ⟨M, hM, h⟩ := xm_step_of' (lo := lo) (sk := .ref a :: rest) (hp := hp) hd
  rw [h]; simp [xm_no, hM] at ha; simp [xm_rm, hM] at hrm; simp [xm_ex, xm_calP, ha, xm_ok, hl, hrm])
theorem xo_copy {j pc idx a a0 n0 n1 : Nat} {lo : xm_L} {rest : List Value} {hp : xm_H} {z dp sp : Int32} {f g : Nat → Int32} (hd : xm_ins j pc = some (.invokestatic idx, 3)) (ha : xm_no j xp_ac idx = some true) (h0 : hp.1 a0 = some (.inl (.int, n0, .inl f))) (h1 : hp.1 a = some (.inl (.int, n1, .inl g)))
    (hne : a0 ≠ a) (q1 : ¬ sp < 0) (q2 : ¬ dp < 0) (q3 : ¬ z < 0) (q4 : sp.toNatClampNeg + z.toNatClampNeg ≤ n0) (q5 : dp.toNatClampNeg + z.toNatClampNeg ≤ n1) (hl : xm_low rest = true) (hrm : xm_rm j 26 = some true) :
    xm_out j (pc, lo, .int z :: .int dp :: .ref a :: .int sp :: .ref a0 :: rest, hp) = xm_out j (pc + 3, lo, rest, xm_up hp a (.inl (.int, n1, .inl (va_cpy f g sp.toNatClampNeg dp.toNatClampNeg z.toNatClampNeg)))) := xo_next (by
  obtain ⟨M, hM, h⟩ := xm_step_of' (lo := lo) (sk := .int z :: .int dp :: .ref a :: .int sp :: .ref a0 :: rest) (hp := hp) hd
  rw [h]; simp [xm_no, hM] at ha; simp [xm_rm, hM] at hrm; simp only [xm_ex, ha, xm_copy, h0, h1, if_true]; rw [if_pos ⟨hne, q1, q2, q3, q4, q5, hl, hrm.1, hrm.2⟩]; rfl)
/-- ends -/
theorem xo_ret {j pc : Nat} {lo : xm_L} {sk : List Value} {hp : xm_H} {i : Instr} {rt : Option FieldType} {r : Option Value} (hd : xm_ins j pc = some (i, 1)) (ht : xm_rt j = some rt) (hr : xm_ret rt i sk = some r) : xm_out j (pc, lo, sk, hp) = some (r, hp) := by
  obtain ⟨M, hM, h⟩ := xm_step_of' (lo := lo) (sk := sk) (hp := hp) hd
  simp [xm_rt, hM] at ht
  subst ht
  refine xo_done ?_
  rw [h]
  cases i <;> first | (simp [xm_ret] at hr; done) | simp [xm_ex, xm_end, hr]
theorem xm_call_of {j : Nat} {as : List Value} {hp : xm_H} {M : xm_M} {lo : xm_L} {r : xm_R} (hM : xp_mi j = some M) (hn : (xm_lay as).length ≤ M.2.2.1) (hl : xm_ent M.2.2.1 as = lo) (h : xm_out j (0, lo, [], hp) = some r) : xm_call j as hp = some r := by
  simp only [xm_call, xm_start, hM, hn, if_true, hl, h]
end
