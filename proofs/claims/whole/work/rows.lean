section
-- ===== PART A: goes FIRST, ahead of the names: the tables' words, and 'selects' of the private methods out of them =====
/-- a private method of a class that the tables say can be made, by its rows of tables_1 -/
def lw_okq (q : MethodName × Nat) : Prop := (q.1.cls ≠ "java/lang/invoke/MethodHandle" ∧ q.1.cls ≠ "java/lang/invoke/VarHandle") ∧ Cond.instantiable q.1.cls q.2 ∈ tables_1 ∧ Cond.privateMethod q.1 ∈ tables_1 ∧ Cond.instanceMethod q.1 ∈ tables_1
theorem lw_p0 : lw_okq (⟨"PackageModules", "isTypeOrNone", "(I)Z"⟩, 7) := ⟨⟨by decide +kernel, by decide +kernel⟩, List.mem_of_getElem? (i := 15) (by decide +kernel), List.mem_of_getElem? (i := 249) (by decide +kernel), List.mem_of_getElem? (i := 250) (by decide +kernel)⟩
theorem lw_p1 : lw_okq (⟨"PackageModules$Modules", "closed", "(I[I)I"⟩, 5) := ⟨⟨by decide +kernel, by decide +kernel⟩, List.mem_of_getElem? (i := 23) (by decide +kernel), List.mem_of_getElem? (i := 286) (by decide +kernel), List.mem_of_getElem? (i := 287) (by decide +kernel)⟩
theorem lw_p2 : lw_okq (⟨"PackageModules", "isTypeSeen", "(II)Z"⟩, 7) := ⟨⟨by decide +kernel, by decide +kernel⟩, List.mem_of_getElem? (i := 15) (by decide +kernel), List.mem_of_getElem? (i := 331) (by decide +kernel), List.mem_of_getElem? (i := 332) (by decide +kernel)⟩
theorem lw_p3 : lw_okq (⟨"PackageModules", "ownerOfType", "(I)I"⟩, 7) := ⟨⟨by decide +kernel, by decide +kernel⟩, List.mem_of_getElem? (i := 15) (by decide +kernel), List.mem_of_getElem? (i := 335) (by decide +kernel), List.mem_of_getElem? (i := 336) (by decide +kernel)⟩
theorem lw_p4 : lw_okq (⟨"PackageModules", "isPackSeen", "(II)Z"⟩, 7) := ⟨⟨by decide +kernel, by decide +kernel⟩, List.mem_of_getElem? (i := 15) (by decide +kernel), List.mem_of_getElem? (i := 347) (by decide +kernel), List.mem_of_getElem? (i := 348) (by decide +kernel)⟩
theorem lw_p5 : lw_okq (⟨"PackageModules", "provideRule", "(III)I"⟩, 7) := ⟨⟨by decide +kernel, by decide +kernel⟩, List.mem_of_getElem? (i := 15) (by decide +kernel), List.mem_of_getElem? (i := 376) (by decide +kernel), List.mem_of_getElem? (i := 377) (by decide +kernel)⟩
theorem lw_p6 : lw_okq (⟨"PackageModules", "giverRule", "(II)I"⟩, 7) := ⟨⟨by decide +kernel, by decide +kernel⟩, List.mem_of_getElem? (i := 15) (by decide +kernel), List.mem_of_getElem? (i := 384) (by decide +kernel), List.mem_of_getElem? (i := 385) (by decide +kernel)⟩
theorem lw_p7 : lw_okq (⟨"PackageModules", "makerRule", "(II)I"⟩, 7) := ⟨⟨by decide +kernel, by decide +kernel⟩, List.mem_of_getElem? (i := 15) (by decide +kernel), List.mem_of_getElem? (i := 396) (by decide +kernel), List.mem_of_getElem? (i := 397) (by decide +kernel)⟩
theorem lw_p8 : lw_okq (⟨"PackageModules", "leastSplitName", "(I)I"⟩, 7) := ⟨⟨by decide +kernel, by decide +kernel⟩, List.mem_of_getElem? (i := 15) (by decide +kernel), List.mem_of_getElem? (i := 456) (by decide +kernel), List.mem_of_getElem? (i := 457) (by decide +kernel)⟩
theorem lw_p9 : lw_okq (⟨"PackageModules", "isImport", "(III)Z"⟩, 7) := ⟨⟨by decide +kernel, by decide +kernel⟩, List.mem_of_getElem? (i := 15) (by decide +kernel), List.mem_of_getElem? (i := 481) (by decide +kernel), List.mem_of_getElem? (i := 482) (by decide +kernel)⟩
theorem lw_p10 : lw_okq (⟨"PackageModules", "importRule", "(IIII)I"⟩, 7) := ⟨⟨by decide +kernel, by decide +kernel⟩, List.mem_of_getElem? (i := 15) (by decide +kernel), List.mem_of_getElem? (i := 489) (by decide +kernel), List.mem_of_getElem? (i := 490) (by decide +kernel)⟩
theorem lw_p11 : lw_okq (⟨"PackageModules", "ownerOfUnit", "(I)I"⟩, 7) := ⟨⟨by decide +kernel, by decide +kernel⟩, List.mem_of_getElem? (i := 15) (by decide +kernel), List.mem_of_getElem? (i := 493) (by decide +kernel), List.mem_of_getElem? (i := 494) (by decide +kernel)⟩
theorem lw_p12 : lw_okq (⟨"PackageModules", "isPackNameSeen", "(II)Z"⟩, 7) := ⟨⟨by decide +kernel, by decide +kernel⟩, List.mem_of_getElem? (i := 15) (by decide +kernel), List.mem_of_getElem? (i := 501) (by decide +kernel), List.mem_of_getElem? (i := 502) (by decide +kernel)⟩
theorem lw_p13 : lw_okq (⟨"PackageModules", "importsRival", "(II)Z"⟩, 7) := ⟨⟨by decide +kernel, by decide +kernel⟩, List.mem_of_getElem? (i := 15) (by decide +kernel), List.mem_of_getElem? (i := 505) (by decide +kernel), List.mem_of_getElem? (i := 506) (by decide +kernel)⟩
theorem lw_p14 : lw_okq (⟨"PackageModules", "singlyImportedType", "(II)I"⟩, 7) := ⟨⟨by decide +kernel, by decide +kernel⟩, List.mem_of_getElem? (i := 15) (by decide +kernel), List.mem_of_getElem? (i := 513) (by decide +kernel), List.mem_of_getElem? (i := 514) (by decide +kernel)⟩
theorem lw_p15 : lw_okq (⟨"PackageModules", "hasUsableMember", "(III)Z"⟩, 7) := ⟨⟨by decide +kernel, by decide +kernel⟩, List.mem_of_getElem? (i := 15) (by decide +kernel), List.mem_of_getElem? (i := 529) (by decide +kernel), List.mem_of_getElem? (i := 530) (by decide +kernel)⟩
def lw_privs_1 : List (MethodName × Nat) := [(⟨"PackageModules", "isTypeOrNone", "(I)Z"⟩, 7), (⟨"PackageModules$Modules", "closed", "(I[I)I"⟩, 5), (⟨"PackageModules", "isTypeSeen", "(II)Z"⟩, 7), (⟨"PackageModules", "ownerOfType", "(I)I"⟩, 7), (⟨"PackageModules", "isPackSeen", "(II)Z"⟩, 7), (⟨"PackageModules", "provideRule", "(III)I"⟩, 7), (⟨"PackageModules", "giverRule", "(II)I"⟩, 7), (⟨"PackageModules", "makerRule", "(II)I"⟩, 7), (⟨"PackageModules", "leastSplitName", "(I)I"⟩, 7), (⟨"PackageModules", "isImport", "(III)Z"⟩, 7), (⟨"PackageModules", "importRule", "(IIII)I"⟩, 7), (⟨"PackageModules", "ownerOfUnit", "(I)I"⟩, 7), (⟨"PackageModules", "isPackNameSeen", "(II)Z"⟩, 7), (⟨"PackageModules", "importsRival", "(II)Z"⟩, 7), (⟨"PackageModules", "singlyImportedType", "(II)I"⟩, 7), (⟨"PackageModules", "hasUsableMember", "(III)Z"⟩, 7)]
theorem lw_r1 : ∀ q ∈ lw_privs_1, lw_okq q := List.forall_mem_cons.mpr ⟨lw_p0, List.forall_mem_cons.mpr ⟨lw_p1, List.forall_mem_cons.mpr ⟨lw_p2, List.forall_mem_cons.mpr ⟨lw_p3, List.forall_mem_cons.mpr ⟨lw_p4, List.forall_mem_cons.mpr ⟨lw_p5, List.forall_mem_cons.mpr ⟨lw_p6, List.forall_mem_cons.mpr ⟨lw_p7, List.forall_mem_cons.mpr ⟨lw_p8, List.forall_mem_cons.mpr ⟨lw_p9, List.forall_mem_cons.mpr ⟨lw_p10, List.forall_mem_cons.mpr ⟨lw_p11, List.forall_mem_cons.mpr ⟨lw_p12, List.forall_mem_cons.mpr ⟨lw_p13, List.forall_mem_cons.mpr ⟨lw_p14, List.forall_mem_cons.mpr ⟨lw_p15, fun _ h => absurd h List.not_mem_nil⟩⟩⟩⟩⟩⟩⟩⟩⟩⟩⟩⟩⟩⟩⟩⟩
theorem lw_p16 : lw_okq (⟨"PackageModules", "usableMember", "(IIII)I"⟩, 7) := ⟨⟨by decide +kernel, by decide +kernel⟩, List.mem_of_getElem? (i := 15) (by decide +kernel), List.mem_of_getElem? (i := 533) (by decide +kernel), List.mem_of_getElem? (i := 534) (by decide +kernel)⟩
theorem lw_p17 : lw_okq (⟨"PackageModules", "nearestMember", "(III)I"⟩, 7) := ⟨⟨by decide +kernel, by decide +kernel⟩, List.mem_of_getElem? (i := 15) (by decide +kernel), List.mem_of_getElem? (i := 537) (by decide +kernel), List.mem_of_getElem? (i := 538) (by decide +kernel)⟩
theorem lw_p18 : lw_okq (⟨"PackageModules", "widelyImportedType", "(II)I"⟩, 7) := ⟨⟨by decide +kernel, by decide +kernel⟩, List.mem_of_getElem? (i := 15) (by decide +kernel), List.mem_of_getElem? (i := 568) (by decide +kernel), List.mem_of_getElem? (i := 569) (by decide +kernel)⟩
theorem lw_p19 : lw_okq (⟨"PackageModules", "isWidelyImported", "(II)Z"⟩, 7) := ⟨⟨by decide +kernel, by decide +kernel⟩, List.mem_of_getElem? (i := 15) (by decide +kernel), List.mem_of_getElem? (i := 572) (by decide +kernel), List.mem_of_getElem? (i := 573) (by decide +kernel)⟩
theorem lw_p20 : lw_okq (⟨"PackageModules", "importedMember", "(IIII)I"⟩, 7) := ⟨⟨by decide +kernel, by decide +kernel⟩, List.mem_of_getElem? (i := 15) (by decide +kernel), List.mem_of_getElem? (i := 580) (by decide +kernel), List.mem_of_getElem? (i := 581) (by decide +kernel)⟩
theorem lw_p21 : lw_okq (⟨"PackageModules", "memberByImport", "(IIIII)I"⟩, 7) := ⟨⟨by decide +kernel, by decide +kernel⟩, List.mem_of_getElem? (i := 15) (by decide +kernel), List.mem_of_getElem? (i := 584) (by decide +kernel), List.mem_of_getElem? (i := 585) (by decide +kernel)⟩
theorem lw_p22 : lw_okq (⟨"PackageModules", "graphOf", "(IZ)I"⟩, 7) := ⟨⟨by decide +kernel, by decide +kernel⟩, List.mem_of_getElem? (i := 15) (by decide +kernel), List.mem_of_getElem? (i := 593) (by decide +kernel), List.mem_of_getElem? (i := 594) (by decide +kernel)⟩
theorem lw_p23 : lw_okq (⟨"PackageModules", "providersFor", "(I)I"⟩, 7) := ⟨⟨by decide +kernel, by decide +kernel⟩, List.mem_of_getElem? (i := 15) (by decide +kernel), List.mem_of_getElem? (i := 601) (by decide +kernel), List.mem_of_getElem? (i := 602) (by decide +kernel)⟩
theorem lw_p24 : lw_okq (⟨"PackageModules", "providerAt", "(III)I"⟩, 7) := ⟨⟨by decide +kernel, by decide +kernel⟩, List.mem_of_getElem? (i := 15) (by decide +kernel), List.mem_of_getElem? (i := 632) (by decide +kernel), List.mem_of_getElem? (i := 633) (by decide +kernel)⟩
theorem lw_p25 : lw_okq (⟨"PackageModules", "anySplit", "(I)Z"⟩, 7) := ⟨⟨by decide +kernel, by decide +kernel⟩, List.mem_of_getElem? (i := 15) (by decide +kernel), List.mem_of_getElem? (i := 653) (by decide +kernel), List.mem_of_getElem? (i := 654) (by decide +kernel)⟩
theorem lw_p26 : lw_okq (⟨"PackageModules", "foundPack", "(III)I"⟩, 7) := ⟨⟨by decide +kernel, by decide +kernel⟩, List.mem_of_getElem? (i := 15) (by decide +kernel), List.mem_of_getElem? (i := 675) (by decide +kernel), List.mem_of_getElem? (i := 676) (by decide +kernel)⟩
theorem lw_p27 : lw_okq (⟨"PackageModulesModel", "isModule", "(I)Z"⟩, 34) := ⟨⟨by decide +kernel, by decide +kernel⟩, List.mem_of_getElem? (i := 684) (by decide +kernel), List.mem_of_getElem? (i := 801) (by decide +kernel), List.mem_of_getElem? (i := 802) (by decide +kernel)⟩
theorem lw_p28 : lw_okq (⟨"PackageModulesModel", "packOf", "(II)I"⟩, 34) := ⟨⟨by decide +kernel, by decide +kernel⟩, List.mem_of_getElem? (i := 684) (by decide +kernel), List.mem_of_getElem? (i := 811) (by decide +kernel), List.mem_of_getElem? (i := 812) (by decide +kernel)⟩
theorem lw_p29 : lw_okq (⟨"PackageModulesModel", "isPack", "(I)Z"⟩, 34) := ⟨⟨by decide +kernel, by decide +kernel⟩, List.mem_of_getElem? (i := 684) (by decide +kernel), List.mem_of_getElem? (i := 819) (by decide +kernel), List.mem_of_getElem? (i := 820) (by decide +kernel)⟩
theorem lw_p30 : lw_okq (⟨"PackageModulesModel", "isType", "(I)Z"⟩, 34) := ⟨⟨by decide +kernel, by decide +kernel⟩, List.mem_of_getElem? (i := 684) (by decide +kernel), List.mem_of_getElem? (i := 823) (by decide +kernel), List.mem_of_getElem? (i := 824) (by decide +kernel)⟩
theorem lw_p31 : lw_okq (⟨"PackageModulesModel", "typeOf", "(II)I"⟩, 34) := ⟨⟨by decide +kernel, by decide +kernel⟩, List.mem_of_getElem? (i := 684) (by decide +kernel), List.mem_of_getElem? (i := 827) (by decide +kernel), List.mem_of_getElem? (i := 828) (by decide +kernel)⟩
def lw_privs_2 : List (MethodName × Nat) := [(⟨"PackageModules", "usableMember", "(IIII)I"⟩, 7), (⟨"PackageModules", "nearestMember", "(III)I"⟩, 7), (⟨"PackageModules", "widelyImportedType", "(II)I"⟩, 7), (⟨"PackageModules", "isWidelyImported", "(II)Z"⟩, 7), (⟨"PackageModules", "importedMember", "(IIII)I"⟩, 7), (⟨"PackageModules", "memberByImport", "(IIIII)I"⟩, 7), (⟨"PackageModules", "graphOf", "(IZ)I"⟩, 7), (⟨"PackageModules", "providersFor", "(I)I"⟩, 7), (⟨"PackageModules", "providerAt", "(III)I"⟩, 7), (⟨"PackageModules", "anySplit", "(I)Z"⟩, 7), (⟨"PackageModules", "foundPack", "(III)I"⟩, 7), (⟨"PackageModulesModel", "isModule", "(I)Z"⟩, 34), (⟨"PackageModulesModel", "packOf", "(II)I"⟩, 34), (⟨"PackageModulesModel", "isPack", "(I)Z"⟩, 34), (⟨"PackageModulesModel", "isType", "(I)Z"⟩, 34), (⟨"PackageModulesModel", "typeOf", "(II)I"⟩, 34)]
theorem lw_r2 : ∀ q ∈ lw_privs_2, lw_okq q := List.forall_mem_cons.mpr ⟨lw_p16, List.forall_mem_cons.mpr ⟨lw_p17, List.forall_mem_cons.mpr ⟨lw_p18, List.forall_mem_cons.mpr ⟨lw_p19, List.forall_mem_cons.mpr ⟨lw_p20, List.forall_mem_cons.mpr ⟨lw_p21, List.forall_mem_cons.mpr ⟨lw_p22, List.forall_mem_cons.mpr ⟨lw_p23, List.forall_mem_cons.mpr ⟨lw_p24, List.forall_mem_cons.mpr ⟨lw_p25, List.forall_mem_cons.mpr ⟨lw_p26, List.forall_mem_cons.mpr ⟨lw_p27, List.forall_mem_cons.mpr ⟨lw_p28, List.forall_mem_cons.mpr ⟨lw_p29, List.forall_mem_cons.mpr ⟨lw_p30, List.forall_mem_cons.mpr ⟨lw_p31, fun _ h => absurd h List.not_mem_nil⟩⟩⟩⟩⟩⟩⟩⟩⟩⟩⟩⟩⟩⟩⟩⟩
theorem lw_p32 : lw_okq (⟨"PackageModulesModel", "ownMember", "(III)I"⟩, 34) := ⟨⟨by decide +kernel, by decide +kernel⟩, List.mem_of_getElem? (i := 684) (by decide +kernel), List.mem_of_getElem? (i := 835) (by decide +kernel), List.mem_of_getElem? (i := 836) (by decide +kernel)⟩
theorem lw_p33 : lw_okq (⟨"PackageModulesModel", "clear", "()V"⟩, 34) := ⟨⟨by decide +kernel, by decide +kernel⟩, List.mem_of_getElem? (i := 684) (by decide +kernel), List.mem_of_getElem? (i := 843) (by decide +kernel), List.mem_of_getElem? (i := 844) (by decide +kernel)⟩
theorem lw_p34 : lw_okq (⟨"PackageModulesModel", "goesOn", "(ZZI)Z"⟩, 34) := ⟨⟨by decide +kernel, by decide +kernel⟩, List.mem_of_getElem? (i := 684) (by decide +kernel), List.mem_of_getElem? (i := 847) (by decide +kernel), List.mem_of_getElem? (i := 848) (by decide +kernel)⟩
theorem lw_p35 : lw_okq (⟨"PackageModulesModel", "isEdge", "(IIZZ)Z"⟩, 34) := ⟨⟨by decide +kernel, by decide +kernel⟩, List.mem_of_getElem? (i := 684) (by decide +kernel), List.mem_of_getElem? (i := 851) (by decide +kernel), List.mem_of_getElem? (i := 852) (by decide +kernel)⟩
theorem lw_p36 : lw_okq (⟨"PackageModulesModel", "read", "(IZ)V"⟩, 34) := ⟨⟨by decide +kernel, by decide +kernel⟩, List.mem_of_getElem? (i := 684) (by decide +kernel), List.mem_of_getElem? (i := 866) (by decide +kernel), List.mem_of_getElem? (i := 867) (by decide +kernel)⟩
theorem lw_p37 : lw_okq (⟨"PackageModulesModel", "seesType", "(II)Z"⟩, 34) := ⟨⟨by decide +kernel, by decide +kernel⟩, List.mem_of_getElem? (i := 684) (by decide +kernel), List.mem_of_getElem? (i := 874) (by decide +kernel), List.mem_of_getElem? (i := 875) (by decide +kernel)⟩
theorem lw_p38 : lw_okq (⟨"PackageModulesModel", "seesPack", "(II)Z"⟩, 34) := ⟨⟨by decide +kernel, by decide +kernel⟩, List.mem_of_getElem? (i := 684) (by decide +kernel), List.mem_of_getElem? (i := 878) (by decide +kernel), List.mem_of_getElem? (i := 879) (by decide +kernel)⟩
theorem lw_p39 : lw_okq (⟨"PackageModulesModel", "isExported", "(II)Z"⟩, 34) := ⟨⟨by decide +kernel, by decide +kernel⟩, List.mem_of_getElem? (i := 684) (by decide +kernel), List.mem_of_getElem? (i := 882) (by decide +kernel), List.mem_of_getElem? (i := 883) (by decide +kernel)⟩
theorem lw_p40 : lw_okq (⟨"PackageModulesModel", "isOpen", "(I)Z"⟩, 34) := ⟨⟨by decide +kernel, by decide +kernel⟩, List.mem_of_getElem? (i := 684) (by decide +kernel), List.mem_of_getElem? (i := 886) (by decide +kernel), List.mem_of_getElem? (i := 887) (by decide +kernel)⟩
theorem lw_p41 : lw_okq (⟨"PackageModulesModel", "moduleOf", "(I)I"⟩, 34) := ⟨⟨by decide +kernel, by decide +kernel⟩, List.mem_of_getElem? (i := 684) (by decide +kernel), List.mem_of_getElem? (i := 890) (by decide +kernel), List.mem_of_getElem? (i := 891) (by decide +kernel)⟩
theorem lw_p42 : lw_okq (⟨"PackageModulesModel", "splitOf", "(I)I"⟩, 34) := ⟨⟨by decide +kernel, by decide +kernel⟩, List.mem_of_getElem? (i := 684) (by decide +kernel), List.mem_of_getElem? (i := 902) (by decide +kernel), List.mem_of_getElem? (i := 903) (by decide +kernel)⟩
theorem lw_p43 : lw_okq (⟨"PackageModulesModel", "provideRule", "(III)I"⟩, 34) := ⟨⟨by decide +kernel, by decide +kernel⟩, List.mem_of_getElem? (i := 684) (by decide +kernel), List.mem_of_getElem? (i := 914) (by decide +kernel), List.mem_of_getElem? (i := 915) (by decide +kernel)⟩
theorem lw_p44 : lw_okq (⟨"PackageModulesModel", "isSubtype", "(II)Z"⟩, 34) := ⟨⟨by decide +kernel, by decide +kernel⟩, List.mem_of_getElem? (i := 684) (by decide +kernel), List.mem_of_getElem? (i := 918) (by decide +kernel), List.mem_of_getElem? (i := 919) (by decide +kernel)⟩
theorem lw_p45 : lw_okq (⟨"PackageModulesModel", "graphOf", "(IZ)V"⟩, 34) := ⟨⟨by decide +kernel, by decide +kernel⟩, List.mem_of_getElem? (i := 684) (by decide +kernel), List.mem_of_getElem? (i := 926) (by decide +kernel), List.mem_of_getElem? (i := 927) (by decide +kernel)⟩
theorem lw_p46 : lw_okq (⟨"PackageModulesModel", "binds", "()Z"⟩, 34) := ⟨⟨by decide +kernel, by decide +kernel⟩, List.mem_of_getElem? (i := 684) (by decide +kernel), List.mem_of_getElem? (i := 930) (by decide +kernel), List.mem_of_getElem? (i := 931) (by decide +kernel)⟩
theorem lw_p47 : lw_okq (⟨"PackageModulesModel", "isUsed", "(I)Z"⟩, 34) := ⟨⟨by decide +kernel, by decide +kernel⟩, List.mem_of_getElem? (i := 684) (by decide +kernel), List.mem_of_getElem? (i := 934) (by decide +kernel), List.mem_of_getElem? (i := 935) (by decide +kernel)⟩
def lw_privs_3 : List (MethodName × Nat) := [(⟨"PackageModulesModel", "ownMember", "(III)I"⟩, 34), (⟨"PackageModulesModel", "clear", "()V"⟩, 34), (⟨"PackageModulesModel", "goesOn", "(ZZI)Z"⟩, 34), (⟨"PackageModulesModel", "isEdge", "(IIZZ)Z"⟩, 34), (⟨"PackageModulesModel", "read", "(IZ)V"⟩, 34), (⟨"PackageModulesModel", "seesType", "(II)Z"⟩, 34), (⟨"PackageModulesModel", "seesPack", "(II)Z"⟩, 34), (⟨"PackageModulesModel", "isExported", "(II)Z"⟩, 34), (⟨"PackageModulesModel", "isOpen", "(I)Z"⟩, 34), (⟨"PackageModulesModel", "moduleOf", "(I)I"⟩, 34), (⟨"PackageModulesModel", "splitOf", "(I)I"⟩, 34), (⟨"PackageModulesModel", "provideRule", "(III)I"⟩, 34), (⟨"PackageModulesModel", "isSubtype", "(II)Z"⟩, 34), (⟨"PackageModulesModel", "graphOf", "(IZ)V"⟩, 34), (⟨"PackageModulesModel", "binds", "()Z"⟩, 34), (⟨"PackageModulesModel", "isUsed", "(I)Z"⟩, 34)]
theorem lw_r3 : ∀ q ∈ lw_privs_3, lw_okq q := List.forall_mem_cons.mpr ⟨lw_p32, List.forall_mem_cons.mpr ⟨lw_p33, List.forall_mem_cons.mpr ⟨lw_p34, List.forall_mem_cons.mpr ⟨lw_p35, List.forall_mem_cons.mpr ⟨lw_p36, List.forall_mem_cons.mpr ⟨lw_p37, List.forall_mem_cons.mpr ⟨lw_p38, List.forall_mem_cons.mpr ⟨lw_p39, List.forall_mem_cons.mpr ⟨lw_p40, List.forall_mem_cons.mpr ⟨lw_p41, List.forall_mem_cons.mpr ⟨lw_p42, List.forall_mem_cons.mpr ⟨lw_p43, List.forall_mem_cons.mpr ⟨lw_p44, List.forall_mem_cons.mpr ⟨lw_p45, List.forall_mem_cons.mpr ⟨lw_p46, List.forall_mem_cons.mpr ⟨lw_p47, fun _ h => absurd h List.not_mem_nil⟩⟩⟩⟩⟩⟩⟩⟩⟩⟩⟩⟩⟩⟩⟩⟩
theorem lw_p48 : lw_okq (⟨"PackageModulesModel", "isProviding", "(II)Z"⟩, 34) := ⟨⟨by decide +kernel, by decide +kernel⟩, List.mem_of_getElem? (i := 684) (by decide +kernel), List.mem_of_getElem? (i := 938) (by decide +kernel), List.mem_of_getElem? (i := 939) (by decide +kernel)⟩
theorem lw_p49 : lw_okq (⟨"PackageModulesModel", "isUnit", "(I)Z"⟩, 34) := ⟨⟨by decide +kernel, by decide +kernel⟩, List.mem_of_getElem? (i := 684) (by decide +kernel), List.mem_of_getElem? (i := 958) (by decide +kernel), List.mem_of_getElem? (i := 959) (by decide +kernel)⟩
theorem lw_p50 : lw_okq (⟨"PackageModulesModel", "importRule", "(IIII)I"⟩, 34) := ⟨⟨by decide +kernel, by decide +kernel⟩, List.mem_of_getElem? (i := 684) (by decide +kernel), List.mem_of_getElem? (i := 962) (by decide +kernel), List.mem_of_getElem? (i := 963) (by decide +kernel)⟩
theorem lw_p51 : lw_okq (⟨"PackageModulesModel", "home", "(I)I"⟩, 34) := ⟨⟨by decide +kernel, by decide +kernel⟩, List.mem_of_getElem? (i := 684) (by decide +kernel), List.mem_of_getElem? (i := 966) (by decide +kernel), List.mem_of_getElem? (i := 967) (by decide +kernel)⟩
theorem lw_p52 : lw_okq (⟨"PackageModulesModel", "usable", "(IIII)I"⟩, 34) := ⟨⟨by decide +kernel, by decide +kernel⟩, List.mem_of_getElem? (i := 684) (by decide +kernel), List.mem_of_getElem? (i := 970) (by decide +kernel), List.mem_of_getElem? (i := 971) (by decide +kernel)⟩
theorem lw_p53 : lw_okq (⟨"PackageModulesModel", "byPacks", "(II)I"⟩, 34) := ⟨⟨by decide +kernel, by decide +kernel⟩, List.mem_of_getElem? (i := 684) (by decide +kernel), List.mem_of_getElem? (i := 978) (by decide +kernel), List.mem_of_getElem? (i := 979) (by decide +kernel)⟩
theorem lw_p54 : lw_okq (⟨"PackageModulesModel", "byImports", "(IIII)I"⟩, 34) := ⟨⟨by decide +kernel, by decide +kernel⟩, List.mem_of_getElem? (i := 684) (by decide +kernel), List.mem_of_getElem? (i := 986) (by decide +kernel), List.mem_of_getElem? (i := 987) (by decide +kernel)⟩
theorem lw_p55 : lw_okq (⟨"PackageModulesModel", "isLayer", "(I)Z"⟩, 34) := ⟨⟨by decide +kernel, by decide +kernel⟩, List.mem_of_getElem? (i := 684) (by decide +kernel), List.mem_of_getElem? (i := 994) (by decide +kernel), List.mem_of_getElem? (i := 995) (by decide +kernel)⟩
theorem lw_p56 : lw_okq (⟨"PackageModulesModel", "loaderOf", "(II)I"⟩, 34) := ⟨⟨by decide +kernel, by decide +kernel⟩, List.mem_of_getElem? (i := 684) (by decide +kernel), List.mem_of_getElem? (i := 998) (by decide +kernel), List.mem_of_getElem? (i := 999) (by decide +kernel)⟩
def lw_privs_4 : List (MethodName × Nat) := [(⟨"PackageModulesModel", "isProviding", "(II)Z"⟩, 34), (⟨"PackageModulesModel", "isUnit", "(I)Z"⟩, 34), (⟨"PackageModulesModel", "importRule", "(IIII)I"⟩, 34), (⟨"PackageModulesModel", "home", "(I)I"⟩, 34), (⟨"PackageModulesModel", "usable", "(IIII)I"⟩, 34), (⟨"PackageModulesModel", "byPacks", "(II)I"⟩, 34), (⟨"PackageModulesModel", "byImports", "(IIII)I"⟩, 34), (⟨"PackageModulesModel", "isLayer", "(I)Z"⟩, 34), (⟨"PackageModulesModel", "loaderOf", "(II)I"⟩, 34)]
theorem lw_r4 : ∀ q ∈ lw_privs_4, lw_okq q := List.forall_mem_cons.mpr ⟨lw_p48, List.forall_mem_cons.mpr ⟨lw_p49, List.forall_mem_cons.mpr ⟨lw_p50, List.forall_mem_cons.mpr ⟨lw_p51, List.forall_mem_cons.mpr ⟨lw_p52, List.forall_mem_cons.mpr ⟨lw_p53, List.forall_mem_cons.mpr ⟨lw_p54, List.forall_mem_cons.mpr ⟨lw_p55, List.forall_mem_cons.mpr ⟨lw_p56, fun _ h => absurd h List.not_mem_nil⟩⟩⟩⟩⟩⟩⟩⟩⟩
def lw_privs : List (MethodName × Nat) := lw_privs_1 ++ (lw_privs_2 ++ (lw_privs_3 ++ (lw_privs_4)))
def lw_tbl : List Cond := k2_sels lw_privs ++ tables_1
theorem lw_privs_ok : ∀ q ∈ lw_privs, lw_okq q := by
  show ∀ q ∈ lw_privs_1 ++ (lw_privs_2 ++ (lw_privs_3 ++ (lw_privs_4))), lw_okq q
  exact List.forall_mem_append.mpr ⟨lw_r1, List.forall_mem_append.mpr ⟨lw_r2, List.forall_mem_append.mpr ⟨lw_r3, lw_r4⟩⟩⟩
end
section
/-! names: a part of what TURN printed (NAMES.whole), and the tables of the small machine; laid by wip/whole/gen_tables.py -/
def RX0 : String := "PackageModules$Layers"
def TX0 : u_T := fun k => match k with
  | 0 => ("PackageModules$Layers", "size", "I", false)
  | 1 => ("PackageModules$Layers", "parents", "[I", true)
  | _ => ("PackageModules$Layers", "sets", "[I", true)
def tyX0 : Nat → FieldType := fun k => match k with
  | 0 => .int
  | 1 => .array .int
  | _ => .array .int
theorem nmX0 : ∀ a, a < 3 → ∀ b, b < 3 → a ≠ b → (TX0 a).2.1 ≠ (TX0 b).2.1 := by decide +kernel
theorem tyX0_ok : ∀ k, k < 3 → parseFieldDescriptor (TX0 k).2.2.1 = some (tyX0 k) := by decide +kernel
abbrev cX0_init : ByteArray := prog_2_method_1_code
def yX0_init : MethodName := ⟨RX0, "<init>", "()V"⟩
abbrev cX0_holds : ByteArray := prog_2_method_2_code
def yX0_holds : MethodName := ⟨RX0, "holds", "(I)Z"⟩
abbrev cX0_isFull : ByteArray := prog_2_method_3_code
def yX0_isFull : MethodName := ⟨RX0, "isFull", "()Z"⟩
abbrev cX0_add : ByteArray := prog_2_method_4_code
def yX0_add : MethodName := ⟨RX0, "add", "(II)I"⟩
abbrev cX0_knownTo : ByteArray := prog_2_method_5_code
def yX0_knownTo : MethodName := ⟨RX0, "knownTo", "(I)I"⟩
abbrev cX0_homeOf : ByteArray := prog_2_method_6_code
def yX0_homeOf : MethodName := ⟨RX0, "homeOf", "(II)I"⟩
def RX1 : String := "PackageModules$Members"
def TX1 : u_T := fun k => match k with
  | 0 => ("PackageModules$Members", "size", "I", false)
  | 1 => ("PackageModules$Members", "types", "[I", true)
  | 2 => ("PackageModules$Members", "names", "[I", true)
  | 3 => ("PackageModules$Members", "kinds", "[I", true)
  | 4 => ("PackageModules$Members", "opens", "[Z", true)
  | _ => ("PackageModules$Members", "given", "[I", true)
def tyX1 : Nat → FieldType := fun k => match k with
  | 0 => .int
  | 1 => .array .int
  | 2 => .array .int
  | 3 => .array .int
  | 4 => .array .boolean
  | _ => .array .int
theorem nmX1 : ∀ a, a < 6 → ∀ b, b < 6 → a ≠ b → (TX1 a).2.1 ≠ (TX1 b).2.1 := by decide +kernel
theorem tyX1_ok : ∀ k, k < 6 → parseFieldDescriptor (TX1 k).2.2.1 = some (tyX1 k) := by decide +kernel
abbrev cX1_init : ByteArray := prog_3_method_1_code
def yX1_init : MethodName := ⟨RX1, "<init>", "()V"⟩
abbrev cX1_add : ByteArray := prog_3_method_2_code
def yX1_add : MethodName := ⟨RX1, "add", "(IIIZI)I"⟩
abbrev cX1_find : ByteArray := prog_3_method_3_code
def yX1_find : MethodName := ⟨RX1, "find", "(III)I"⟩
abbrev cX1_typeOf : ByteArray := prog_3_method_4_code
def yX1_typeOf : MethodName := ⟨RX1, "typeOf", "(I)I"⟩
abbrev cX1_isOpen : ByteArray := prog_3_method_5_code
def yX1_isOpen : MethodName := ⟨RX1, "isOpen", "(I)Z"⟩
abbrev cX1_givenBy : ByteArray := prog_3_method_6_code
def yX1_givenBy : MethodName := ⟨RX1, "givenBy", "(I)I"⟩
def RX2 : String := "PackageModules$Modules"
def TX2 : u_T := fun k => match k with
  | 0 => ("PackageModules$Modules", "size", "I", false)
  | 1 => ("PackageModules$Modules", "needs", "[I", true)
  | 2 => ("PackageModules$Modules", "passes", "[I", true)
  | 3 => ("PackageModules$Modules", "runNeeds", "[I", true)
  | _ => ("PackageModules$Modules", "runPasses", "[I", true)
def tyX2 : Nat → FieldType := fun k => match k with
  | 0 => .int
  | 1 => .array .int
  | 2 => .array .int
  | 3 => .array .int
  | _ => .array .int
theorem nmX2 : ∀ a, a < 5 → ∀ b, b < 5 → a ≠ b → (TX2 a).2.1 ≠ (TX2 b).2.1 := by decide +kernel
theorem tyX2_ok : ∀ k, k < 5 → parseFieldDescriptor (TX2 k).2.2.1 = some (tyX2 k) := by decide +kernel
abbrev cX2_init : ByteArray := prog_4_method_1_code
def yX2_init : MethodName := ⟨RX2, "<init>", "()V"⟩
abbrev cX2_holds : ByteArray := prog_4_method_2_code
def yX2_holds : MethodName := ⟨RX2, "holds", "(I)Z"⟩
abbrev cX2_add : ByteArray := prog_4_method_3_code
def yX2_add : MethodName := ⟨RX2, "add", "()I"⟩
abbrev cX2_join : ByteArray := prog_4_method_4_code
def yX2_join : MethodName := ⟨RX2, "join", "(III)V"⟩
abbrev cX2_needsAlready : ByteArray := prog_4_method_5_code
def yX2_needsAlready : MethodName := ⟨RX2, "needsAlready", "(II)Z"⟩
abbrev cX2_reaches : ByteArray := prog_4_method_6_code
def yX2_reaches : MethodName := ⟨RX2, "reaches", "(II)Z"⟩
abbrev cX2_readBy : ByteArray := prog_4_method_7_code
def yX2_readBy : MethodName := ⟨RX2, "readBy", "(IZ)I"⟩
abbrev cX2_neededAtRun : ByteArray := prog_4_method_8_code
def yX2_neededAtRun : MethodName := ⟨RX2, "neededAtRun", "(I)I"⟩
abbrev cX2_closed : ByteArray := prog_4_method_9_code
def yX2_closed : MethodName := ⟨RX2, "closed", "(I[I)I"⟩
def RX3 : String := "PackageModules$Packs"
def TX3 : u_T := fun k => match k with
  | 0 => ("PackageModules$Packs", "size", "I", false)
  | 1 => ("PackageModules$Packs", "owners", "[I", true)
  | 2 => ("PackageModules$Packs", "names", "[I", true)
  | 3 => ("PackageModules$Packs", "exported", "[I", true)
  | _ => ("PackageModules$Packs", "opened", "[I", true)
def tyX3 : Nat → FieldType := fun k => match k with
  | 0 => .int
  | 1 => .array .int
  | 2 => .array .int
  | 3 => .array .int
  | _ => .array .int
theorem nmX3 : ∀ a, a < 5 → ∀ b, b < 5 → a ≠ b → (TX3 a).2.1 ≠ (TX3 b).2.1 := by decide +kernel
theorem tyX3_ok : ∀ k, k < 5 → parseFieldDescriptor (TX3 k).2.2.1 = some (tyX3 k) := by decide +kernel
abbrev cX3_init : ByteArray := prog_5_method_1_code
def yX3_init : MethodName := ⟨RX3, "<init>", "()V"⟩
abbrev cX3_holds : ByteArray := prog_5_method_2_code
def yX3_holds : MethodName := ⟨RX3, "holds", "(I)Z"⟩
abbrev cX3_add : ByteArray := prog_5_method_3_code
def yX3_add : MethodName := ⟨RX3, "add", "(II)I"⟩
abbrev cX3_find : ByteArray := prog_5_method_4_code
def yX3_find : MethodName := ⟨RX3, "find", "(II)I"⟩
abbrev cX3_ownerOf : ByteArray := prog_5_method_5_code
def yX3_ownerOf : MethodName := ⟨RX3, "ownerOf", "(I)I"⟩
abbrev cX3_nameOf : ByteArray := prog_5_method_6_code
def yX3_nameOf : MethodName := ⟨RX3, "nameOf", "(I)I"⟩
abbrev cX3_isTold : ByteArray := prog_5_method_7_code
def yX3_isTold : MethodName := ⟨RX3, "isTold", "(IIZ)Z"⟩
abbrev cX3_tell : ByteArray := prog_5_method_8_code
def yX3_tell : MethodName := ⟨RX3, "tell", "(IIZ)V"⟩
abbrev cX3_isExportedTo : ByteArray := prog_5_method_9_code
def yX3_isExportedTo : MethodName := ⟨RX3, "isExportedTo", "(II)Z"⟩
abbrev cX3_isOpenedTo : ByteArray := prog_5_method_10_code
def yX3_isOpenedTo : MethodName := ⟨RX3, "isOpenedTo", "(II)Z"⟩
abbrev cX3_isSeenBy : ByteArray := prog_5_method_11_code
def yX3_isSeenBy : MethodName := ⟨RX3, "isSeenBy", "(III)Z"⟩
abbrev cX3_bitOf : ByteArray := prog_5_method_12_code
def yX3_bitOf : MethodName := ⟨RX3, "bitOf", "(I)I"⟩
def RX4 : String := "PackageModules$Services"
def TX4 : u_T := fun k => match k with
  | 0 => ("PackageModules$Services", "size", "I", false)
  | 1 => ("PackageModules$Services", "used", "[J", true)
  | 2 => ("PackageModules$Services", "provided", "[I", false)
  | _ => ("PackageModules$Services", "places", "[I", false)
def tyX4 : Nat → FieldType := fun k => match k with
  | 0 => .int
  | 1 => .array .long
  | 2 => .array .int
  | _ => .array .int
theorem nmX4 : ∀ a, a < 4 → ∀ b, b < 4 → a ≠ b → (TX4 a).2.1 ≠ (TX4 b).2.1 := by decide +kernel
theorem tyX4_ok : ∀ k, k < 4 → parseFieldDescriptor (TX4 k).2.2.1 = some (tyX4 k) := by decide +kernel
abbrev cX4_init : ByteArray := prog_6_method_1_code
def yX4_init : MethodName := ⟨RX4, "<init>", "()V"⟩
abbrev cX4_isUsed : ByteArray := prog_6_method_2_code
def yX4_isUsed : MethodName := ⟨RX4, "isUsed", "(II)Z"⟩
abbrev cX4_use : ByteArray := prog_6_method_3_code
def yX4_use : MethodName := ⟨RX4, "use", "(II)V"⟩
abbrev cX4_usedBy : ByteArray := prog_6_method_4_code
def yX4_usedBy : MethodName := ⟨RX4, "usedBy", "(I)J"⟩
abbrev cX4_provide : ByteArray := prog_6_method_5_code
def yX4_provide : MethodName := ⟨RX4, "provide", "(II)V"⟩
abbrev cX4_isProvided : ByteArray := prog_6_method_6_code
def yX4_isProvided : MethodName := ⟨RX4, "isProvided", "(II)Z"⟩
abbrev cX4_serviceAt : ByteArray := prog_6_method_7_code
def yX4_serviceAt : MethodName := ⟨RX4, "serviceAt", "(I)I"⟩
abbrev cX4_typeAt : ByteArray := prog_6_method_8_code
def yX4_typeAt : MethodName := ⟨RX4, "typeAt", "(I)I"⟩
def RX5 : String := "PackageModules$Types"
def TX5 : u_T := fun k => match k with
  | 0 => ("PackageModules$Types", "size", "I", false)
  | 1 => ("PackageModules$Types", "packs", "[I", true)
  | 2 => ("PackageModules$Types", "names", "[I", true)
  | 3 => ("PackageModules$Types", "kinds", "[I", true)
  | 4 => ("PackageModules$Types", "flags", "[I", true)
  | _ => ("PackageModules$Types", "parents", "[I", true)
def tyX5 : Nat → FieldType := fun k => match k with
  | 0 => .int
  | 1 => .array .int
  | 2 => .array .int
  | 3 => .array .int
  | 4 => .array .int
  | _ => .array .int
theorem nmX5 : ∀ a, a < 6 → ∀ b, b < 6 → a ≠ b → (TX5 a).2.1 ≠ (TX5 b).2.1 := by decide +kernel
theorem tyX5_ok : ∀ k, k < 6 → parseFieldDescriptor (TX5 k).2.2.1 = some (tyX5 k) := by decide +kernel
abbrev cX5_init : ByteArray := prog_7_method_1_code
def yX5_init : MethodName := ⟨RX5, "<init>", "()V"⟩
abbrev cX5_holds : ByteArray := prog_7_method_2_code
def yX5_holds : MethodName := ⟨RX5, "holds", "(I)Z"⟩
abbrev cX5_add : ByteArray := prog_7_method_3_code
def yX5_add : MethodName := ⟨RX5, "add", "(IIIII)I"⟩
abbrev cX5_find : ByteArray := prog_7_method_4_code
def yX5_find : MethodName := ⟨RX5, "find", "(II)I"⟩
abbrev cX5_anyIn : ByteArray := prog_7_method_5_code
def yX5_anyIn : MethodName := ⟨RX5, "anyIn", "(I)Z"⟩
abbrev cX5_packOf : ByteArray := prog_7_method_6_code
def yX5_packOf : MethodName := ⟨RX5, "packOf", "(I)I"⟩
abbrev cX5_nameOf : ByteArray := prog_7_method_7_code
def yX5_nameOf : MethodName := ⟨RX5, "nameOf", "(I)I"⟩
abbrev cX5_kindOf : ByteArray := prog_7_method_8_code
def yX5_kindOf : MethodName := ⟨RX5, "kindOf", "(I)I"⟩
abbrev cX5_parentOf : ByteArray := prog_7_method_9_code
def yX5_parentOf : MethodName := ⟨RX5, "parentOf", "(I)I"⟩
abbrev cX5_isOpen : ByteArray := prog_7_method_10_code
def yX5_isOpen : MethodName := ⟨RX5, "isOpen", "(I)Z"⟩
abbrev cX5_hasMaker : ByteArray := prog_7_method_11_code
def yX5_hasMaker : MethodName := ⟨RX5, "hasMaker", "(I)Z"⟩
abbrev cX5_isSubtype : ByteArray := prog_7_method_12_code
def yX5_isSubtype : MethodName := ⟨RX5, "isSubtype", "(II)Z"⟩
def RX6 : String := "PackageModules$Units"
def TX6 : u_T := fun k => match k with
  | 0 => ("PackageModules$Units", "size", "I", false)
  | 1 => ("PackageModules$Units", "packs", "[I", true)
  | 2 => ("PackageModules$Units", "sizes", "[I", true)
  | 3 => ("PackageModules$Units", "kinds", "[I", true)
  | 4 => ("PackageModules$Units", "whats", "[I", true)
  | _ => ("PackageModules$Units", "names", "[I", true)
def tyX6 : Nat → FieldType := fun k => match k with
  | 0 => .int
  | 1 => .array .int
  | 2 => .array .int
  | 3 => .array .int
  | 4 => .array .int
  | _ => .array .int
theorem nmX6 : ∀ a, a < 6 → ∀ b, b < 6 → a ≠ b → (TX6 a).2.1 ≠ (TX6 b).2.1 := by decide +kernel
theorem tyX6_ok : ∀ k, k < 6 → parseFieldDescriptor (TX6 k).2.2.1 = some (tyX6 k) := by decide +kernel
abbrev cX6_init : ByteArray := prog_8_method_1_code
def yX6_init : MethodName := ⟨RX6, "<init>", "()V"⟩
abbrev cX6_holds : ByteArray := prog_8_method_2_code
def yX6_holds : MethodName := ⟨RX6, "holds", "(I)Z"⟩
abbrev cX6_add : ByteArray := prog_8_method_3_code
def yX6_add : MethodName := ⟨RX6, "add", "(I)I"⟩
abbrev cX6_packOf : ByteArray := prog_8_method_4_code
def yX6_packOf : MethodName := ⟨RX6, "packOf", "(I)I"⟩
abbrev cX6_importsOf : ByteArray := prog_8_method_5_code
def yX6_importsOf : MethodName := ⟨RX6, "importsOf", "(I)I"⟩
abbrev cX6_isFull : ByteArray := prog_8_method_6_code
def yX6_isFull : MethodName := ⟨RX6, "isFull", "(I)Z"⟩
abbrev cX6_addImport : ByteArray := prog_8_method_7_code
def yX6_addImport : MethodName := ⟨RX6, "addImport", "(IIII)I"⟩
abbrev cX6_kindAt : ByteArray := prog_8_method_8_code
def yX6_kindAt : MethodName := ⟨RX6, "kindAt", "(II)I"⟩
abbrev cX6_whatAt : ByteArray := prog_8_method_9_code
def yX6_whatAt : MethodName := ⟨RX6, "whatAt", "(II)I"⟩
abbrev cX6_nameAt : ByteArray := prog_8_method_10_code
def yX6_nameAt : MethodName := ⟨RX6, "nameAt", "(II)I"⟩
abbrev cX6_hasImport : ByteArray := prog_8_method_11_code
def yX6_hasImport : MethodName := ⟨RX6, "hasImport", "(IIII)Z"⟩
def RX7 : String := "PackageModules"
def TX7 : u_T := fun k => match k with
  | 0 => ("PackageModules", "modules", "LPackageModules$Modules;", true)
  | 1 => ("PackageModules", "packs", "LPackageModules$Packs;", true)
  | 2 => ("PackageModules", "types", "LPackageModules$Types;", true)
  | 3 => ("PackageModules", "members", "LPackageModules$Members;", true)
  | 4 => ("PackageModules", "units", "LPackageModules$Units;", true)
  | 5 => ("PackageModules", "services", "LPackageModules$Services;", true)
  | _ => ("PackageModules", "layers", "LPackageModules$Layers;", true)
def tyX7 : Nat → FieldType := fun k => match k with
  | 0 => .object "PackageModules$Modules"
  | 1 => .object "PackageModules$Packs"
  | 2 => .object "PackageModules$Types"
  | 3 => .object "PackageModules$Members"
  | 4 => .object "PackageModules$Units"
  | 5 => .object "PackageModules$Services"
  | _ => .object "PackageModules$Layers"
theorem nmX7 : ∀ a, a < 7 → ∀ b, b < 7 → a ≠ b → (TX7 a).2.1 ≠ (TX7 b).2.1 := by decide +kernel
theorem tyX7_ok : ∀ k, k < 7 → parseFieldDescriptor (TX7 k).2.2.1 = some (tyX7 k) := by decide +kernel
abbrev cX7_init : ByteArray := prog_1_method_1_code
def yX7_init : MethodName := ⟨RX7, "<init>", "()V"⟩
abbrev cX7_module : ByteArray := prog_1_method_2_code
def yX7_module : MethodName := ⟨RX7, "module", "()I"⟩
abbrev cX7_pack : ByteArray := prog_1_method_3_code
def yX7_pack : MethodName := ⟨RX7, "pack", "(II)I"⟩
abbrev cX7_type : ByteArray := prog_1_method_4_code
def yX7_type : MethodName := ⟨RX7, "type", "(IIIII)I"⟩
abbrev cX7_member : ByteArray := prog_1_method_5_code
def yX7_member : MethodName := ⟨RX7, "member", "(IIIZI)I"⟩
abbrev cX7_requires : ByteArray := prog_1_method_6_code
def yX7_requires : MethodName := ⟨RX7, "requires", "(III)I"⟩
abbrev cX7_exports : ByteArray := prog_1_method_7_code
def yX7_exports : MethodName := ⟨RX7, "exports", "(IIZ)I"⟩
abbrev cX7_uses : ByteArray := prog_1_method_8_code
def yX7_uses : MethodName := ⟨RX7, "uses", "(II)I"⟩
abbrev cX7_provides : ByteArray := prog_1_method_9_code
def yX7_provides : MethodName := ⟨RX7, "provides", "(III)I"⟩
abbrev cX7_reads : ByteArray := prog_1_method_10_code
def yX7_reads : MethodName := ⟨RX7, "reads", "(IIZ)I"⟩
abbrev cX7_sees : ByteArray := prog_1_method_11_code
def yX7_sees : MethodName := ⟨RX7, "sees", "(IIZ)I"⟩
abbrev cX7_looks : ByteArray := prog_1_method_12_code
def yX7_looks : MethodName := ⟨RX7, "looks", "(II)I"⟩
abbrev cX7_split : ByteArray := prog_1_method_13_code
def yX7_split : MethodName := ⟨RX7, "split", "(I)I"⟩
abbrev cX7_unit : ByteArray := prog_1_method_14_code
def yX7_unit : MethodName := ⟨RX7, "unit", "(I)I"⟩
abbrev cX7_imports : ByteArray := prog_1_method_15_code
def yX7_imports : MethodName := ⟨RX7, "imports", "(IIII)I"⟩
abbrev cX7_meaning : ByteArray := prog_1_method_16_code
def yX7_meaning : MethodName := ⟨RX7, "meaning", "(II)I"⟩
abbrev cX7_memberOf : ByteArray := prog_1_method_17_code
def yX7_memberOf : MethodName := ⟨RX7, "memberOf", "(III)I"⟩
abbrev cX7_graph : ByteArray := prog_1_method_18_code
def yX7_graph : MethodName := ⟨RX7, "graph", "(IZ)I"⟩
abbrev cX7_has : ByteArray := prog_1_method_19_code
def yX7_has : MethodName := ⟨RX7, "has", "(IZI)I"⟩
abbrev cX7_provider : ByteArray := prog_1_method_20_code
def yX7_provider : MethodName := ⟨RX7, "provider", "(III)I"⟩
abbrev cX7_layer : ByteArray := prog_1_method_21_code
def yX7_layer : MethodName := ⟨RX7, "layer", "(IIZ)I"⟩
abbrev cX7_loader : ByteArray := prog_1_method_22_code
def yX7_loader : MethodName := ⟨RX7, "loader", "(II)I"⟩
abbrev cX7_finds : ByteArray := prog_1_method_23_code
def yX7_finds : MethodName := ⟨RX7, "finds", "(IIII)I"⟩
abbrev cX7_count : ByteArray := prog_1_method_24_code
def yX7_count : MethodName := ⟨RX7, "count", "(I)I"⟩
abbrev cX7_within : ByteArray := prog_1_method_25_code
def yX7_within : MethodName := ⟨RX7, "within", "(II)Z"⟩
abbrev cX7_isName : ByteArray := prog_1_method_26_code
def yX7_isName : MethodName := ⟨RX7, "isName", "(I)Z"⟩
abbrev cX7_hasBit : ByteArray := prog_1_method_27_code
def yX7_hasBit : MethodName := ⟨RX7, "hasBit", "(II)Z"⟩
abbrev cX7_broken : ByteArray := prog_1_method_28_code
def yX7_broken : MethodName := ⟨RX7, "broken", "(I)I"⟩
abbrev cX7_asAnswer : ByteArray := prog_1_method_29_code
def yX7_asAnswer : MethodName := ⟨RX7, "asAnswer", "(Z)I"⟩
abbrev cX7_isTypeOrNone : ByteArray := prog_1_method_30_code
def yX7_isTypeOrNone : MethodName := ⟨RX7, "isTypeOrNone", "(I)Z"⟩
abbrev cX7_ownerOfType : ByteArray := prog_1_method_31_code
def yX7_ownerOfType : MethodName := ⟨RX7, "ownerOfType", "(I)I"⟩
abbrev cX7_ownerOfUnit : ByteArray := prog_1_method_32_code
def yX7_ownerOfUnit : MethodName := ⟨RX7, "ownerOfUnit", "(I)I"⟩
abbrev cX7_isPackSeen : ByteArray := prog_1_method_33_code
def yX7_isPackSeen : MethodName := ⟨RX7, "isPackSeen", "(II)Z"⟩
abbrev cX7_isTypeSeen : ByteArray := prog_1_method_34_code
def yX7_isTypeSeen : MethodName := ⟨RX7, "isTypeSeen", "(II)Z"⟩
abbrev cX7_leastSplitName : ByteArray := prog_1_method_35_code
def yX7_leastSplitName : MethodName := ⟨RX7, "leastSplitName", "(I)I"⟩
abbrev cX7_anySplit : ByteArray := prog_1_method_36_code
def yX7_anySplit : MethodName := ⟨RX7, "anySplit", "(I)Z"⟩
abbrev cX7_isImport : ByteArray := prog_1_method_37_code
def yX7_isImport : MethodName := ⟨RX7, "isImport", "(III)Z"⟩
abbrev cX7_importRule : ByteArray := prog_1_method_38_code
def yX7_importRule : MethodName := ⟨RX7, "importRule", "(IIII)I"⟩
abbrev cX7_isPackNameSeen : ByteArray := prog_1_method_39_code
def yX7_isPackNameSeen : MethodName := ⟨RX7, "isPackNameSeen", "(II)Z"⟩
abbrev cX7_importsRival : ByteArray := prog_1_method_40_code
def yX7_importsRival : MethodName := ⟨RX7, "importsRival", "(II)Z"⟩
abbrev cX7_hasUsableMember : ByteArray := prog_1_method_41_code
def yX7_hasUsableMember : MethodName := ⟨RX7, "hasUsableMember", "(III)Z"⟩
abbrev cX7_usableMember : ByteArray := prog_1_method_42_code
def yX7_usableMember : MethodName := ⟨RX7, "usableMember", "(IIII)I"⟩
abbrev cX7_nearestMember : ByteArray := prog_1_method_43_code
def yX7_nearestMember : MethodName := ⟨RX7, "nearestMember", "(III)I"⟩
abbrev cX7_singlyImportedType : ByteArray := prog_1_method_44_code
def yX7_singlyImportedType : MethodName := ⟨RX7, "singlyImportedType", "(II)I"⟩
abbrev cX7_widelyImportedType : ByteArray := prog_1_method_45_code
def yX7_widelyImportedType : MethodName := ⟨RX7, "widelyImportedType", "(II)I"⟩
abbrev cX7_isWidelyImported : ByteArray := prog_1_method_46_code
def yX7_isWidelyImported : MethodName := ⟨RX7, "isWidelyImported", "(II)Z"⟩
abbrev cX7_importedMember : ByteArray := prog_1_method_47_code
def yX7_importedMember : MethodName := ⟨RX7, "importedMember", "(IIII)I"⟩
abbrev cX7_memberByImport : ByteArray := prog_1_method_48_code
def yX7_memberByImport : MethodName := ⟨RX7, "memberByImport", "(IIIII)I"⟩
abbrev cX7_provideRule : ByteArray := prog_1_method_49_code
def yX7_provideRule : MethodName := ⟨RX7, "provideRule", "(III)I"⟩
abbrev cX7_giverRule : ByteArray := prog_1_method_50_code
def yX7_giverRule : MethodName := ⟨RX7, "giverRule", "(II)I"⟩
abbrev cX7_makerRule : ByteArray := prog_1_method_51_code
def yX7_makerRule : MethodName := ⟨RX7, "makerRule", "(II)I"⟩
abbrev cX7_graphOf : ByteArray := prog_1_method_52_code
def yX7_graphOf : MethodName := ⟨RX7, "graphOf", "(IZ)I"⟩
abbrev cX7_providersFor : ByteArray := prog_1_method_53_code
def yX7_providersFor : MethodName := ⟨RX7, "providersFor", "(I)I"⟩
abbrev cX7_providerAt : ByteArray := prog_1_method_54_code
def yX7_providerAt : MethodName := ⟨RX7, "providerAt", "(III)I"⟩
abbrev cX7_foundPack : ByteArray := prog_1_method_55_code
def yX7_foundPack : MethodName := ⟨RX7, "foundPack", "(III)I"⟩
def RX8 : String := "PackageModulesModel"
def TX8 : u_T := fun k => match k with
  | 0 => ("PackageModulesModel", "modules", "I", false)
  | 1 => ("PackageModulesModel", "required", "[I", true)
  | 2 => ("PackageModulesModel", "packs", "I", false)
  | 3 => ("PackageModulesModel", "packModule", "[I", true)
  | 4 => ("PackageModulesModel", "packName", "[I", true)
  | 5 => ("PackageModulesModel", "exported", "[Z", true)
  | 6 => ("PackageModulesModel", "opened", "[Z", true)
  | 7 => ("PackageModulesModel", "types", "I", false)
  | 8 => ("PackageModulesModel", "typePack", "[I", true)
  | 9 => ("PackageModulesModel", "typeName", "[I", true)
  | 10 => ("PackageModulesModel", "typeKind", "[I", true)
  | 11 => ("PackageModulesModel", "typeFlags", "[I", true)
  | 12 => ("PackageModulesModel", "typeParent", "[I", true)
  | 13 => ("PackageModulesModel", "members", "I", false)
  | 14 => ("PackageModulesModel", "memberType", "[I", true)
  | 15 => ("PackageModulesModel", "memberName", "[I", true)
  | 16 => ("PackageModulesModel", "memberKind", "[I", true)
  | 17 => ("PackageModulesModel", "memberOpen", "[Z", true)
  | 18 => ("PackageModulesModel", "memberGives", "[I", true)
  | 19 => ("PackageModulesModel", "units", "I", false)
  | 20 => ("PackageModulesModel", "unitPack", "[I", true)
  | 21 => ("PackageModulesModel", "importMany", "[I", true)
  | 22 => ("PackageModulesModel", "importKind", "[I", true)
  | 23 => ("PackageModulesModel", "importWhat", "[I", true)
  | 24 => ("PackageModulesModel", "importName", "[I", true)
  | 25 => ("PackageModulesModel", "used", "[Z", true)
  | 26 => ("PackageModulesModel", "provisions", "I", false)
  | 27 => ("PackageModulesModel", "provideModule", "[I", true)
  | 28 => ("PackageModulesModel", "provideService", "[I", true)
  | 29 => ("PackageModulesModel", "provideType", "[I", true)
  | 30 => ("PackageModulesModel", "layers", "I", false)
  | 31 => ("PackageModulesModel", "layerParent", "[I", true)
  | 32 => ("PackageModulesModel", "layerHas", "[Z", true)
  | _ => ("PackageModulesModel", "come", "[Z", true)
def tyX8 : Nat → FieldType := fun k => match k with
  | 0 => .int
  | 1 => .array .int
  | 2 => .int
  | 3 => .array .int
  | 4 => .array .int
  | 5 => .array .boolean
  | 6 => .array .boolean
  | 7 => .int
  | 8 => .array .int
  | 9 => .array .int
  | 10 => .array .int
  | 11 => .array .int
  | 12 => .array .int
  | 13 => .int
  | 14 => .array .int
  | 15 => .array .int
  | 16 => .array .int
  | 17 => .array .boolean
  | 18 => .array .int
  | 19 => .int
  | 20 => .array .int
  | 21 => .array .int
  | 22 => .array .int
  | 23 => .array .int
  | 24 => .array .int
  | 25 => .array .boolean
  | 26 => .int
  | 27 => .array .int
  | 28 => .array .int
  | 29 => .array .int
  | 30 => .int
  | 31 => .array .int
  | 32 => .array .boolean
  | _ => .array .boolean
theorem nmX8 : ∀ a, a < 34 → ∀ b, b < 34 → a ≠ b → (TX8 a).2.1 ≠ (TX8 b).2.1 := by decide +kernel
theorem tyX8_ok : ∀ k, k < 34 → parseFieldDescriptor (TX8 k).2.2.1 = some (tyX8 k) := by decide +kernel
abbrev cX8_init : ByteArray := prog_10_method_1_code
def yX8_init : MethodName := ⟨RX8, "<init>", "()V"⟩
abbrev cX8_in : ByteArray := prog_10_method_3_code
def yX8_in : MethodName := ⟨RX8, "in", "(III)Z"⟩
abbrev cX8_broken : ByteArray := prog_10_method_4_code
def yX8_broken : MethodName := ⟨RX8, "broken", "(I)I"⟩
abbrev cX8_isModule : ByteArray := prog_10_method_5_code
def yX8_isModule : MethodName := ⟨RX8, "isModule", "(I)Z"⟩
abbrev cX8_isPack : ByteArray := prog_10_method_6_code
def yX8_isPack : MethodName := ⟨RX8, "isPack", "(I)Z"⟩
abbrev cX8_isType : ByteArray := prog_10_method_7_code
def yX8_isType : MethodName := ⟨RX8, "isType", "(I)Z"⟩
abbrev cX8_isUnit : ByteArray := prog_10_method_8_code
def yX8_isUnit : MethodName := ⟨RX8, "isUnit", "(I)Z"⟩
abbrev cX8_isName : ByteArray := prog_10_method_9_code
def yX8_isName : MethodName := ⟨RX8, "isName", "(I)Z"⟩
abbrev cX8_module : ByteArray := prog_10_method_10_code
def yX8_module : MethodName := ⟨RX8, "module", "()I"⟩
abbrev cX8_packOf : ByteArray := prog_10_method_11_code
def yX8_packOf : MethodName := ⟨RX8, "packOf", "(II)I"⟩
abbrev cX8_typeOf : ByteArray := prog_10_method_12_code
def yX8_typeOf : MethodName := ⟨RX8, "typeOf", "(II)I"⟩
abbrev cX8_ownMember : ByteArray := prog_10_method_13_code
def yX8_ownMember : MethodName := ⟨RX8, "ownMember", "(III)I"⟩
abbrev cX8_pack : ByteArray := prog_10_method_14_code
def yX8_pack : MethodName := ⟨RX8, "pack", "(II)I"⟩
abbrev cX8_type : ByteArray := prog_10_method_15_code
def yX8_type : MethodName := ⟨RX8, "type", "(IIIII)I"⟩
abbrev cX8_member : ByteArray := prog_10_method_16_code
def yX8_member : MethodName := ⟨RX8, "member", "(IIIZI)I"⟩
abbrev cX8_isOpen : ByteArray := prog_10_method_17_code
def yX8_isOpen : MethodName := ⟨RX8, "isOpen", "(I)Z"⟩
abbrev cX8_moduleOf : ByteArray := prog_10_method_18_code
def yX8_moduleOf : MethodName := ⟨RX8, "moduleOf", "(I)I"⟩
abbrev cX8_isSubtype : ByteArray := prog_10_method_19_code
def yX8_isSubtype : MethodName := ⟨RX8, "isSubtype", "(II)Z"⟩
abbrev cX8_clear : ByteArray := prog_10_method_20_code
def yX8_clear : MethodName := ⟨RX8, "clear", "()V"⟩
abbrev cX8_isEdge : ByteArray := prog_10_method_21_code
def yX8_isEdge : MethodName := ⟨RX8, "isEdge", "(IIZZ)Z"⟩
abbrev cX8_goesOn : ByteArray := prog_10_method_22_code
def yX8_goesOn : MethodName := ⟨RX8, "goesOn", "(ZZI)Z"⟩
abbrev cX8_read : ByteArray := prog_10_method_23_code
def yX8_read : MethodName := ⟨RX8, "read", "(IZ)V"⟩
abbrev cX8_requires : ByteArray := prog_10_method_24_code
def yX8_requires : MethodName := ⟨RX8, "requires", "(III)I"⟩
abbrev cX8_exports : ByteArray := prog_10_method_25_code
def yX8_exports : MethodName := ⟨RX8, "exports", "(IIZ)I"⟩
abbrev cX8_isExported : ByteArray := prog_10_method_26_code
def yX8_isExported : MethodName := ⟨RX8, "isExported", "(II)Z"⟩
abbrev cX8_seesPack : ByteArray := prog_10_method_27_code
def yX8_seesPack : MethodName := ⟨RX8, "seesPack", "(II)Z"⟩
abbrev cX8_seesType : ByteArray := prog_10_method_28_code
def yX8_seesType : MethodName := ⟨RX8, "seesType", "(II)Z"⟩
abbrev cX8_reads : ByteArray := prog_10_method_29_code
def yX8_reads : MethodName := ⟨RX8, "reads", "(IIZ)I"⟩
abbrev cX8_sees : ByteArray := prog_10_method_30_code
def yX8_sees : MethodName := ⟨RX8, "sees", "(IIZ)I"⟩
abbrev cX8_looks : ByteArray := prog_10_method_31_code
def yX8_looks : MethodName := ⟨RX8, "looks", "(II)I"⟩
abbrev cX8_splitOf : ByteArray := prog_10_method_32_code
def yX8_splitOf : MethodName := ⟨RX8, "splitOf", "(I)I"⟩
abbrev cX8_split : ByteArray := prog_10_method_33_code
def yX8_split : MethodName := ⟨RX8, "split", "(I)I"⟩
abbrev cX8_uses : ByteArray := prog_10_method_34_code
def yX8_uses : MethodName := ⟨RX8, "uses", "(II)I"⟩
abbrev cX8_provideRule : ByteArray := prog_10_method_35_code
def yX8_provideRule : MethodName := ⟨RX8, "provideRule", "(III)I"⟩
abbrev cX8_provides : ByteArray := prog_10_method_36_code
def yX8_provides : MethodName := ⟨RX8, "provides", "(III)I"⟩
abbrev cX8_isProviding : ByteArray := prog_10_method_37_code
def yX8_isProviding : MethodName := ⟨RX8, "isProviding", "(II)Z"⟩
abbrev cX8_isUsed : ByteArray := prog_10_method_38_code
def yX8_isUsed : MethodName := ⟨RX8, "isUsed", "(I)Z"⟩
abbrev cX8_binds : ByteArray := prog_10_method_39_code
def yX8_binds : MethodName := ⟨RX8, "binds", "()Z"⟩
abbrev cX8_graphOf : ByteArray := prog_10_method_40_code
def yX8_graphOf : MethodName := ⟨RX8, "graphOf", "(IZ)V"⟩
abbrev cX8_graph : ByteArray := prog_10_method_41_code
def yX8_graph : MethodName := ⟨RX8, "graph", "(IZ)I"⟩
abbrev cX8_has : ByteArray := prog_10_method_42_code
def yX8_has : MethodName := ⟨RX8, "has", "(IZI)I"⟩
abbrev cX8_provider : ByteArray := prog_10_method_43_code
def yX8_provider : MethodName := ⟨RX8, "provider", "(III)I"⟩
abbrev cX8_unit : ByteArray := prog_10_method_44_code
def yX8_unit : MethodName := ⟨RX8, "unit", "(I)I"⟩
abbrev cX8_home : ByteArray := prog_10_method_45_code
def yX8_home : MethodName := ⟨RX8, "home", "(I)I"⟩
abbrev cX8_usable : ByteArray := prog_10_method_46_code
def yX8_usable : MethodName := ⟨RX8, "usable", "(IIII)I"⟩
abbrev cX8_importRule : ByteArray := prog_10_method_47_code
def yX8_importRule : MethodName := ⟨RX8, "importRule", "(IIII)I"⟩
abbrev cX8_imports : ByteArray := prog_10_method_48_code
def yX8_imports : MethodName := ⟨RX8, "imports", "(IIII)I"⟩
abbrev cX8_byPacks : ByteArray := prog_10_method_49_code
def yX8_byPacks : MethodName := ⟨RX8, "byPacks", "(II)I"⟩
abbrev cX8_meaning : ByteArray := prog_10_method_50_code
def yX8_meaning : MethodName := ⟨RX8, "meaning", "(II)I"⟩
abbrev cX8_byImports : ByteArray := prog_10_method_51_code
def yX8_byImports : MethodName := ⟨RX8, "byImports", "(IIII)I"⟩
abbrev cX8_memberOf : ByteArray := prog_10_method_52_code
def yX8_memberOf : MethodName := ⟨RX8, "memberOf", "(III)I"⟩
abbrev cX8_isLayer : ByteArray := prog_10_method_53_code
def yX8_isLayer : MethodName := ⟨RX8, "isLayer", "(I)Z"⟩
abbrev cX8_loaderOf : ByteArray := prog_10_method_54_code
def yX8_loaderOf : MethodName := ⟨RX8, "loaderOf", "(II)I"⟩
abbrev cX8_layer : ByteArray := prog_10_method_55_code
def yX8_layer : MethodName := ⟨RX8, "layer", "(IIZ)I"⟩
abbrev cX8_loader : ByteArray := prog_10_method_56_code
def yX8_loader : MethodName := ⟨RX8, "loader", "(II)I"⟩
abbrev cX8_finds : ByteArray := prog_10_method_57_code
def yX8_finds : MethodName := ⟨RX8, "finds", "(IIII)I"⟩
abbrev cX8_count : ByteArray := prog_10_method_58_code
def yX8_count : MethodName := ⟨RX8, "count", "(I)I"⟩
def RJx8e188 : String := "java/lang/Cloneable"
def RJ6 : String := "java/lang/Integer"
abbrev cJ6_bitCount_0f7a4 : ByteArray := prog_12_method_49_code
def yJ6_bitCount_0f7a4 : MethodName := ⟨RJ6, "bitCount", "(I)I"⟩
def RJ9 : String := "java/lang/Math"
abbrev cJ9_min_7cf53 : ByteArray := prog_13_method_69_code
def yJ9_min_7cf53 : MethodName := ⟨RJ9, "min", "(II)I"⟩
def RJ10 : String := "java/lang/System"
def RJ7 : String := "java/util/Arrays"
abbrev cJ7_copyOf_59c91 : ByteArray := prog_15_method_123_code
def yJ7_copyOf_59c91 : MethodName := ⟨RJ7, "copyOf", "([II)[I"⟩
def RL : String := "PackageModulesLaw"
abbrev cL_law : ByteArray := code
def yL_law : MethodName := ⟨RL, "law", "([I)Z"⟩
abbrev vwCl : List vw_C := [(RX0, TX0, 3), (RX1, TX1, 6), (RX2, TX2, 5), (RX3, TX3, 5), (RX4, TX4, 4), (RX5, TX5, 6), (RX6, TX6, 6), (RX7, TX7, 7), (RX8, TX8, 34)]
end
section
abbrev xm_M : Type := MethodName × ByteArray × Nat × Option FieldType × Nat × Nat × Nat × Bool
def xp_cl : List vw_C := [(RX0, TX0, 3), (RX1, TX1, 6), (RX2, TX2, 5), (RX3, TX3, 5), (RX4, TX4, 4), (RX5, TX5, 6), (RX6, TX6, 6), (RX7, TX7, 7), (RX8, TX8, 34)]
/-- a class's name by its number -/
def xp_on : List String := [RX0, RX1, RX2, RX3, RX4, RX5, RX6, RX7, RX8, RJ6, RJ9, RJ7, RL]
abbrev xM0 : xm_M := (yX0_isFull, cX0_isFull, 1, some .boolean, 0, 0, 0, false)
abbrev xM1 : xm_M := (yX0_knownTo, cX0_knownTo, 5, some .int, 0, 0, 0, false)
abbrev xM2 : xm_M := (yX1_add, cX1_add, 6, some .int, 1, 0, 0, false)
abbrev xM3 : xm_M := (yX1_find, cX1_find, 5, some .int, 1, 0, 0, false)
abbrev xM4 : xm_M := (yX1_typeOf, cX1_typeOf, 2, some .int, 1, 0, 0, false)
abbrev xM5 : xm_M := (yX1_isOpen, cX1_isOpen, 2, some .boolean, 1, 0, 0, false)
abbrev xM6 : xm_M := (yX1_givenBy, cX1_givenBy, 2, some .int, 1, 0, 0, false)
abbrev xM7 : xm_M := (yX2_add, cX2_add, 1, some .int, 2, 0, 0, false)
abbrev xM8 : xm_M := (yX2_join, cX2_join, 7, none, 2, 0, 0, false)
abbrev xM9 : xm_M := (yX3_add, cX3_add, 3, some .int, 3, 0, 0, false)
abbrev xM10 : xm_M := (yX3_find, cX3_find, 4, some .int, 3, 0, 0, false)
abbrev xM11 : xm_M := (yX3_ownerOf, cX3_ownerOf, 2, some .int, 3, 0, 0, false)
abbrev xM12 : xm_M := (yX3_nameOf, cX3_nameOf, 2, some .int, 3, 0, 0, false)
abbrev xM13 : xm_M := (yX3_bitOf, cX3_bitOf, 1, some .int, 3, 0, 0, false)
abbrev xM14 : xm_M := (yX4_isUsed, cX4_isUsed, 3, some .boolean, 4, 0, 0, false)
abbrev xM15 : xm_M := (yX4_use, cX4_use, 3, none, 4, 0, 0, false)
abbrev xM16 : xm_M := (yX4_isProvided, cX4_isProvided, 4, some .boolean, 4, 0, 0, false)
abbrev xM17 : xm_M := (yX4_serviceAt, cX4_serviceAt, 2, some .int, 4, 0, 0, false)
abbrev xM18 : xm_M := (yX4_typeAt, cX4_typeAt, 2, some .int, 4, 0, 0, false)
abbrev xM19 : xm_M := (yX5_add, cX5_add, 6, some .int, 5, 0, 0, false)
abbrev xM20 : xm_M := (yX5_find, cX5_find, 4, some .int, 5, 0, 0, false)
abbrev xM21 : xm_M := (yX5_anyIn, cX5_anyIn, 3, some .boolean, 5, 0, 0, false)
abbrev xM22 : xm_M := (yX5_packOf, cX5_packOf, 2, some .int, 5, 0, 0, false)
abbrev xM23 : xm_M := (yX5_nameOf, cX5_nameOf, 2, some .int, 5, 0, 0, false)
abbrev xM24 : xm_M := (yX5_kindOf, cX5_kindOf, 2, some .int, 5, 0, 0, false)
abbrev xM25 : xm_M := (yX5_parentOf, cX5_parentOf, 2, some .int, 5, 0, 0, false)
abbrev xM26 : xm_M := (yX5_isOpen, cX5_isOpen, 2, some .boolean, 5, 0, 0, false)
abbrev xM27 : xm_M := (yX5_hasMaker, cX5_hasMaker, 2, some .boolean, 5, 0, 0, false)
abbrev xM28 : xm_M := (yX5_isSubtype, cX5_isSubtype, 5, some .boolean, 5, 0, 0, false)
abbrev xM29 : xm_M := (yX6_add, cX6_add, 2, some .int, 6, 0, 0, false)
abbrev xM30 : xm_M := (yX6_packOf, cX6_packOf, 2, some .int, 6, 0, 0, false)
abbrev xM31 : xm_M := (yX6_importsOf, cX6_importsOf, 2, some .int, 6, 0, 0, false)
abbrev xM32 : xm_M := (yX6_isFull, cX6_isFull, 2, some .boolean, 6, 0, 0, false)
abbrev xM33 : xm_M := (yX6_kindAt, cX6_kindAt, 3, some .int, 6, 0, 0, false)
abbrev xM34 : xm_M := (yX6_whatAt, cX6_whatAt, 3, some .int, 6, 0, 0, false)
abbrev xM35 : xm_M := (yX6_nameAt, cX6_nameAt, 3, some .int, 6, 0, 0, false)
abbrev xM36 : xm_M := (yX7_count, cX7_count, 2, some .int, 7, 0, 0, false)
abbrev xM37 : xm_M := (yX7_within, cX7_within, 2, some .boolean, 7, 0, 0, false)
abbrev xM38 : xm_M := (yX7_hasBit, cX7_hasBit, 2, some .boolean, 7, 0, 0, false)
abbrev xM39 : xm_M := (yX7_broken, cX7_broken, 1, some .int, 7, 0, 0, false)
abbrev xM40 : xm_M := (yX7_asAnswer, cX7_asAnswer, 1, some .int, 7, 0, 0, false)
abbrev xM41 : xm_M := (yX8_in, cX8_in, 3, some .boolean, 8, 0, 0, false)
abbrev xM42 : xm_M := (yX8_broken, cX8_broken, 1, some .int, 8, 0, 0, false)
abbrev xM43 : xm_M := (yX8_module, cX8_module, 1, some .int, 8, 0, 0, false)
abbrev xM44 : xm_M := (yX8_packOf, cX8_packOf, 5, some .int, 8, 0, 0, false)
abbrev xM45 : xm_M := (yX8_typeOf, cX8_typeOf, 5, some .int, 8, 0, 0, false)
abbrev xM46 : xm_M := (yX8_ownMember, cX8_ownMember, 6, some .int, 8, 0, 0, false)
abbrev xM47 : xm_M := (yX8_isOpen, cX8_isOpen, 2, some .boolean, 8, 0, 0, false)
abbrev xM48 : xm_M := (yX8_moduleOf, cX8_moduleOf, 2, some .int, 8, 0, 0, false)
abbrev xM49 : xm_M := (yX8_isSubtype, cX8_isSubtype, 4, some .boolean, 8, 0, 0, false)
abbrev xM50 : xm_M := (yX8_clear, cX8_clear, 2, none, 8, 0, 0, false)
abbrev xM51 : xm_M := (yX8_isEdge, cX8_isEdge, 6, some .boolean, 8, 0, 0, false)
abbrev xM52 : xm_M := (yX8_isExported, cX8_isExported, 3, some .boolean, 8, 0, 0, false)
abbrev xM53 : xm_M := (yX8_isProviding, cX8_isProviding, 5, some .boolean, 8, 0, 0, false)
abbrev xM54 : xm_M := (yX8_isUsed, cX8_isUsed, 4, some .boolean, 8, 0, 0, false)
abbrev xM55 : xm_M := (yX8_home, cX8_home, 2, some .int, 8, 0, 0, false)
abbrev xM56 : xm_M := (yX8_loaderOf, cX8_loaderOf, 4, some .int, 8, 0, 0, false)
abbrev xM57 : xm_M := (yX8_count, cX8_count, 2, some .int, 8, 0, 0, false)
abbrev xM58 : xm_M := (yJ6_bitCount_0f7a4, cJ6_bitCount_0f7a4, 1, some .int, 9, 0, 0, false)
abbrev xM59 : xm_M := (yX0_init, cX0_init, 1, none, 0, 1, 20, true)
abbrev xM60 : xm_M := (yX0_holds, cX0_holds, 2, some .boolean, 0, 1, 21, false)
abbrev xM61 : xm_M := (yX0_add, cX0_add, 3, some .int, 0, 1, 20, false)
abbrev xM62 : xm_M := (yX0_homeOf, cX0_homeOf, 5, some .int, 0, 1, 21, false)
abbrev xM63 : xm_M := (yX1_init, cX1_init, 1, none, 1, 1, 20, true)
abbrev xM64 : xm_M := (yX2_init, cX2_init, 1, none, 2, 1, 20, true)
abbrev xM65 : xm_M := (yX2_holds, cX2_holds, 2, some .boolean, 2, 1, 21, false)
abbrev xM66 : xm_M := (yX2_needsAlready, cX2_needsAlready, 3, some .boolean, 2, 1, 21, false)
abbrev xM67 : xm_M := (yX2_closed, cX2_closed, 7, some .int, 2, 1, 21, false)
abbrev xM68 : xm_M := (yX3_init, cX3_init, 1, none, 3, 1, 20, true)
abbrev xM69 : xm_M := (yX3_holds, cX3_holds, 2, some .boolean, 3, 1, 21, false)
abbrev xM70 : xm_M := (yX3_isTold, cX3_isTold, 4, some .boolean, 3, 1, 20, false)
abbrev xM71 : xm_M := (yX3_tell, cX3_tell, 4, none, 3, 1, 20, false)
abbrev xM72 : xm_M := (yX3_isExportedTo, cX3_isExportedTo, 3, some .boolean, 3, 1, 20, false)
abbrev xM73 : xm_M := (yX3_isOpenedTo, cX3_isOpenedTo, 3, some .boolean, 3, 1, 20, false)
abbrev xM74 : xm_M := (yX4_init, cX4_init, 1, none, 4, 1, 20, true)
abbrev xM75 : xm_M := (yX4_usedBy, cX4_usedBy, 5, some .long, 4, 1, 21, false)
abbrev xM76 : xm_M := (yX5_init, cX5_init, 1, none, 5, 1, 20, true)
abbrev xM77 : xm_M := (yX5_holds, cX5_holds, 2, some .boolean, 5, 1, 21, false)
abbrev xM78 : xm_M := (yX6_init, cX6_init, 1, none, 6, 1, 20, true)
abbrev xM79 : xm_M := (yX6_holds, cX6_holds, 2, some .boolean, 6, 1, 21, false)
abbrev xM80 : xm_M := (yX6_addImport, cX6_addImport, 6, some .int, 6, 1, 21, false)
abbrev xM81 : xm_M := (yX6_hasImport, cX6_hasImport, 6, some .boolean, 6, 1, 22, false)
abbrev xM82 : xm_M := (yX7_module, cX7_module, 1, some .int, 7, 1, 20, false)
abbrev xM83 : xm_M := (yX7_isName, cX7_isName, 1, some .boolean, 7, 1, 21, false)
abbrev xM84 : xm_M := (yX7_ownerOfType, cX7_ownerOfType, 2, some .int, 7, 1, 21, false)
abbrev xM85 : xm_M := (yX7_ownerOfUnit, cX7_ownerOfUnit, 2, some .int, 7, 1, 21, false)
abbrev xM86 : xm_M := (yX7_nearestMember, cX7_nearestMember, 7, some .int, 7, 1, 24, false)
abbrev xM87 : xm_M := (yX7_singlyImportedType, cX7_singlyImportedType, 5, some .int, 7, 1, 22, false)
abbrev xM88 : xm_M := (yX7_giverRule, cX7_giverRule, 3, some .int, 7, 1, 24, false)
abbrev xM89 : xm_M := (yX7_makerRule, cX7_makerRule, 3, some .int, 7, 1, 24, false)
abbrev xM90 : xm_M := (yX8_init, cX8_init, 1, none, 8, 1, 20, true)
abbrev xM91 : xm_M := (yX8_isModule, cX8_isModule, 2, some .boolean, 8, 1, 22, false)
abbrev xM92 : xm_M := (yX8_isPack, cX8_isPack, 2, some .boolean, 8, 1, 22, false)
abbrev xM93 : xm_M := (yX8_isType, cX8_isType, 2, some .boolean, 8, 1, 22, false)
abbrev xM94 : xm_M := (yX8_isUnit, cX8_isUnit, 2, some .boolean, 8, 1, 22, false)
abbrev xM95 : xm_M := (yX8_isName, cX8_isName, 1, some .boolean, 8, 1, 22, false)
abbrev xM96 : xm_M := (yX8_goesOn, cX8_goesOn, 7, some .boolean, 8, 1, 25, false)
abbrev xM97 : xm_M := (yX8_seesPack, cX8_seesPack, 3, some .boolean, 8, 1, 22, false)
abbrev xM98 : xm_M := (yX8_binds, cX8_binds, 5, some .boolean, 8, 1, 24, false)
abbrev xM99 : xm_M := (yX8_usable, cX8_usable, 7, some .int, 8, 1, 25, false)
abbrev xM100 : xm_M := (yX8_isLayer, cX8_isLayer, 2, some .boolean, 8, 1, 22, false)
abbrev xM101 : xm_M := (yJ7_copyOf_59c91, cJ7_copyOf_59c91, 3, some (.array .int), 11, 1, 26, false)
abbrev xM102 : xm_M := (yX2_reaches, cX2_reaches, 3, some .boolean, 2, 2, 47, false)
abbrev xM103 : xm_M := (yX2_readBy, cX2_readBy, 4, some .int, 2, 2, 47, false)
abbrev xM104 : xm_M := (yX2_neededAtRun, cX2_neededAtRun, 2, some .int, 2, 2, 47, false)
abbrev xM105 : xm_M := (yX3_isSeenBy, cX3_isSeenBy, 4, some .boolean, 3, 2, 42, false)
abbrev xM106 : xm_M := (yX4_provide, cX4_provide, 3, none, 4, 2, 48, false)
abbrev xM107 : xm_M := (yX7_init, cX7_init, 1, none, 7, 2, 40, true)
abbrev xM108 : xm_M := (yX7_pack, cX7_pack, 3, some .int, 7, 2, 42, false)
abbrev xM109 : xm_M := (yX7_exports, cX7_exports, 4, some .int, 7, 2, 43, false)
abbrev xM110 : xm_M := (yX7_looks, cX7_looks, 3, some .int, 7, 2, 42, false)
abbrev xM111 : xm_M := (yX7_unit, cX7_unit, 2, some .int, 7, 2, 42, false)
abbrev xM112 : xm_M := (yX7_loader, cX7_loader, 3, some .int, 7, 2, 45, false)
abbrev xM113 : xm_M := (yX7_isTypeOrNone, cX7_isTypeOrNone, 2, some .boolean, 7, 2, 42, false)
abbrev xM114 : xm_M := (yX7_isImport, cX7_isImport, 5, some .boolean, 7, 2, 42, false)
abbrev xM115 : xm_M := (yX7_importsRival, cX7_importsRival, 4, some .boolean, 7, 2, 46, false)
abbrev xM116 : xm_M := (yX7_usableMember, cX7_usableMember, 7, some .int, 7, 2, 50, false)
abbrev xM117 : xm_M := (yX7_isWidelyImported, cX7_isWidelyImported, 3, some .boolean, 7, 2, 47, false)
abbrev xM118 : xm_M := (yX7_providersFor, cX7_providersFor, 6, some .int, 7, 2, 45, false)
abbrev xM119 : xm_M := (yX7_providerAt, cX7_providerAt, 8, some .int, 7, 2, 42, false)
abbrev xM120 : xm_M := (yX8_pack, cX8_pack, 3, some .int, 8, 2, 43, false)
abbrev xM121 : xm_M := (yX8_type, cX8_type, 6, some .int, 8, 2, 43, false)
abbrev xM122 : xm_M := (yX8_member, cX8_member, 6, some .int, 8, 2, 43, false)
abbrev xM123 : xm_M := (yX8_read, cX8_read, 4, none, 8, 2, 51, false)
abbrev xM124 : xm_M := (yX8_requires, cX8_requires, 5, some .int, 8, 2, 51, false)
abbrev xM125 : xm_M := (yX8_exports, cX8_exports, 6, some .int, 8, 2, 43, false)
abbrev xM126 : xm_M := (yX8_seesType, cX8_seesType, 3, some .boolean, 8, 2, 44, false)
abbrev xM127 : xm_M := (yX8_looks, cX8_looks, 3, some .int, 8, 2, 43, false)
abbrev xM128 : xm_M := (yX8_graphOf, cX8_graphOf, 4, none, 8, 2, 51, false)
abbrev xM129 : xm_M := (yX8_unit, cX8_unit, 2, some .int, 8, 2, 43, false)
abbrev xM130 : xm_M := (yX8_byImports, cX8_byImports, 8, some .int, 8, 2, 51, false)
abbrev xM131 : xm_M := (yX8_loader, cX8_loader, 3, some .int, 8, 2, 43, false)
abbrev xM132 : xm_M := (yX7_type, cX7_type, 6, some .int, 7, 3, 63, false)
abbrev xM133 : xm_M := (yX7_member, cX7_member, 6, some .int, 7, 3, 63, false)
abbrev xM134 : xm_M := (yX7_requires, cX7_requires, 4, some .int, 7, 3, 69, false)
abbrev xM135 : xm_M := (yX7_reads, cX7_reads, 4, some .int, 7, 3, 70, false)
abbrev xM136 : xm_M := (yX7_isPackSeen, cX7_isPackSeen, 3, some .boolean, 7, 3, 70, false)
abbrev xM137 : xm_M := (yX7_leastSplitName, cX7_leastSplitName, 7, some .int, 7, 3, 70, false)
abbrev xM138 : xm_M := (yX7_isPackNameSeen, cX7_isPackNameSeen, 5, some .boolean, 7, 3, 70, false)
abbrev xM139 : xm_M := (yX7_hasUsableMember, cX7_hasUsableMember, 5, some .boolean, 7, 3, 76, false)
abbrev xM140 : xm_M := (yX7_memberByImport, cX7_memberByImport, 6, some .int, 7, 3, 76, false)
abbrev xM141 : xm_M := (yX7_graphOf, cX7_graphOf, 6, some .int, 7, 3, 70, false)
abbrev xM142 : xm_M := (yX7_foundPack, cX7_foundPack, 8, some .int, 7, 3, 70, false)
abbrev xM143 : xm_M := (yX8_reads, cX8_reads, 4, some .int, 8, 3, 74, false)
abbrev xM144 : xm_M := (yX8_sees, cX8_sees, 4, some .int, 8, 3, 74, false)
abbrev xM145 : xm_M := (yX8_splitOf, cX8_splitOf, 5, some .int, 8, 3, 74, false)
abbrev xM146 : xm_M := (yX8_uses, cX8_uses, 3, some .int, 8, 3, 74, false)
abbrev xM147 : xm_M := (yX8_provideRule, cX8_provideRule, 5, some .int, 8, 3, 74, false)
abbrev xM148 : xm_M := (yX8_graph, cX8_graph, 5, some .int, 8, 3, 74, false)
abbrev xM149 : xm_M := (yX8_has, cX8_has, 4, some .int, 8, 3, 74, false)
abbrev xM150 : xm_M := (yX8_provider, cX8_provider, 7, some .int, 8, 3, 74, false)
abbrev xM151 : xm_M := (yX8_importRule, cX8_importRule, 10, some .int, 8, 3, 74, false)
abbrev xM152 : xm_M := (yX8_byPacks, cX8_byPacks, 8, some .int, 8, 3, 74, false)
abbrev xM153 : xm_M := (yX8_memberOf, cX8_memberOf, 5, some .int, 8, 3, 78, false)
abbrev xM154 : xm_M := (yX8_finds, cX8_finds, 9, some .int, 8, 3, 74, false)
abbrev xM155 : xm_M := (yX7_split, cX7_split, 2, some .int, 7, 4, 96, false)
abbrev xM156 : xm_M := (yX7_graph, cX7_graph, 3, some .int, 7, 4, 95, false)
abbrev xM157 : xm_M := (yX7_has, cX7_has, 4, some .int, 7, 4, 95, false)
abbrev xM158 : xm_M := (yX7_provider, cX7_provider, 4, some .int, 7, 4, 95, false)
abbrev xM159 : xm_M := (yX7_finds, cX7_finds, 8, some .int, 7, 4, 97, false)
abbrev xM160 : xm_M := (yX7_isTypeSeen, cX7_isTypeSeen, 3, some .boolean, 7, 4, 92, false)
abbrev xM161 : xm_M := (yX7_anySplit, cX7_anySplit, 3, some .boolean, 7, 4, 96, false)
abbrev xM162 : xm_M := (yX7_importedMember, cX7_importedMember, 8, some .int, 7, 4, 101, false)
abbrev xM163 : xm_M := (yX8_split, cX8_split, 2, some .int, 8, 4, 98, false)
abbrev xM164 : xm_M := (yX8_provides, cX8_provides, 6, some .int, 8, 4, 98, false)
abbrev xM165 : xm_M := (yX8_imports, cX8_imports, 8, some .int, 8, 4, 103, false)
abbrev xM166 : xm_M := (yX8_meaning, cX8_meaning, 4, some .int, 8, 4, 101, false)
abbrev xM167 : xm_M := (yX8_layer, cX8_layer, 7, some .int, 8, 4, 98, false)
abbrev xM168 : xm_M := (yX7_uses, cX7_uses, 3, some .int, 7, 5, 114, false)
abbrev xM169 : xm_M := (yX7_sees, cX7_sees, 4, some .int, 7, 5, 114, false)
abbrev xM170 : xm_M := (yX7_memberOf, cX7_memberOf, 5, some .int, 7, 5, 128, false)
abbrev xM171 : xm_M := (yX7_layer, cX7_layer, 5, some .int, 7, 5, 118, false)
abbrev xM172 : xm_M := (yX7_importRule, cX7_importRule, 6, some .int, 7, 5, 114, false)
abbrev xM173 : xm_M := (yX7_widelyImportedType, cX7_widelyImportedType, 6, some .int, 7, 5, 114, false)
abbrev xM174 : xm_M := (yX7_provideRule, cX7_provideRule, 6, some .int, 7, 5, 114, false)
abbrev xM175 : xm_M := (yX7_provides, cX7_provides, 5, some .int, 7, 6, 139, false)
abbrev xM176 : xm_M := (yX7_imports, cX7_imports, 6, some .int, 7, 6, 139, false)
abbrev xM177 : xm_M := (yX7_meaning, cX7_meaning, 5, some .int, 7, 6, 139, false)
abbrev xM192 : xm_M := (yL_law, cL_law, 4, some .boolean, 12, 7, 164, false)
def xp_mi0 : List xm_M := [xM0, xM1, xM2, xM3, xM4, xM5, xM6, xM7, xM8, xM9, xM10, xM11, xM12, xM13, xM14, xM15]
def xp_mi1 : List xm_M := [xM16, xM17, xM18, xM19, xM20, xM21, xM22, xM23, xM24, xM25, xM26, xM27, xM28, xM29, xM30, xM31]
def xp_mi2 : List xm_M := [xM32, xM33, xM34, xM35, xM36, xM37, xM38, xM39, xM40, xM41, xM42, xM43, xM44, xM45, xM46, xM47]
def xp_mi3 : List xm_M := [xM48, xM49, xM50, xM51, xM52, xM53, xM54, xM55, xM56, xM57, xM58, xM59, xM60, xM61, xM62, xM63]
def xp_mi4 : List xm_M := [xM64, xM65, xM66, xM67, xM68, xM69, xM70, xM71, xM72, xM73, xM74, xM75, xM76, xM77, xM78, xM79]
def xp_mi5 : List xm_M := [xM80, xM81, xM82, xM83, xM84, xM85, xM86, xM87, xM88, xM89, xM90, xM91, xM92, xM93, xM94, xM95]
def xp_mi6 : List xm_M := [xM96, xM97, xM98, xM99, xM100, xM101, xM102, xM103, xM104, xM105, xM106, xM107, xM108, xM109, xM110, xM111]
def xp_mi7 : List xm_M := [xM112, xM113, xM114, xM115, xM116, xM117, xM118, xM119, xM120, xM121, xM122, xM123, xM124, xM125, xM126, xM127]
def xp_mi8 : List xm_M := [xM128, xM129, xM130, xM131, xM132, xM133, xM134, xM135, xM136, xM137, xM138, xM139, xM140, xM141, xM142, xM143]
def xp_mi9 : List xm_M := [xM144, xM145, xM146, xM147, xM148, xM149, xM150, xM151, xM152, xM153, xM154, xM155, xM156, xM157, xM158, xM159]
def xp_mi10 : List xm_M := [xM160, xM161, xM162, xM163, xM164, xM165, xM166, xM167, xM168, xM169, xM170, xM171, xM172, xM173, xM174, xM175]
def xp_mi11 : List xm_M := [xM176, xM177]
def xp_mi12 : List xm_M := [xM192]
def xp_miT : List (List xm_M) := [xp_mi0, xp_mi1, xp_mi2, xp_mi3, xp_mi4, xp_mi5, xp_mi6, xp_mi7, xp_mi8, xp_mi9, xp_mi10, xp_mi11, xp_mi12]
def xp_mi (j : Nat) : Option xm_M := match xp_miT[j / 16]? with
  | some l => l[j % 16]?
  | none => none
def xp_at {α : Type} (l : List (Nat × α)) (i : Nat) : Option α := match l with
  | [] => none
  | (k, v) :: r => if k = i then some v else xp_at r i
def xp_get {α : Type} (T : List (List (Nat × α × Nat))) (oc idx : Nat) : Option α := match T[oc]? with
  | some l => (match xp_at l idx with
    | some v => some v.1
    | none => none)
  | none => none
theorem xp_at_mem {α : Type} {l : List (Nat × α)} {i : Nat} {v : α} (h : xp_at l i = some v) : (i, v) ∈ l := by
  induction l with
  | nil => simp [xp_at] at h
  | cons q r ih =>
    obtain ⟨k, w⟩ := q
    unfold xp_at at h
    split at h
    · rename_i hk
      cases h; subst hk; exact List.mem_cons_self
    · exact List.mem_cons_of_mem _ (ih h)
def xp_flT : List (List (Nat × (Nat × Nat × Bool × FieldType) × Nat)) := [
  [(9, (0, 1, true, .array .int), 234), (15, (0, 2, true, .array .int), 235), (18, (0, 0, false, .int), 232)],
  [(9, (1, 1, true, .array .int), 160), (15, (1, 2, true, .array .int), 161), (18, (1, 3, true, .array .int), 162), (21, (1, 4, true, .array .boolean), 163), (25, (1, 5, true, .array .int), 164), (28, (1, 0, false, .int), 158)],
  [(9, (2, 1, true, .array .int), 87), (15, (2, 2, true, .array .int), 88), (18, (2, 3, true, .array .int), 89), (21, (2, 4, true, .array .int), 90), (24, (2, 0, false, .int), 85)],
  [(9, (3, 1, true, .array .int), 111), (15, (3, 2, true, .array .int), 112), (18, (3, 3, true, .array .int), 113), (21, (3, 4, true, .array .int), 114), (24, (3, 0, false, .int), 109)],
  [(9, (4, 1, true, .array .long), 213), (15, (4, 2, false, .array .int), 214), (19, (4, 3, false, .array .int), 215), (26, (4, 0, false, .int), 211)],
  [(9, (5, 1, true, .array .int), 134), (15, (5, 2, true, .array .int), 135), (18, (5, 3, true, .array .int), 136), (21, (5, 4, true, .array .int), 137), (24, (5, 5, true, .array .int), 138), (27, (5, 0, false, .int), 132)],
  [(9, (6, 1, true, .array .int), 187), (15, (6, 2, true, .array .int), 188), (18, (6, 3, true, .array .int), 189), (21, (6, 4, true, .array .int), 190), (24, (6, 5, true, .array .int), 191), (27, (6, 0, false, .int), 185)],
  [(10, (7, 0, true, .object "PackageModules$Modules"), 243), (19, (7, 1, true, .object "PackageModules$Packs"), 244), (26, (7, 2, true, .object "PackageModules$Types"), 245), (33, (7, 3, true, .object "PackageModules$Members"), 246), (40, (7, 4, true, .object "PackageModules$Units"), 247), (47, (7, 5, true, .object "PackageModules$Services"), 248), (54, (7, 6, true, .object "PackageModules$Layers"), 249), (218, (2, 0, false, .int), 86), (222, (3, 0, false, .int), 110), (223, (5, 0, false, .int), 133), (224, (1, 0, false, .int), 159), (225, (6, 0, false, .int), 186), (226, (0, 0, false, .int), 233), (316, (4, 0, false, .int), 212)],
  [(7, (8, 1, true, .array .int), 747), (13, (8, 3, true, .array .int), 749), (16, (8, 4, true, .array .int), 750), (19, (8, 5, true, .array .boolean), 751), (23, (8, 6, true, .array .boolean), 752), (26, (8, 8, true, .array .int), 754), (29, (8, 9, true, .array .int), 755), (32, (8, 10, true, .array .int), 756), (35, (8, 11, true, .array .int), 757), (38, (8, 12, true, .array .int), 758), (41, (8, 14, true, .array .int), 760), (44, (8, 15, true, .array .int), 761), (47, (8, 16, true, .array .int), 762), (50, (8, 17, true, .array .boolean), 763), (53, (8, 18, true, .array .int), 764), (56, (8, 20, true, .array .int), 766), (59, (8, 21, true, .array .int), 767), (62, (8, 22, true, .array .int), 768), (65, (8, 23, true, .array .int), 769), (68, (8, 24, true, .array .int), 770), (71, (8, 25, true, .array .boolean), 771), (74, (8, 27, true, .array .int), 773), (77, (8, 28, true, .array .int), 774), (80, (8, 29, true, .array .int), 775), (83, (8, 31, true, .array .int), 777), (86, (8, 32, true, .array .boolean), 778), (89, (8, 33, true, .array .boolean), 779), (92, (8, 0, false, .int), 746), (100, (8, 2, false, .int), 748), (103, (8, 7, false, .int), 753), (106, (8, 19, false, .int), 765), (109, (8, 13, false, .int), 759), (180, (8, 26, false, .int), 772), (215, (8, 30, false, .int), 776)],
  [],
  [],
  [],
  []]
def xp_fl (oc idx : Nat) : Option (Nat × Nat × Bool × FieldType) := xp_get xp_flT oc idx
def xp_msT : List (List (Nat × (Nat × Nat) × Nat)) := [
  [(22, (37, 2), 700), (30, (38, 2), 726)],
  [],
  [(28, (37, 2), 281), (32, (38, 2), 346)],
  [(28, (37, 2), 304), (32, (13, 1), 372), (36, (38, 2), 415)],
  [(22, (38, 2), 665), (30, (101, 2), 472)],
  [(31, (37, 2), 313)],
  [(31, (37, 2), 536)],
  [(66, (83, 1), 284), (76, (37, 2), 287), (97, (39, 1), 349), (142, (38, 2), 492), (145, (40, 1), 493), (190, (58, 1), 674)],
  [(96, (41, 3), 861), (116, (95, 1), 864), (147, (42, 1), 911)],
  [],
  [],
  [],
  []]
def xp_ms (oc idx : Nat) : Option (Nat × Nat) := xp_get xp_msT oc idx
def xp_mvT : List (List (Nat × (Nat × Nat) × Nat)) := [
  [(26, (0, 0), 717)],
  [],
  [(35, (67, 2), 342)],
  [(39, (72, 2), 416)],
  [],
  [],
  [(35, (32, 1), 619), (39, (33, 2), 609), (43, (34, 2), 610), (46, (35, 2), 611)],
  [(58, (7, 0), 269), (62, (65, 1), 277), (69, (10, 2), 288), (73, (9, 2), 292), (75, (69, 1), 300), (80, (113, 1), 305), (83, (20, 2), 314), (84, (19, 5), 318), (87, (77, 1), 309), (88, (3, 3), 326), (91, (2, 5), 330), (94, (102, 2), 338), (101, (66, 2), 352), (104, (8, 3), 356), (108, (21, 1), 364), (111, (70, 3), 368), (115, (11, 1), 375), (118, (71, 3), 379), (122, (160, 2), 387), (125, (14, 2), 420), (128, (15, 2), 424), (132, (174, 3), 432), (135, (106, 2), 468), (138, (103, 2), 407), (149, (136, 2), 403), (152, (73, 2), 504), (155, (137, 1), 512), (158, (29, 1), 524), (160, (79, 1), 532), (161, (114, 3), 537), (165, (32, 1), 541), (168, (172, 4), 545), (172, (80, 4), 615), (175, (87, 2), 569), (178, (30, 1), 553), (181, (173, 2), 624), (184, (162, 4), 636), (187, (141, 2), 649), (195, (119, 3), 688), (198, (60, 1), 696), (199, (0, 0), 701), (202, (1, 1), 705), (205, (161, 1), 709), (208, (61, 2), 713), (209, (62, 2), 722), (212, (142, 3), 731), (215, (26, 1), 399), (227, (22, 1), 395), (228, (105, 3), 411), (231, (84, 1), 391), (234, (12, 1), 516), (237, (85, 1), 549), (240, (138, 2), 557), (243, (115, 2), 561), (246, (139, 3), 585), (249, (81, 4), 605), (253, (23, 1), 565), (254, (116, 4), 589), (257, (86, 3), 593), (260, (4, 1), 601), (263, (5, 1), 436), (264, (25, 1), 597), (267, (31, 1), 573), (270, (33, 2), 577), (273, (34, 2), 581), (276, (117, 2), 628), (279, (140, 5), 640), (282, (35, 2), 644), (285, (88, 2), 440), (288, (89, 2), 452), (291, (16, 2), 464), (294, (6, 1), 444), (297, (28, 2), 448), (300, (24, 1), 456), (303, (27, 1), 460), (306, (104, 1), 653), (309, (118, 1), 657), (312, (75, 1), 661), (317, (17, 1), 666), (320, (18, 1), 670), (323, (72, 2), 735)],
  [(112, (91, 1), 857), (119, (44, 2), 867), (123, (92, 1), 875), (126, (93, 1), 879), (129, (45, 2), 883), (132, (46, 3), 891), (136, (51, 4), 907), (140, (50, 0), 899), (143, (96, 3), 903), (151, (52, 2), 938), (155, (97, 2), 934), (158, (47, 1), 942), (161, (48, 1), 946), (164, (123, 2), 922), (168, (126, 2), 930), (171, (145, 1), 958), (174, (49, 2), 974), (177, (147, 3), 970), (183, (54, 1), 990), (186, (53, 2), 994), (189, (98, 0), 986), (193, (128, 2), 982), (196, (55, 1), 1022), (199, (99, 4), 1026), (203, (94, 1), 1014), (206, (151, 4), 1018), (209, (152, 2), 1034), (212, (130, 4), 1042), (218, (100, 1), 1050), (221, (56, 2), 1054)],
  [],
  [],
  [],
  [(13, (82, 0), 265), (17, (43, 0), 849), (18, (108, 2), 273), (22, (120, 2), 853), (23, (132, 5), 296), (27, (121, 5), 871), (28, (133, 5), 322), (32, (122, 5), 887), (33, (134, 3), 334), (37, (124, 3), 895), (38, (109, 3), 360), (42, (125, 3), 914), (43, (168, 2), 383), (46, (146, 2), 962), (47, (175, 3), 428), (50, (164, 3), 966), (51, (135, 3), 488), (54, (143, 3), 918), (55, (169, 3), 496), (58, (144, 3), 926), (59, (110, 2), 500), (62, (127, 2), 950), (63, (155, 1), 508), (67, (163, 1), 954), (68, (111, 1), 520), (71, (129, 1), 1006), (72, (176, 4), 528), (76, (165, 4), 1010), (77, (177, 2), 620), (80, (166, 2), 1030), (81, (170, 3), 632), (84, (153, 3), 1038), (85, (156, 2), 645), (89, (148, 2), 978), (90, (157, 3), 680), (94, (149, 3), 998), (95, (158, 3), 684), (98, (150, 3), 1002), (99, (171, 3), 692), (102, (167, 3), 1046), (103, (112, 2), 718), (106, (131, 2), 1058), (107, (159, 4), 727), (110, (154, 4), 1062), (111, (36, 1), 736), (114, (57, 1), 1066)]]
def xp_mv (oc idx : Nat) : Option (Nat × Nat) := xp_get xp_mvT oc idx
def xp_mpT : List (List (Nat × (Nat × Nat) × Nat)) := [
  [],
  [],
  [],
  [],
  [],
  [],
  [],
  [(9, (64, 0), 81), (18, (68, 0), 105), (25, (76, 0), 128), (32, (63, 0), 154), (39, (78, 0), 181), (46, (74, 0), 207), (53, (59, 0), 228)],
  [],
  [],
  [],
  [],
  [(9, (107, 0), 73), (12, (90, 0), 742)]]
def xp_mp (oc idx : Nat) : Option (Nat × Nat) := xp_get xp_mpT oc idx
def xp_nwT : List (List (Nat × (Nat × List Value) × Nat)) := [
  [],
  [],
  [],
  [],
  [],
  [],
  [],
  [(7, (2, [.int 0, .null, .null, .null, .null]), 79), (16, (3, [.int 0, .null, .null, .null, .null]), 103), (23, (5, [.int 0, .null, .null, .null, .null, .null]), 126), (30, (1, [.int 0, .null, .null, .null, .null, .null]), 152), (37, (6, [.int 0, .null, .null, .null, .null, .null]), 179), (44, (4, [.int 0, .null, .null, .null]), 205), (51, (0, [.int 0, .null, .null]), 226)],
  [],
  [],
  [],
  [],
  [(7, (7, [.null, .null, .null, .null, .null, .null, .null]), 71), (10, (8, [.int 0, .null, .int 0, .null, .null, .null, .null, .int 0, .null, .null, .null, .null, .null, .int 0, .null, .null, .null, .null, .null, .int 0, .null, .null, .null, .null, .null, .null, .int 0, .null, .null, .null, .int 0, .null, .null, .null]), 740)]]
def xp_nw (oc idx : Nat) : Option (Nat × List Value) := xp_get xp_nwT oc idx
def xp_cnT : List (List (Nat × (Int32) × Nat)) := [
  [],
  [],
  [],
  [],
  [],
  [],
  [],
  [],
  [],
  [(265, 1431655765, 677), (266, 858993459, 678), (267, 252645135, 679)],
  [],
  [],
  []]
def xp_cn (oc idx : Nat) : Option (Int32) := xp_get xp_cnT oc idx
def xp_oiL : List (Nat × Nat) := [(0, 3), (1, 3), (2, 3), (3, 3), (4, 3), (5, 3), (6, 3), (7, 1), (8, 1)]
def xp_oi (oc idx : Nat) : Bool := decide ((oc, idx) ∈ xp_oiL)
def xp_acL : List (Nat × Nat) := [(11, 150)]
def xp_ac (oc idx : Nat) : Bool := decide ((oc, idx) ∈ xp_acL)
def xp_mmL : List (Nat × Nat) := [(11, 304)]
def xp_mm (oc idx : Nat) : Bool := decide ((oc, idx) ∈ xp_mmL)
end
section
/-! the tables are as the Statement's words say: decided by the kernel, by places -/
def xk_w (p : Nat) (w : Cond) : Bool := decide (lw_tbl[p]? = some w) && goodWord w
def xp_tb : List Cond := lw_tbl.filter goodWord
theorem xk_w_mem {p : Nat} {w : Cond} (h : xk_w p w = true) : w ∈ xp_tb := by
  unfold xk_w at h
  rw [Bool.and_eq_true, decide_eq_true_eq] at h
  exact List.mem_filter.mpr ⟨List.mem_of_getElem? h.1, h.2⟩
def xp_isN : Cond → Bool
  | .methodLinkNest .. => true
  | _ => false
def xp_ne : List Cond := lw_tbl.filter xp_isN
theorem xp_ne_warm (w : Cond) (hw : w ∈ xp_ne) {s U : State} (hW : s.WarmedH U.vm) (h : va_Nw w s) : va_Nw w U := by
  have h2 := (List.mem_filter.mp hw).2
  cases w <;> first | (simp [xp_isN] at h2; done) | exact va_Nw.warmM hW h
theorem xp_ne_of (w : Cond) (hw : w ∈ xp_ne) {A : Array Value} {U : State} (h : w.before A U = true) : va_Nw w U := by
  have h2 := (List.mem_filter.mp hw).2
  cases w <;> first | (simp [xp_isN] at h2; done) | exact va_Nw.of rfl h
/-- a table's rows, each checked with its class -/
def xk_all {α : Type} (T : List (List (Nat × α × Nat))) (f : Nat → Nat → α → Nat → Bool) : Bool := (List.range T.length).all fun oc => match T[oc]? with
  | some l => l.all fun q => f oc q.1 q.2.1 q.2.2
  | none => true
theorem xk_all_at {α : Type} {T : List (List (Nat × α × Nat))} {f : Nat → Nat → α → Nat → Bool} (h : xk_all T f = true) {oc idx : Nat} {l : List (Nat × α × Nat)} {v : α × Nat} (hT : T[oc]? = some l) (hv : xp_at l idx = some v) : f oc idx v.1 v.2 = true := by
  unfold xk_all at h
  have h1 := List.all_eq_true.mp h oc (List.mem_range.mpr (List.getElem?_eq_some_iff.mp hT).1)
  rw [hT] at h1
  exact List.all_eq_true.mp h1 _ (xp_at_mem hv)
theorem xk_all_of {α : Type} {T : List (List (Nat × α × Nat))} {f : Nat → Nat → α → Nat → Bool} (h : xk_all T f = true) {oc idx : Nat} {v : α} (hv : xp_get T oc idx = some v) : ∃ p, f oc idx v p = true := by
  unfold xp_get at hv
  split at hv
  · rename_i l hl
    split at hv
    · rename_i w hw
      cases hv
      exact ⟨w.2, xk_all_at h hl hw⟩
    · cases hv
  · cases hv
def xp_mk : List (Nat × Nat × Nat × Nat) := [(1, 65, 702, 703), (1, 65, 706, 707), (1, 62, 331, 332), (1, 62, 327, 328), (1, 62, 602, 603), (1, 62, 437, 438), (1, 62, 445, 446), (1, 59, 270, 271), (1, 59, 357, 358), (1, 60, 293, 294), (1, 60, 289, 290), (1, 60, 376, 377), (1, 60, 517, 518), (0, 60, 373, 0), (1, 64, 421, 422), (1, 64, 425, 426), (1, 64, 465, 466), (1, 64, 667, 668), (1, 64, 671, 672), (1, 61, 319, 320), (1, 61, 315, 316), (1, 61, 365, 366), (1, 61, 396, 397), (1, 61, 566, 567), (1, 61, 457, 458), (1, 61, 598, 599), (1, 61, 400, 401), (1, 61, 461, 462), (1, 61, 449, 450), (1, 63, 525, 526), (1, 63, 554, 555), (1, 63, 574, 575), (1, 63, 542, 543), (1, 63, 578, 579), (1, 63, 582, 583), (1, 63, 612, 613), (1, 58, 737, 738), (0, 58, 282, 0), (0, 58, 347, 0), (0, 58, 350, 0), (0, 58, 494, 0), (0, 66, 862, 0), (0, 66, 912, 0), (1, 66, 850, 851), (1, 66, 869, 28), (1, 66, 885, 31), (1, 66, 893, 32), (1, 66, 944, 40), (1, 66, 948, 41), (1, 66, 976, 44), (1, 66, 901, 33), (1, 66, 909, 35), (1, 66, 940, 39), (1, 66, 996, 48), (1, 66, 992, 47), (1, 66, 1024, 51), (1, 66, 1056, 56), (1, 66, 1067, 1068), (0, 70, 675, 0), (2, 65, 229, 0), (1, 65, 697, 698), (1, 65, 714, 715), (1, 65, 723, 724), (2, 62, 155, 0), (2, 59, 82, 0), (1, 59, 278, 279), (1, 59, 353, 354), (1, 59, 344, 1), (2, 60, 106, 0), (1, 60, 301, 302), (1, 60, 369, 370), (1, 60, 380, 381), (1, 60, 417, 418), (1, 60, 505, 506), (2, 64, 208, 0), (1, 64, 662, 663), (2, 61, 129, 0), (1, 61, 310, 311), (2, 63, 182, 0), (1, 63, 533, 534), (1, 63, 616, 617), (1, 63, 606, 607), (1, 58, 266, 267), (0, 58, 285, 0), (1, 58, 393, 3), (1, 58, 551, 11), (1, 58, 595, 17), (1, 58, 571, 14), (1, 58, 442, 6), (1, 58, 454, 7), (2, 66, 743, 0), (1, 66, 859, 27), (1, 66, 877, 29), (1, 66, 881, 30), (1, 66, 1016, 49), (0, 66, 865, 0), (1, 66, 905, 34), (1, 66, 936, 38), (1, 66, 988, 46), (1, 66, 1028, 52), (1, 66, 1052, 55), (0, 67, 473, 0), (1, 59, 339, 340), (1, 59, 408, 409), (1, 59, 654, 655), (1, 60, 412, 413), (1, 64, 469, 470), (2, 58, 74, 0), (1, 58, 274, 275), (1, 58, 361, 362), (1, 58, 501, 502), (1, 58, 521, 522), (1, 58, 719, 720), (1, 58, 307, 0), (1, 58, 539, 9), (1, 58, 563, 13), (1, 58, 591, 16), (1, 58, 630, 19), (1, 58, 659, 23), (1, 58, 690, 24), (1, 66, 854, 855), (1, 66, 872, 873), (1, 66, 888, 889), (1, 66, 924, 36), (1, 66, 896, 897), (1, 66, 915, 916), (1, 66, 932, 37), (1, 66, 951, 952), (1, 66, 984, 45), (1, 66, 1007, 1008), (1, 66, 1044, 54), (1, 66, 1059, 1060), (1, 58, 297, 298), (1, 58, 323, 324), (1, 58, 335, 336), (1, 58, 489, 490), (1, 58, 405, 4), (1, 58, 514, 8), (1, 58, 559, 12), (1, 58, 587, 15), (1, 58, 642, 21), (1, 58, 651, 22), (1, 58, 733, 26), (1, 66, 919, 920), (1, 66, 927, 928), (1, 66, 960, 42), (1, 66, 963, 964), (1, 66, 972, 43), (1, 66, 979, 980), (1, 66, 999, 1000), (1, 66, 1003, 1004), (1, 66, 1020, 50), (1, 66, 1036, 53), (1, 66, 1039, 1040), (1, 66, 1063, 1064), (1, 58, 509, 510), (1, 58, 646, 647), (1, 58, 681, 682), (1, 58, 685, 686), (1, 58, 728, 729), (1, 58, 389, 2), (1, 58, 711, 25), (1, 58, 638, 20), (1, 66, 955, 956), (1, 66, 967, 968), (1, 66, 1011, 1012), (1, 66, 1031, 1032), (1, 66, 1047, 1048), (1, 58, 384, 385), (1, 58, 497, 498), (1, 58, 633, 634), (1, 58, 693, 694), (1, 58, 547, 10), (1, 58, 626, 18), (1, 58, 434, 5), (1, 58, 429, 430), (1, 58, 529, 530), (1, 58, 621, 622)]
def xk_mi (j : Nat) : Bool := match xp_mi j, xp_mk[j]? with
  | some M, some (kd, p1, p2, p3) => plainName M.1.cls && (decide (M.1.cls ≠ "java/lang/invoke/MethodHandle") && (decide (M.1.cls ≠ "java/lang/invoke/VarHandle") && (decide (xp_on[M.2.2.2.2.1]? = some M.1.cls) && (xk_w p1 (.initialized M.1.cls) && (if kd = 0 then xk_w p2 (.static M.1) && !M.2.2.2.2.2.2.2 else if kd = 1 then xk_w p2 (.instanceMethod M.1) && (xk_w p3 (.selects M.1.cls M.1 M.1) && (!M.2.2.2.2.2.2.2 && decide ((xp_cl[M.2.2.2.2.1]?).map (fun c => c.1) = some M.1.cls))) else xk_w p2 (.instanceMethod M.1) && (decide (M.1.name = "<init>") && decide (M.2.2.2.1 = none)))))))
  | _, _ => false
set_option maxRecDepth 100000 in
theorem xk_mi_0 : (List.range' 0 60).all xk_mi = true := by decide +kernel
set_option maxRecDepth 100000 in
theorem xk_mi_1 : (List.range' 60 60).all xk_mi = true := by decide +kernel
set_option maxRecDepth 100000 in
theorem xk_mi_2 : (List.range' 120 58).all xk_mi = true := by decide +kernel
theorem xk_mi_all (j : Nat) (h : j < 178) : xk_mi j = true := by
  by_cases h0 : j < 60
  · exact List.all_eq_true.mp xk_mi_0 j (List.mem_range'_1.mpr (by omega))
  by_cases h1 : j < 120
  · exact List.all_eq_true.mp xk_mi_1 j (List.mem_range'_1.mpr (by omega))
  by_cases h2 : j < 178
  · exact List.all_eq_true.mp xk_mi_2 j (List.mem_range'_1.mpr (by omega))
  omega
set_option maxRecDepth 100000 in
theorem xk_code0 : xp_mi0.map (fun M => some (Cond.code M.1 M.2.1 M.2.2.1 M.2.2.2.1)) = [704, 708, 333, 329, 604, 439, 447, 272, 359, 295, 291, 378, 519, 374, 423, 427].map (fun i => lw_tbl[i]?) := rfl
set_option maxRecDepth 100000 in
theorem xk_code1 : xp_mi1.map (fun M => some (Cond.code M.1 M.2.1 M.2.2.1 M.2.2.2.1)) = [467, 669, 673, 321, 317, 367, 398, 568, 459, 600, 402, 463, 451, 527, 556, 576].map (fun i => lw_tbl[i]?) := rfl
set_option maxRecDepth 100000 in
theorem xk_code2 : xp_mi2.map (fun M => some (Cond.code M.1 M.2.1 M.2.2.1 M.2.2.2.1)) = [544, 580, 584, 614, 739, 283, 348, 351, 495, 863, 913, 852, 870, 886, 894, 945].map (fun i => lw_tbl[i]?) := rfl
set_option maxRecDepth 100000 in
theorem xk_code3 : xp_mi3.map (fun M => some (Cond.code M.1 M.2.1 M.2.2.1 M.2.2.2.1)) = [949, 977, 902, 910, 941, 997, 993, 1025, 1057, 1069, 676, 230, 699, 716, 725, 156].map (fun i => lw_tbl[i]?) := rfl
set_option maxRecDepth 100000 in
theorem xk_code4 : xp_mi4.map (fun M => some (Cond.code M.1 M.2.1 M.2.2.1 M.2.2.2.1)) = [83, 280, 355, 345, 107, 303, 371, 382, 419, 507, 209, 664, 130, 312, 183, 535].map (fun i => lw_tbl[i]?) := rfl
set_option maxRecDepth 100000 in
theorem xk_code5 : xp_mi5.map (fun M => some (Cond.code M.1 M.2.1 M.2.2.1 M.2.2.2.1)) = [618, 608, 268, 286, 394, 552, 596, 572, 443, 455, 744, 860, 878, 882, 1017, 866].map (fun i => lw_tbl[i]?) := rfl
set_option maxRecDepth 100000 in
theorem xk_code6 : xp_mi6.map (fun M => some (Cond.code M.1 M.2.1 M.2.2.1 M.2.2.2.1)) = [906, 937, 989, 1029, 1053, 474, 341, 410, 656, 414, 471, 75, 276, 363, 503, 523].map (fun i => lw_tbl[i]?) := rfl
set_option maxRecDepth 100000 in
theorem xk_code7 : xp_mi7.map (fun M => some (Cond.code M.1 M.2.1 M.2.2.1 M.2.2.2.1)) = [721, 308, 540, 564, 592, 631, 660, 691, 856, 874, 890, 925, 898, 917, 933, 953].map (fun i => lw_tbl[i]?) := rfl
set_option maxRecDepth 100000 in
theorem xk_code8 : xp_mi8.map (fun M => some (Cond.code M.1 M.2.1 M.2.2.1 M.2.2.2.1)) = [985, 1009, 1045, 1061, 299, 325, 337, 491, 406, 515, 560, 588, 643, 652, 734, 921].map (fun i => lw_tbl[i]?) := rfl
set_option maxRecDepth 100000 in
theorem xk_code9 : xp_mi9.map (fun M => some (Cond.code M.1 M.2.1 M.2.2.1 M.2.2.2.1)) = [929, 961, 965, 973, 981, 1001, 1005, 1021, 1037, 1041, 1065, 511, 648, 683, 687, 730].map (fun i => lw_tbl[i]?) := rfl
set_option maxRecDepth 100000 in
theorem xk_code10 : xp_mi10.map (fun M => some (Cond.code M.1 M.2.1 M.2.2.1 M.2.2.2.1)) = [390, 712, 639, 957, 969, 1013, 1033, 1049, 386, 499, 635, 695, 548, 627, 435, 431].map (fun i => lw_tbl[i]?) := rfl
set_option maxRecDepth 100000 in
theorem xk_code11 : xp_mi11.map (fun M => some (Cond.code M.1 M.2.1 M.2.2.1 M.2.2.2.1)) = [531, 623].map (fun i => lw_tbl[i]?) := rfl
theorem xk_codes (l : List xm_M) (ps : List Nat) (h : l.map (fun M => some (Cond.code M.1 M.2.1 M.2.2.1 M.2.2.2.1)) = ps.map (fun i => lw_tbl[i]?)) (k : Nat) (M : xm_M) (hk : l[k]? = some M) : Cond.code M.1 M.2.1 M.2.2.1 M.2.2.2.1 ∈ xp_tb := by
  have h1 : (l.map (fun M => some (Cond.code M.1 M.2.1 M.2.2.1 M.2.2.2.1)))[k]? = some (some (Cond.code M.1 M.2.1 M.2.2.1 M.2.2.2.1)) := by rw [List.getElem?_map, hk]; rfl
  rw [h, List.getElem?_map] at h1
  cases hp : ps[k]? with
  | none => rw [hp] at h1; cases h1
  | some i =>
    rw [hp] at h1
    exact List.mem_filter.mpr ⟨List.mem_of_getElem? (Option.some.inj h1), rfl⟩
theorem xk_code_all (j : Nat) (h : j < 178) (M : xm_M) (hM : xp_mi j = some M) : Cond.code M.1 M.2.1 M.2.2.1 M.2.2.2.1 ∈ xp_tb := by
  have hc : j / 16 < 12 := by omega
  unfold xp_mi at hM
  split at hM
  · rename_i l hl
    generalize j % 16 = k at hM
    generalize j / 16 = c at hl hc
    match c, hc, hl with
    | 0, _, hl => cases hl; exact xk_codes _ _ xk_code0 k M hM
    | 1, _, hl => cases hl; exact xk_codes _ _ xk_code1 k M hM
    | 2, _, hl => cases hl; exact xk_codes _ _ xk_code2 k M hM
    | 3, _, hl => cases hl; exact xk_codes _ _ xk_code3 k M hM
    | 4, _, hl => cases hl; exact xk_codes _ _ xk_code4 k M hM
    | 5, _, hl => cases hl; exact xk_codes _ _ xk_code5 k M hM
    | 6, _, hl => cases hl; exact xk_codes _ _ xk_code6 k M hM
    | 7, _, hl => cases hl; exact xk_codes _ _ xk_code7 k M hM
    | 8, _, hl => cases hl; exact xk_codes _ _ xk_code8 k M hM
    | 9, _, hl => cases hl; exact xk_codes _ _ xk_code9 k M hM
    | 10, _, hl => cases hl; exact xk_codes _ _ xk_code10 k M hM
    | 11, _, hl => cases hl; exact xk_codes _ _ xk_code11 k M hM
    | c + 12, hc, _ => omega
  · cases hM
def xk_fl (oc idx : Nat) (v : Nat × Nat × Bool × FieldType) (p : Nat) : Bool := match xp_on[oc]?, xp_cl[v.1]? with
  | some own, some (C, T, N) => decide (v.2.1 < N) && (decide ((T v.2.1).2.2.2 = v.2.2.1) && (decide (parseFieldDescriptor (T v.2.1).2.2.1 = some v.2.2.2) && (decide ((T v.2.1).1 = C) && xk_w p (.fieldLink own idx C (T v.2.1).2.1 (T v.2.1).2.2.1))))
  | _, _ => false
set_option maxRecDepth 100000 in
theorem xk_fl_all : xk_all xp_flT xk_fl = true := by decide +kernel
def xk_lk (oc idx j : Nat) (p : Nat) : Bool := match xp_on[oc]?, xp_mi j with
  | some own, some N => (match lw_tbl[p]? with
    | some (.methodLink a i y) => decide (a = own) && (decide (i = idx) && decide (y = N.1))
    | some (.methodLinkNest a i y _) => decide (a = own) && (decide (i = idx) && decide (y = N.1))
    | _ => false)
  | _, _ => false
def xk_m (kd oc idx : Nat) (v : Nat × Nat) (p : Nat) : Bool := xk_lk oc idx v.1 p && (decide (v.1 < 178) && (decide ((xp_mk[v.1]?).map (fun q => q.1) = some kd) && decide (((xp_mi v.1).bind (fun M => parseMethodDescriptor M.1.desc)).map (fun d => d.parameters.length) = some v.2)))
set_option maxRecDepth 100000 in
theorem xk_ms_all : xk_all xp_msT (xk_m 0) = true := by decide +kernel
set_option maxRecDepth 100000 in
theorem xk_mv_all : xk_all xp_mvT (xk_m 1) = true := by decide +kernel
set_option maxRecDepth 100000 in
theorem xk_mp_all : xk_all xp_mpT (xk_m 2) = true := by decide +kernel
def xp_ip : List (Nat × Nat) := [(227, 65), (153, 62), (80, 59), (104, 60), (206, 64), (127, 61), (180, 63), (72, 58), (741, 66)]
def xp_ty : List (Nat → FieldType) := [tyX0, tyX1, tyX2, tyX3, tyX4, tyX5, tyX6, tyX7, tyX8]
def xk_nw (oc idx : Nat) (v : Nat × List Value) (p : Nat) : Bool := match xp_on[oc]?, xp_cl[v.1]?, xp_ip[v.1]?, xp_ty[v.1]? with
  | some own, some (C, T, N), some (p1, p2), some ty => xk_w p (.classLink own idx C) && (xk_w p1 (.instantiable C N) && (xk_w p2 (.initialized C) && (decide (v.2.length = N) && (List.range N).all (fun k => decide (defaultValue (ty k) = vp_V v.2 k) && decide (parseFieldDescriptor (T k).2.2.1 = some (ty k))))))
  | _, _, _, _ => false
set_option maxRecDepth 100000 in
theorem xk_nw_all : xk_all xp_nwT xk_nw = true := by decide +kernel
def xp_lay : List (List Nat) := [[236, 238, 240], [165, 167, 169, 171, 173, 175], [91, 93, 95, 97, 99], [115, 117, 119, 121, 123], [216, 218, 220, 222], [139, 141, 143, 145, 147, 149], [192, 194, 196, 198, 200, 202], [250, 252, 254, 256, 258, 260, 262], [780, 782, 784, 786, 788, 790, 792, 794, 796, 798, 800, 802, 804, 806, 808, 810, 812, 814, 816, 818, 820, 822, 824, 826, 828, 830, 832, 834, 836, 838, 840, 842, 844, 846]]
def xk_cl (ci : Nat) : Bool := match xp_cl[ci]?, xp_lay[ci]? with
  | some (C, T, N), some ps => (List.range N).all fun k => match ps[k]? with
    | some p => xk_w p (u_lay C T k)
    | none => false
  | _, _ => false
set_option maxRecDepth 100000 in
theorem xk_cl_all : (List.range xp_cl.length).all xk_cl = true := by decide +kernel
theorem xp_cl_in {ci N : Nat} {C : String} {T : u_T} (h : xp_cl[ci]? = some (C, T, N)) : ∀ w ∈ u_ws C T N, w ∈ xp_tb := by
  intro w hw
  have h1 := List.all_eq_true.mp xk_cl_all ci (List.mem_range.mpr (List.getElem?_eq_some_iff.mp h).1)
  unfold xk_cl at h1
  rw [h] at h1
  split at h1
  · rename_i C' T' N' ps hx hps
    cases hx
    obtain ⟨k, hk, rfl⟩ := List.mem_map.mp hw
    have h2 := List.all_eq_true.mp h1 k hk
    split at h2
    · exact xk_w_mem h2
    · cases h2
  · cases h1
theorem xp_cl_ty {ci N : Nat} {C : String} {T : u_T} (h : xp_cl[ci]? = some (C, T, N)) : ∃ ty : Nat → FieldType, (∀ k, k < N → parseFieldDescriptor (T k).2.2.1 = some (ty k)) ∧ (∀ a, a < N → ∀ b, b < N → a ≠ b → (T a).2.1 ≠ (T b).2.1) := by
  match ci, h with
  | 0, h => cases h; exact ⟨tyX0, tyX0_ok, nmX0⟩
  | 1, h => cases h; exact ⟨tyX1, tyX1_ok, nmX1⟩
  | 2, h => cases h; exact ⟨tyX2, tyX2_ok, nmX2⟩
  | 3, h => cases h; exact ⟨tyX3, tyX3_ok, nmX3⟩
  | 4, h => cases h; exact ⟨tyX4, tyX4_ok, nmX4⟩
  | 5, h => cases h; exact ⟨tyX5, tyX5_ok, nmX5⟩
  | 6, h => cases h; exact ⟨tyX6, tyX6_ok, nmX6⟩
  | 7, h => cases h; exact ⟨tyX7, tyX7_ok, nmX7⟩
  | 8, h => cases h; exact ⟨tyX8, tyX8_ok, nmX8⟩
  | n + 9, h => cases h
def xk_cn (oc idx : Nat) (v : Int32) (p : Nat) : Bool := match xp_on[oc]? with
  | some own => xk_w p (.constant own idx v)
  | none => false
set_option maxRecDepth 100000 in
theorem xk_cn_all : xk_all xp_cnT xk_cn = true := by decide +kernel
def xp_oiP : List (Nat × Nat × Nat) := [(0, 3, 231), (1, 3, 157), (2, 3, 84), (3, 3, 108), (4, 3, 210), (5, 3, 131), (6, 3, 184), (7, 1, 76), (8, 1, 745)]
def xk_oi (q : Nat × Nat × Nat) : Bool := match xp_on[q.1]? with
  | some own => xk_w q.2.2 (.methodLink own q.2.1 Lib.objectInit)
  | none => false
theorem xk_oi_all : xp_oiP.all xk_oi = true := by decide +kernel
theorem xk_oi_L : xp_oiP.map (fun q => (q.1, q.2.1)) = xp_oiL := by decide +kernel
theorem xk_oi_1 : xk_w 77 (.instanceMethod Lib.objectInit) = true := by decide +kernel
theorem xk_oi_2 : lw_tbl[78]? = some (.code Lib.objectInit ⟨#[0xb1]⟩ 1 none) := by decide +kernel
def xp_acP : List (Nat × Nat × Nat) := [(11, 150, 485)]
def xk_ac (q : Nat × Nat × Nat) : Bool := match xp_on[q.1]? with
  | some own => xk_w q.2.2 (.methodLink own q.2.1 arraycopyName)
  | none => false
theorem xk_ac_all : xp_acP.all xk_ac = true := by decide +kernel
theorem xk_ac_L : xp_acP.map (fun q => (q.1, q.2.1)) = xp_acL := by decide +kernel
theorem xk_ac_1 : xk_w 487 (.native arraycopyName) = true := by decide +kernel
theorem xk_ac_2 : xk_w 486 (.static arraycopyName) = true := by decide +kernel
theorem xk_ac_3 : xk_w 69 (.initialized "java/lang/System") = true := by decide +kernel
def xp_mmP : List (Nat × Nat × Nat) := [(11, 304, 482)]
def xk_mm (q : Nat × Nat × Nat) : Bool := match xp_on[q.1]? with
  | some own => xk_w q.2.2 (.methodLink own q.2.1 Lib.Math.min.name)
  | none => false
theorem xk_mm_all : xp_mmP.all xk_mm = true := by decide +kernel
theorem xk_mm_L : xp_mmP.map (fun q => (q.1, q.2.1)) = xp_mmL := by decide +kernel
theorem xk_mm_1 : xk_w 483 (.static Lib.Math.min.name) = true := by decide +kernel
theorem xk_mm_2 : xk_w 68 (.initialized "java/lang/Math") = true := by decide +kernel
theorem xk_mm_3 : lw_tbl[484]? = some (.code Lib.Math.min.name Lib.Math.min.code 2 (some .int)) := by decide +kernel
theorem xk_arr_int : xk_w 102 (.arrayClass .int) = true := by decide +kernel
theorem xk_arr_boolean : xk_w 178 (.arrayClass .boolean) = true := by decide +kernel
theorem xk_arr_long : xk_w 225 (.arrayClass .long) = true := by decide +kernel
end
section
/-! THE SMALL MACHINE. The same instructions over a heap of entries: a state is (pc, locals, stack, heap), a run is a function of fuel, 'xm_out' its answer.
The tables that it reads (xp_mi, xp_fl, xp_ml, xp_nw, xp_cn, xp_cj, xp_oi, xp_ac) stand in the names' part; that the machine of the Statement does the same is part 11. -/
abbrev xm_E : Type := (FieldType × vp_A) ⊕ ((Nat × List Value) ⊕ (Nat × (Nat → Int32)))
abbrev xm_H : Type := (Nat → Option xm_E) × Nat × Nat
abbrev xm_L : Type := List (Option Value)
abbrev xm_S : Type := Nat × xm_L × List Value × xm_H
abbrev xm_R : Type := Option Value × xm_H
abbrev xm_T : Type := xm_S ⊕ (xm_R ⊕ ((Nat × List Value) × xm_S))
def xm_set (g : Nat → Option xm_E) (a : Nat) (e : xm_E) : Nat → Option xm_E := fun q => if q = a then some e else g q
theorem xm_set_self (g : Nat → Option xm_E) (a : Nat) (e : xm_E) : xm_set g a e a = some e := if_pos rfl
theorem xm_set_ne {g : Nat → Option xm_E} {a : Nat} {e : xm_E} {q : Nat} (h : q ≠ a) : xm_set g a e q = g q := if_neg h
/-- a heap with one entry changed -/
def xm_up (hp : xm_H) (a : Nat) (e : xm_E) : xm_H := (xm_set hp.1 a e, hp.2)
/-- a heap with one entry more, of so many slots -/
def xm_add (hp : xm_H) (e : xm_E) (n : Nat) : xm_H := (xm_set hp.1 hp.2.1 e, hp.2.1 + 1, hp.2.2 + n)
def xm_arr (hp : xm_H) (a : Nat) : Option (FieldType × vp_A) := match hp.1 a with
  | some (.inl x) => some x
  | _ => none
def xm_obj (hp : xm_H) (a : Nat) : Option (Nat × List Value) := match hp.1 a with
  | some (.inr (.inl x)) => some x
  | _ => none
def xm_ok (n k : Nat) (x : xm_S) : Option xm_T := if n = k then some (.inl x) else none
def xm_tgt (pc : Nat) (off : Int) : Nat := ((pc : Int) + off).toNat
def xm_jmp (n : Nat) (pc : Nat) (off : Int) (c : Bool) (lo : xm_L) (sk : List Value) (hp : xm_H) : Option xm_T :=
  if n = 3 ∧ 0 ≤ (pc : Int) + off then (if c then some (.inl (xm_tgt pc off, lo, sk, hp)) else some (.inl (pc + 3, lo, sk, hp))) else none
/-- locals -/
def xm_kill (lo : xm_L) (i : Nat) : xm_L := match i with
  | 0 => lo
  | j + 1 => match lo[j]? with
    | some (some v) => if v.category = 2 then lo.set j none else lo
    | _ => lo
def xm_st1 (lo : xm_L) (i : Nat) (v : Value) : xm_L := (xm_kill lo i).set i (some v)
def xm_st2 (lo : xm_L) (i : Nat) (v : Value) : xm_L := ((xm_kill lo i).set i (some v)).set (i + 1) none
def xm_lay : List Value → xm_L
  | [] => []
  | v :: vs => if v.category = 2 then some v :: none :: xm_lay vs else some v :: xm_lay vs
def xm_ent (maxL : Nat) (as : List Value) : xm_L := xm_lay as ++ List.replicate (maxL - (xm_lay as).length) none
def xm_ld (n k : Nat) (ty : Value → Bool) (i : Nat) (pc : Nat) (lo : xm_L) (sk : List Value) (hp : xm_H) : Option xm_T := match lo[i]? with
  | some (some v) => if ty v then xm_ok n k (pc + k, lo, v :: sk, hp) else none
  | _ => none
def xm_isI : Value → Bool
  | .int _ => true
  | _ => false
def xm_isJ : Value → Bool
  | .long _ => true
  | _ => false
def xm_isA : Value → Bool
  | .ref _ => true
  | .null => true
  | _ => false
def xm_sto (n k : Nat) (ty : Value → Bool) (i : Nat) (pc : Nat) (lo : xm_L) (sk : List Value) (hp : xm_H) : Option xm_T := match sk with
  | v :: sk => if ty v && decide (i < lo.length) then xm_ok n k (pc + k, xm_st1 lo i v, sk, hp) else none
  | _ => none
def xm_stJ (n k : Nat) (i : Nat) (pc : Nat) (lo : xm_L) (sk : List Value) (hp : xm_H) : Option xm_T := match sk with
  | .long v :: sk => if i + 1 < lo.length then xm_ok n k (pc + k, xm_st2 lo i (.long v), sk, hp) else none
  | _ => none
def xm_i2 (n : Nat) (f : Int32 → Int32 → Int32) (pc : Nat) (lo : xm_L) (sk : List Value) (hp : xm_H) : Option xm_T := match sk with
  | .int y :: .int x :: sk => xm_ok n 1 (pc + 1, lo, .int (f x y) :: sk, hp)
  | _ => none
def xm_i1 (n : Nat) (f : Int32 → Int32) (pc : Nat) (lo : xm_L) (sk : List Value) (hp : xm_H) : Option xm_T := match sk with
  | .int x :: sk => xm_ok n 1 (pc + 1, lo, .int (f x) :: sk, hp)
  | _ => none
def xm_d2 (n : Nat) (f : Int32 → Int32 → Int32) (pc : Nat) (lo : xm_L) (sk : List Value) (hp : xm_H) : Option xm_T := match sk with
  | .int y :: .int x :: sk => if y = 0 then none else xm_ok n 1 (pc + 1, lo, .int (f x y) :: sk, hp)
  | _ => none
def xm_j2 (n : Nat) (f : Int64 → Int64 → Int64) (pc : Nat) (lo : xm_L) (sk : List Value) (hp : xm_H) : Option xm_T := match sk with
  | .long y :: .long x :: sk => xm_ok n 1 (pc + 1, lo, .long (f x y) :: sk, hp)
  | _ => none
def xm_jsh (n : Nat) (f : Int64 → Int32 → Int64) (pc : Nat) (lo : xm_L) (sk : List Value) (hp : xm_H) : Option xm_T := match sk with
  | .int y :: .long x :: sk => xm_ok n 1 (pc + 1, lo, .long (f x y) :: sk, hp)
  | _ => none
/-- arrays -/
def xm_out_of (i : Int32) (N : Nat) : Bool := decide (i < 0) || decide (N ≤ i.toNatClampNeg)
def xm_iald (n pc : Nat) (lo : xm_L) (sk : List Value) (hp : xm_H) : Option xm_T := match sk with
  | .int i :: .ref a :: sk => match hp.1 a with
    | some (.inl (.int, N, .inl f)) => if xm_out_of i N then none else xm_ok n 1 (pc + 1, lo, .int (f i.toNatClampNeg) :: sk, hp)
    | some (.inr (.inr (N, f))) => if xm_out_of i N then none else xm_ok n 1 (pc + 1, lo, .int (f i.toNatClampNeg) :: sk, hp)
    | _ => none
  | _ => none
def xm_zald (n pc : Nat) (lo : xm_L) (sk : List Value) (hp : xm_H) : Option xm_T := match sk with
  | .int i :: .ref a :: sk => match hp.1 a with
    | some (.inl (.boolean, N, .inl f)) => if xm_out_of i N then none else xm_ok n 1 (pc + 1, lo, .int (f i.toNatClampNeg) :: sk, hp)
    | _ => none
  | _ => none
def xm_lald (n pc : Nat) (lo : xm_L) (sk : List Value) (hp : xm_H) : Option xm_T := match sk with
  | .int i :: .ref a :: sk => match hp.1 a with
    | some (.inl (.long, N, .inr (.inl f))) => if xm_out_of i N then none else xm_ok n 1 (pc + 1, lo, .long (f i.toNatClampNeg) :: sk, hp)
    | _ => none
  | _ => none
def xm_iast (n pc : Nat) (lo : xm_L) (sk : List Value) (hp : xm_H) : Option xm_T := match sk with
  | .int x :: .int i :: .ref a :: sk => match hp.1 a with
    | some (.inl (.int, N, .inl f)) => if xm_out_of i N then none else xm_ok n 1 (pc + 1, lo, sk, xm_up hp a (.inl (.int, N, .inl (upd f i.toNatClampNeg x))))
    | _ => none
  | _ => none
def xm_zast (n pc : Nat) (lo : xm_L) (sk : List Value) (hp : xm_H) : Option xm_T := match sk with
  | .int x :: .int i :: .ref a :: sk => match hp.1 a with
    | some (.inl (.boolean, N, .inl f)) => if xm_out_of i N then none else xm_ok n 1 (pc + 1, lo, sk, xm_up hp a (.inl (.boolean, N, .inl (upd f i.toNatClampNeg (vp_nar .boolean x)))))
    | _ => none
  | _ => none
def xm_last (n pc : Nat) (lo : xm_L) (sk : List Value) (hp : xm_H) : Option xm_T := match sk with
  | .long x :: .int i :: .ref a :: sk => match hp.1 a with
    | some (.inl (.long, N, .inr (.inl f))) => if xm_out_of i N then none else xm_ok n 1 (pc + 1, lo, sk, xm_up hp a (.inl (.long, N, .inr (.inl (vp_updL f i.toNatClampNeg x)))))
    | _ => none
  | _ => none
def xm_alen (n pc : Nat) (lo : xm_L) (sk : List Value) (hp : xm_H) : Option xm_T := match sk with
  | .ref a :: sk => match hp.1 a with
    | some (.inl (_, N, _)) => xm_ok n 1 (pc + 1, lo, .int (Int32.ofNat N) :: sk, hp)
    | some (.inr (.inr (N, _))) => xm_ok n 1 (pc + 1, lo, .int (Int32.ofNat N) :: sk, hp)
    | _ => none
  | _ => none
def xm_blank (t : ArrayType) (N : Nat) : Option xm_E := match t with
  | .int => some (.inl (.int, N, .inl (fun _ => 0)))
  | .boolean => some (.inl (.boolean, N, .inl (fun _ => 0)))
  | .long => some (.inl (.long, N, .inr (.inl (fun _ => 0))))
  | _ => none
def xm_newa (n pc : Nat) (t : ArrayType) (lo : xm_L) (sk : List Value) (hp : xm_H) : Option xm_T := match sk with
  | .int k :: sk => if k < 0 then none else if k.toNatClampNeg * 8 ≤ 536870912 then (match xm_blank t k.toNatClampNeg with
    | some e => xm_ok n 2 (pc + 2, lo, .ref hp.2.1 :: sk, xm_add hp e k.toNatClampNeg)
    | none => none) else none
  | _ => none
/-- fields, objects -/
def xm_get (n pc oc idx : Nat) (lo : xm_L) (sk : List Value) (hp : xm_H) : Option xm_T := match sk with
  | .ref a :: sk => match xp_fl oc idx, xm_obj hp a with
    | some (ci, k, _, _), some (cj, fs) => if cj = ci then (match fs[k]? with
      | some v => xm_ok n 3 (pc + 3, lo, v :: sk, hp)
      | none => none) else none
    | _, _ => none
  | _ => none
def xm_put (n pc oc idx : Nat) (ini : Bool) (lo : xm_L) (sk : List Value) (hp : xm_H) : Option xm_T := match sk with
  | v :: .ref a :: sk => match xp_fl oc idx, xm_obj hp a with
    | some (ci, k, fin, ty), some (cj, fs) => if cj = ci ∧ k < fs.length ∧ (fin = false ∨ (ini = true ∧ oc = ci)) ∧ narrow ty v = v ∧ fits ty v = true then xm_ok n 3 (pc + 3, lo, sk, xm_up hp a (.inr (.inl (ci, fs.set k v)))) else none
    | _, _ => none
  | _ => none
def xm_new (n pc oc idx : Nat) (lo : xm_L) (sk : List Value) (hp : xm_H) : Option xm_T := match xp_nw oc idx with
  | some (ci, fs) => xm_ok n 3 (pc + 3, lo, .ref hp.2.1 :: sk, xm_add hp (.inr (.inl (ci, fs))) fs.length)
  | none => none
/-- calls -/
def xm_low (sk : List Value) : Bool := decide ((sk.map fun v => v.category).sum ≤ 8)
def xm_fit (M N : xm_M) : Bool := decide (N.2.2.2.2.2.1 + 1 ≤ M.2.2.2.2.2.1) && decide (8 + (N.2.2.1 + 11) + N.2.2.2.2.2.2.1 ≤ M.2.2.2.2.2.2.1)
def xm_calS (n pc : Nat) (M : xm_M) (idx : Nat) (lo : xm_L) (sk : List Value) (hp : xm_H) : Option xm_T := match xp_ms M.2.2.2.2.1 idx with
  | some (j, k) => match xp_mi j with
    | some N => if n = 3 ∧ k ≤ sk.length ∧ xm_low (sk.drop k) = true ∧ xm_fit M N = true then some (.inr (.inr ((j, (sk.take k).reverse), (pc + 3, lo, sk.drop k, hp)))) else none
    | none => none
  | none => none
def xm_calV (n pc : Nat) (M : xm_M) (idx : Nat) (lo : xm_L) (sk : List Value) (hp : xm_H) : Option xm_T := match xp_mv M.2.2.2.2.1 idx with
  | some (j, k) => match xp_mi j, sk.drop k with
    | some N, .ref b :: rest => match xm_obj hp b with
      | some (ci, _) => if n = 3 ∧ k ≤ sk.length ∧ xm_low rest = true ∧ xm_fit M N = true ∧ ci = N.2.2.2.2.1 then some (.inr (.inr ((j, .ref b :: (sk.take k).reverse), (pc + 3, lo, rest, hp)))) else none
      | none => none
    | _, _ => none
  | none => none
def xm_calP (n pc : Nat) (M : xm_M) (idx : Nat) (lo : xm_L) (sk : List Value) (hp : xm_H) : Option xm_T := if xp_oi M.2.2.2.2.1 idx then (match sk with
    | .ref _ :: rest => if xm_low rest && (decide (1 ≤ M.2.2.2.2.2.1) && decide (20 ≤ M.2.2.2.2.2.2.1)) then xm_ok n 3 (pc + 3, lo, rest, hp) else none
    | _ => none) else match xp_mp M.2.2.2.2.1 idx with
  | some (j, k) => match xp_mi j, sk.drop k with
    | some N, .ref b :: rest => if n = 3 ∧ k ≤ sk.length ∧ xm_low rest = true ∧ xm_fit M N = true then some (.inr (.inr ((j, .ref b :: (sk.take k).reverse), (pc + 3, lo, rest, hp)))) else none
    | _, _ => none
  | none => none
def xm_copy (n pc : Nat) (M : xm_M) (lo : xm_L) (sk : List Value) (hp : xm_H) : Option xm_T := match sk with
  | .int z :: .int dp :: .ref a :: .int sp :: .ref a0 :: rest => match hp.1 a0, hp.1 a with
    | some (.inl (.int, n0, .inl f)), some (.inl (.int, n1, .inl g)) => if a0 ≠ a ∧ ¬ sp < 0 ∧ ¬ dp < 0 ∧ ¬ z < 0 ∧ sp.toNatClampNeg + z.toNatClampNeg ≤ n0 ∧ dp.toNatClampNeg + z.toNatClampNeg ≤ n1 ∧ xm_low rest = true ∧ 1 ≤ M.2.2.2.2.2.1 ∧ 26 ≤ M.2.2.2.2.2.2.1 then xm_ok n 3 (pc + 3, lo, rest, xm_up hp a (.inl (.int, n1, .inl (va_cpy f g sp.toNatClampNeg dp.toNatClampNeg z.toNatClampNeg)))) else none
    | _, _ => none
  | _ => none
def xm_min (n pc : Nat) (M : xm_M) (lo : xm_L) (sk : List Value) (hp : xm_H) : Option xm_T := match sk with
  | .int y :: .int x :: rest => if xm_low rest && (decide (1 ≤ M.2.2.2.2.2.1) && decide (21 ≤ M.2.2.2.2.2.2.1)) then xm_ok n 3 (pc + 3, lo, .int (if y < x then y else x) :: rest, hp) else none
  | _ => none
def xm_ret (rt : Option FieldType) (i : Instr) (sk : List Value) : Option (Option Value) := match i with
  | .ireturn => match sk, rt with
    | [.int v], some .int => some (some (.int v))
    | [.int v], some .boolean => if narrow .boolean (.int v) = .int v then some (some (.int v)) else none
    | _, _ => none
  | .lreturn => match sk, rt with
    | [.long v], some .long => some (some (.long v))
    | _, _ => none
  | .areturn => match sk, rt with
    | [.ref a], some (.object _) => some (some (.ref a))
    | [.ref a], some (.array _) => some (some (.ref a))
    | [.null], some (.object _) => some (some .null)
    | [.null], some (.array _) => some (some .null)
    | _, _ => none
  | .return_ => match sk, rt with
    | [], none => some none
    | _, _ => none
  | _ => none
def xm_end (n : Nat) (rt : Option FieldType) (i : Instr) (sk : List Value) (hp : xm_H) : Option xm_T := match xm_ret rt i sk with
  | some r => if n = 1 then some (.inr (.inl (r, hp))) else none
  | none => none
/-- branches -/
def xm_ci (c : ClassFile.Cond) (x y : Int32) : Bool := match c with
  | .eq => decide (x = y)
  | .ne => !decide (x = y)
  | .lt => decide (x < y)
  | .ge => decide (y ≤ x)
  | .gt => decide (y < x)
  | .le => decide (x ≤ y)
def xm_icmp (n pc : Nat) (c : ClassFile.Cond) (off : Int) (lo : xm_L) (sk : List Value) (hp : xm_H) : Option xm_T := match sk with
  | .int y :: .int x :: sk => xm_jmp n pc off (xm_ci c x y) lo sk hp
  | _ => none
def xm_if (n pc : Nat) (c : ClassFile.Cond) (off : Int) (lo : xm_L) (sk : List Value) (hp : xm_H) : Option xm_T := match sk with
  | .int x :: sk => xm_jmp n pc off (xm_ci c x 0) lo sk hp
  | _ => none
def xm_sw (pc : Nat) (x : Int32) (d l h : Int) (os : Array Int) : Option Nat := if x.toInt < l ∨ h < x.toInt then (if 0 ≤ (pc : Int) + d then some (xm_tgt pc d) else none) else match os[(x.toInt - l).toNat]? with
  | some o => if 0 ≤ (pc : Int) + o then some (xm_tgt pc o) else none
  | none => none
def xm_tsw (pc : Nat) (d l h : Int) (os : Array Int) (lo : xm_L) (sk : List Value) (hp : xm_H) : Option xm_T := match sk with
  | .int x :: sk => match xm_sw pc x d l h os with
    | some t => some (.inl (t, lo, sk, hp))
    | none => none
  | _ => none
def xm_inc (n pc i : Nat) (k : Int) (lo : xm_L) (sk : List Value) (hp : xm_H) : Option xm_T := match lo[i]? with
  | some (some (.int x)) => xm_ok n 3 (pc + 3, xm_st1 lo i (.int (x + Int32.ofInt k)), sk, hp)
  | _ => none
def xm_c1 (v : Value) : Bool := decide (v.category = 1)
def xm_c2 (v : Value) : Bool := decide (v.category = 2)
def xm_dup (n pc : Nat) (lo : xm_L) (sk : List Value) (hp : xm_H) : Option xm_T := match sk with
  | v :: sk => if xm_c1 v then xm_ok n 1 (pc + 1, lo, v :: v :: sk, hp) else none
  | _ => none
def xm_dx1 (n pc : Nat) (lo : xm_L) (sk : List Value) (hp : xm_H) : Option xm_T := match sk with
  | v :: w :: sk => if xm_c1 v && xm_c1 w then xm_ok n 1 (pc + 1, lo, v :: w :: v :: sk, hp) else none
  | _ => none
def xm_dx2 (n pc : Nat) (lo : xm_L) (sk : List Value) (hp : xm_H) : Option xm_T := match sk with
  | v :: w :: u :: sk => if xm_c1 v && xm_c1 w && xm_c1 u then xm_ok n 1 (pc + 1, lo, v :: w :: u :: v :: sk, hp) else none
  | _ => none
def xm_d22 (n pc : Nat) (lo : xm_L) (sk : List Value) (hp : xm_H) : Option xm_T := match sk with
  | v :: w :: sk => if xm_c1 v && xm_c1 w then xm_ok n 1 (pc + 1, lo, v :: w :: v :: w :: sk, hp) else none
  | _ => none
def xm_pop (n pc : Nat) (lo : xm_L) (sk : List Value) (hp : xm_H) : Option xm_T := match sk with
  | v :: sk => if xm_c1 v then xm_ok n 1 (pc + 1, lo, sk, hp) else none
  | _ => none
/-- one instruction -/
def xm_ex (M : xm_M) (pc : Nat) (lo : xm_L) (sk : List Value) (hp : xm_H) (n : Nat) (i : Instr) : Option xm_T := match i with
  | .iconst k => xm_ok n 1 (pc + 1, lo, .int (Int32.ofInt k) :: sk, hp)
  | .bipush k => xm_ok n 2 (pc + 2, lo, .int (Int8.ofInt k).toInt32 :: sk, hp)
  | .sipush k => xm_ok n 3 (pc + 3, lo, .int (Int16.ofInt k).toInt32 :: sk, hp)
  | .lconst k => xm_ok n 1 (pc + 1, lo, .long (Int64.ofNat (k : Nat)) :: sk, hp)
  | .aconst_null => xm_ok n 1 (pc + 1, lo, .null :: sk, hp)
  | .ldc_w k => match xp_cn M.2.2.2.2.1 k with
    | some v => xm_ok n 3 (pc + 3, lo, .int v :: sk, hp)
    | none => none
  | .iload k => xm_ld n 2 xm_isI k pc lo sk hp
  | .iload_n k => xm_ld n 1 xm_isI k pc lo sk hp
  | .lload k => xm_ld n 2 xm_isJ k pc lo sk hp
  | .lload_n k => xm_ld n 1 xm_isJ k pc lo sk hp
  | .aload k => xm_ld n 2 xm_isA k pc lo sk hp
  | .aload_n k => xm_ld n 1 xm_isA k pc lo sk hp
  | .istore k => xm_sto n 2 xm_isI k pc lo sk hp
  | .istore_n k => xm_sto n 1 xm_isI k pc lo sk hp
  | .astore k => xm_sto n 2 xm_isA k pc lo sk hp
  | .astore_n k => xm_sto n 1 xm_isA k pc lo sk hp
  | .lstore k => xm_stJ n 2 k pc lo sk hp
  | .lstore_n k => xm_stJ n 1 k pc lo sk hp
  | .iinc k d => xm_inc n pc k d lo sk hp
  | .iadd => xm_i2 n (fun x y => x + y) pc lo sk hp
  | .isub => xm_i2 n (fun x y => x - y) pc lo sk hp
  | .imul => xm_i2 n (fun x y => x * y) pc lo sk hp
  | .iand => xm_i2 n (fun x y => x &&& y) pc lo sk hp
  | .ior => xm_i2 n (fun x y => x ||| y) pc lo sk hp
  | .ixor => xm_i2 n (fun x y => x ^^^ y) pc lo sk hp
  | .ishl => xm_i2 n (fun x y => x <<< (y &&& 31)) pc lo sk hp
  | .ishr => xm_i2 n (fun x y => x >>> (y &&& 31)) pc lo sk hp
  | .iushr => xm_i2 n (fun x y => (x.toUInt32 >>> (y.toUInt32 &&& Int32.toUInt32 31)).toInt32) pc lo sk hp
  | .ineg => xm_i1 n (fun x => -x) pc lo sk hp
  | .idiv => xm_d2 n (fun x y => x / y) pc lo sk hp
  | .irem => xm_d2 n (fun x y => x - x / y * y) pc lo sk hp
  | .ladd => xm_j2 n (fun x y => x + y) pc lo sk hp
  | .lsub => xm_j2 n (fun x y => x - y) pc lo sk hp
  | .land => xm_j2 n (fun x y => x &&& y) pc lo sk hp
  | .lor => xm_j2 n (fun x y => x ||| y) pc lo sk hp
  | .lxor => xm_j2 n (fun x y => x ^^^ y) pc lo sk hp
  | .lshl => xm_jsh n (fun x y => x <<< (y.toInt64 &&& 63)) pc lo sk hp
  | .lshr => xm_jsh n (fun x y => x >>> (y.toInt64 &&& 63)) pc lo sk hp
  | .lcmp => match sk with
    | .long y :: .long x :: sk => xm_ok n 1 (pc + 1, lo, .int (lg_cmp x y) :: sk, hp)
    | _ => none
  | .i2l => match sk with
    | .int x :: sk => xm_ok n 1 (pc + 1, lo, .long x.toInt64 :: sk, hp)
    | _ => none
  | .l2i => match sk with
    | .long x :: sk => xm_ok n 1 (pc + 1, lo, .int x.toInt32 :: sk, hp)
    | _ => none
  | .dup => xm_dup n pc lo sk hp
  | .dup_x1 => xm_dx1 n pc lo sk hp
  | .dup_x2 => xm_dx2 n pc lo sk hp
  | .dup2 => xm_d22 n pc lo sk hp
  | .pop => xm_pop n pc lo sk hp
  | .goto o => xm_jmp n pc o true lo sk hp
  | .if_icmp c o => xm_icmp n pc c o lo sk hp
  | .ifCond c o => xm_if n pc c o lo sk hp
  | .tableswitch d l h os => xm_tsw pc d l h os lo sk hp
  | .iaload => xm_iald n pc lo sk hp
  | .baload => xm_zald n pc lo sk hp
  | .laload => xm_lald n pc lo sk hp
  | .iastore => xm_iast n pc lo sk hp
  | .bastore => xm_zast n pc lo sk hp
  | .lastore => xm_last n pc lo sk hp
  | .arraylength => xm_alen n pc lo sk hp
  | .newarray t => xm_newa n pc t lo sk hp
  | .getfield k => xm_get n pc M.2.2.2.2.1 k lo sk hp
  | .putfield k => xm_put n pc M.2.2.2.2.1 k M.2.2.2.2.2.2.2 lo sk hp
  | .new k => xm_new n pc M.2.2.2.2.1 k lo sk hp
  | .invokestatic k => if xp_ac M.2.2.2.2.1 k then xm_copy n pc M lo sk hp else if xp_mm M.2.2.2.2.1 k then xm_min n pc M lo sk hp else xm_calS n pc M k lo sk hp
  | .invokevirtual k => xm_calV n pc M k lo sk hp
  | .invokespecial k => xm_calP n pc M k lo sk hp
  | .ireturn => xm_end n M.2.2.2.1 .ireturn sk hp
  | .lreturn => xm_end n M.2.2.2.1 .lreturn sk hp
  | .areturn => xm_end n M.2.2.2.1 .areturn sk hp
  | .return_ => xm_end n M.2.2.2.1 .return_ sk hp
  | _ => none
def xm_step (j : Nat) (x : xm_S) : Option xm_T := match xp_mi j with
  | some M => match decode M.2.1 x.1 with
    | .ok (i, n) => xm_ex M x.1 x.2.1 x.2.2.1 x.2.2.2 n i
    | _ => none
  | none => none
def xm_start (j : Nat) (as : List Value) (hp : xm_H) : Option xm_S := match xp_mi j with
  | some M => if (xm_lay as).length ≤ M.2.2.1 then some (0, xm_ent M.2.2.1 as, [], hp) else none
  | none => none
def xm_run : Nat → Nat → xm_S → Option xm_R
  | 0, _, _ => none
  | n + 1, j, x => match xm_step j x with
    | some (.inl y) => xm_run n j y
    | some (.inr (.inl r)) => some r
    | some (.inr (.inr ((j', as), y))) => match xm_start j' as y.2.2.2 with
      | some z => match xm_run n j' z with
        | some r => xm_run n j (y.1, y.2.1, r.1.toList ++ y.2.2.1, r.2)
        | none => none
      | none => none
    | none => none
theorem xm_run_up : ∀ (n j : Nat) (x : xm_S) (r : xm_R), xm_run n j x = some r → xm_run (n + 1) j x = some r
  | 0, _, _, _, h => by simp [xm_run] at h
  | n + 1, j, x, r, h => by
    rw [xm_run] at h ⊢
    split at h
    · rename_i y hy
      try rw [hy]
      exact xm_run_up n j y r h
    · rename_i r' hy
      try rw [hy]
      exact h
    · rename_i j' as y hy
      try rw [hy]
      split at h
      · rename_i z hz
        try rw [hz]
        split at h
        · rename_i r' hr
          simp only [xm_run_up n j' z r' hr]
          exact xm_run_up n j _ r h
        · cases h
      · cases h
    · cases h
theorem xm_run_le {n m j : Nat} {x : xm_S} {r : xm_R} (hl : n ≤ m) (h : xm_run n j x = some r) : xm_run m j x = some r := by
  induction hl with
  | refl => exact h
  | step _ ih => exact xm_run_up _ _ _ _ ih
theorem xm_run_det {n m j : Nat} {x : xm_S} {r r' : xm_R} (h : xm_run n j x = some r) (h' : xm_run m j x = some r') : r = r' := by
  have a := xm_run_le (Nat.le_max_left n m) h
  have b := xm_run_le (Nat.le_max_right n m) h'
  exact Option.some.inj (a.symm.trans b)
/-- the answer of a run, however long -/
noncomputable def xm_out (j : Nat) (x : xm_S) : Option xm_R := @dite _ (∃ n r, xm_run n j x = some r) (Classical.propDecidable _) (fun h => some (Classical.choose (Classical.choose_spec h))) (fun _ => none)
theorem xm_out_iff {j : Nat} {x : xm_S} {r : xm_R} : xm_out j x = some r ↔ ∃ n, xm_run n j x = some r := by
  unfold xm_out
  constructor
  · intro h
    split at h
    · rename_i hh
      exact ⟨_, (Option.some.inj h) ▸ Classical.choose_spec (Classical.choose_spec hh)⟩
    · cases h
  · rintro ⟨n, hn⟩
    have hh : ∃ n r, xm_run n j x = some r := ⟨n, r, hn⟩
    rw [dif_pos hh]
    exact congrArg some (xm_run_det (Classical.choose_spec (Classical.choose_spec hh)) hn)
theorem xm_ext {a b : Option xm_R} (h : ∀ r, a = some r ↔ b = some r) : a = b := by
  cases a with
  | some r => exact ((h r).mp rfl).symm
  | none => cases b with
    | some r => exact (h r).mpr rfl
    | none => rfl
theorem xo_next {j : Nat} {x y : xm_S} (h : xm_step j x = some (.inl y)) : xm_out j x = xm_out j y := by
  refine xm_ext fun r => ?_
  rw [xm_out_iff, xm_out_iff]
  constructor
  · rintro ⟨n, hn⟩
    cases n with
    | zero => simp [xm_run] at hn
    | succ n => rw [xm_run, h] at hn; exact ⟨n, hn⟩
  · rintro ⟨n, hn⟩
    exact ⟨n + 1, by rw [xm_run, h]; exact hn⟩
theorem xo_done {j : Nat} {x : xm_S} {r : xm_R} (h : xm_step j x = some (.inr (.inl r))) : xm_out j x = some r :=
  xm_out_iff.mpr ⟨1, by rw [xm_run, h]⟩
/-- a method's answer, at these arguments, over this heap -/
noncomputable def xm_call (j : Nat) (as : List Value) (hp : xm_H) : Option xm_R := match xm_start j as hp with
  | some z => xm_out j z
  | none => none
theorem xo_call {j j' : Nat} {as : List Value} {x y : xm_S} {r : xm_R} (h : xm_step j x = some (.inr (.inr ((j', as), y)))) (hc : xm_call j' as y.2.2.2 = some r) :
    xm_out j x = xm_out j (y.1, y.2.1, r.1.toList ++ y.2.2.1, r.2) := by
  unfold xm_call at hc
  split at hc
  · rename_i z hz
    obtain ⟨k, hk⟩ := xm_out_iff.mp hc
    refine xm_ext fun q => ?_
    rw [xm_out_iff, xm_out_iff]
    constructor
    · rintro ⟨n, hn⟩
      cases n with
      | zero => simp [xm_run] at hn
      | succ n =>
        rw [xm_run, h] at hn
        simp only [hz] at hn
        split at hn
        · rename_i r' hr
          cases xm_run_det hr hk
          exact ⟨n, hn⟩
        · cases hn
    · rintro ⟨n, hn⟩
      refine ⟨Nat.max n k + 1, ?_⟩
      rw [xm_run, h]
      simp only [hz, xm_run_le (Nat.le_max_right n k) hk]
      exact xm_run_le (Nat.le_max_left n k) hn
  · cases hc
end
section
/-- what stands at a place of a method's code -/
def xm_ins (j pc : Nat) : Option (Instr × Nat) := match xp_mi j with
  | some M => match decode M.2.1 pc with
    | .ok x => some x
    | .error _ => none
  | none => none
def xm_fl (j idx : Nat) : Option (Nat × Nat × Bool × FieldType) := match xp_mi j with
  | some M => xp_fl M.2.2.2.2.1 idx
  | none => none
def xm_ini (j : Nat) : Option (Bool × Nat) := match xp_mi j with
  | some M => some (M.2.2.2.2.2.2.2, M.2.2.2.2.1)
  | none => none
def xm_nw (j idx : Nat) : Option (Nat × List Value) := match xp_mi j with
  | some M => xp_nw M.2.2.2.2.1 idx
  | none => none
def xm_cn (j idx : Nat) : Option Int32 := match xp_mi j with
  | some M => xp_cn M.2.2.2.2.1 idx
  | none => none
def xm_rt (j : Nat) : Option (Option FieldType) := match xp_mi j with
  | some M => some M.2.2.2.1
  | none => none
def xm_to (j : Nat) (T : Nat → Nat → Option (Nat × Nat)) (idx : Nat) : Option (Nat × Nat × Nat) := match xp_mi j with
  | some M => match T M.2.2.2.2.1 idx with
    | some (j', k) => match xp_mi j' with
      | some M' => if xm_fit M M' = true then some (j', k, M'.2.2.2.2.1) else none
      | none => none
    | none => none
  | none => none
def xm_no (j : Nat) (T : Nat → Nat → Bool) (idx : Nat) : Option Bool := match xp_mi j with
  | some M => some (T M.2.2.2.2.1 idx)
  | none => none
/-- room for a frame of so many words -/
def xm_rm (j w : Nat) : Option Bool := match xp_mi j with
  | some M => some (decide (1 ≤ M.2.2.2.2.2.1) && decide (w ≤ M.2.2.2.2.2.2.1))
  | none => none
theorem xm_ins_of {j pc : Nat} {M : xm_M} {x : Instr × Nat} (hM : xp_mi j = some M) (hd : decode M.2.1 pc = .ok x) : xm_ins j pc = some x := by
  unfold xm_ins
  rw [hM]
  simp only [hd]
theorem xm_ins_decode {j pc n : Nat} {i : Instr} {M : xm_M} (hM : xp_mi j = some M) (hd : xm_ins j pc = some (i, n)) : decode M.2.1 pc = .ok (i, n) := by
  unfold xm_ins at hd
  rw [hM] at hd
  dsimp only at hd
  split at hd
  · rename_i x hx
    rw [hx, Option.some.inj hd]
  · cases hd
theorem xm_step_of' {j pc n : Nat} {i : Instr} {lo : xm_L} {sk : List Value} {hp : xm_H} (hd : xm_ins j pc = some (i, n)) : ∃ M, xp_mi j = some M ∧ xm_step j (pc, lo, sk, hp) = xm_ex M pc lo sk hp n i := by
  cases hM : xp_mi j with
  | none => simp [xm_ins, hM] at hd
  | some M =>
    refine ⟨M, rfl, ?_⟩
    have h := xm_ins_decode hM hd
    simp [xm_step, hM, h]
theorem xm_step_of {j pc n : Nat} {i : Instr} {lo : xm_L} {sk : List Value} {hp : xm_H} (hd : xm_ins j pc = some (i, n)) : ∃ M, xm_step j (pc, lo, sk, hp) = xm_ex M pc lo sk hp n i := by
  obtain ⟨M, -, h⟩ := xm_step_of' (lo := lo) (sk := sk) (hp := hp) hd
  exact ⟨M, h⟩
theorem xm_to_spec {j idx j' k oc : Nat} {T : Nat → Nat → Option (Nat × Nat)} {M : xm_M} (hM : xp_mi j = some M) (h : xm_to j T idx = some (j', k, oc)) : T M.2.2.2.2.1 idx = some (j', k) ∧ ∃ M', xp_mi j' = some M' ∧ xm_fit M M' = true ∧ M'.2.2.2.2.1 = oc := by
  simp only [xm_to, hM] at h
  split at h
  · rename_i a b hT
    split at h
    · rename_i M' hM'
      split at h
      · rename_i hl
        simp only [Option.some.injEq, Prod.mk.injEq] at h
        obtain ⟨rfl, rfl, rfl⟩ := h
        exact ⟨hT, M', hM', hl, rfl⟩
      · cases h
    · cases h
  · cases h
theorem xo_ldc {j pc idx : Nat} {lo : xm_L} {sk : List Value} {hp : xm_H} {v : Int32} (hd : xm_ins j pc = some (.ldc_w idx, 3)) (hv : xm_cn j idx = some v) : xm_out j (pc, lo, sk, hp) = xm_out j (pc + 3, lo, .int v :: sk, hp) := xo_next (by
  obtain ⟨M, hM, h⟩ := xm_step_of' (lo := lo) (sk := sk) (hp := hp) hd
  rw [h]; simp [xm_cn, hM] at hv; simp [xm_ex, hv, xm_ok])
/-- calls: the callee's answer as an equation -/
theorem xo_calS' {j pc idx j' k oc : Nat} {lo : xm_L} {sk As Ar rest : List Value} {hp hp' : xm_H} {r : Option Value} (hd : xm_ins j pc = some (.invokestatic idx, 3)) (ha : xm_no j xp_ac idx = some false) (hb : xm_no j xp_mm idx = some false) (hm : xm_to j xp_ms idx = some (j', k, oc)) (hk : k ≤ sk.length) (h1 : sk.take k = Ar) (h2 : Ar.reverse = As) (h3 : sk.drop k = rest) (hl : xm_low rest = true)
    (hc : xm_call j' As hp = some (r, hp')) : xm_out j (pc, lo, sk, hp) = xm_out j (pc + 3, lo, r.toList ++ rest, hp') := by
  obtain ⟨M, hM, h⟩ := xm_step_of' (lo := lo) (sk := sk) (hp := hp) hd
  obtain ⟨hT, M', hM', hlv, -⟩ := xm_to_spec hM hm
  simp [xm_no, hM] at ha hb
  subst h1 h2 h3
  have hs : xm_step j (pc, lo, sk, hp) = some (.inr (.inr ((j', (sk.take k).reverse), (pc + 3, lo, sk.drop k, hp)))) := by
    rw [h]; simp [xm_ex, ha, hb, xm_calS, hT, hM', hlv, hk, hl]
  exact xo_call hs hc
theorem xo_calV' {j pc idx j' k oc b : Nat} {lo : xm_L} {sk As Ar rest : List Value} {hp hp' : xm_H} {r : Option Value} {fs : List Value} (hd : xm_ins j pc = some (.invokevirtual idx, 3)) (hm : xm_to j xp_mv idx = some (j', k, oc)) (hk : k ≤ sk.length) (h1 : sk.take k = Ar) (h2 : Ar.reverse = As) (h3 : sk.drop k = .ref b :: rest) (hl : xm_low rest = true) (hb : hp.1 b = some (.inr (.inl (oc, fs))))
    (hc : xm_call j' (.ref b :: As) hp = some (r, hp')) : xm_out j (pc, lo, sk, hp) = xm_out j (pc + 3, lo, r.toList ++ rest, hp') := by
  obtain ⟨M, hM, h⟩ := xm_step_of' (lo := lo) (sk := sk) (hp := hp) hd
  obtain ⟨hT, M', hM', hlv, rfl⟩ := xm_to_spec hM hm
  subst h1 h2
  have hs : xm_step j (pc, lo, sk, hp) = some (.inr (.inr ((j', .ref b :: (sk.take k).reverse), (pc + 3, lo, rest, hp)))) := by
    rw [h]; simp [xm_ex, xm_calV, hT, hM', hlv, hk, hl, h3, xm_obj, hb]
  exact xo_call hs hc
theorem xo_calP' {j pc idx j' k oc b : Nat} {lo : xm_L} {sk As Ar rest : List Value} {hp hp' : xm_H} {r : Option Value} (hd : xm_ins j pc = some (.invokespecial idx, 3)) (ha : xm_no j xp_oi idx = some false) (hm : xm_to j xp_mp idx = some (j', k, oc)) (hk : k ≤ sk.length) (h1 : sk.take k = Ar) (h2 : Ar.reverse = As) (h3 : sk.drop k = .ref b :: rest) (hl : xm_low rest = true)
    (hc : xm_call j' (.ref b :: As) hp = some (r, hp')) : xm_out j (pc, lo, sk, hp) = xm_out j (pc + 3, lo, r.toList ++ rest, hp') := by
  obtain ⟨M, hM, h⟩ := xm_step_of' (lo := lo) (sk := sk) (hp := hp) hd
  obtain ⟨hT, M', hM', hlv, -⟩ := xm_to_spec hM hm
  simp [xm_no, hM] at ha
  subst h1 h2
  have hs : xm_step j (pc, lo, sk, hp) = some (.inr (.inr ((j', .ref b :: (sk.take k).reverse), (pc + 3, lo, rest, hp)))) := by
    rw [h]; simp [xm_ex, ha, xm_calP, hT, hM', hlv, hk, hl, h3]
  exact xo_call hs hc
theorem xo_oi {j pc idx a : Nat} {lo : xm_L} {rest : List Value} {hp : xm_H} (hd : xm_ins j pc = some (.invokespecial idx, 3)) (ha : xm_no j xp_oi idx = some true) (hl : xm_low rest = true) (hrm : xm_rm j 20 = some true) : xm_out j (pc, lo, .ref a :: rest, hp) = xm_out j (pc + 3, lo, rest, hp) := xo_next (by
  obtain ⟨M, hM, h⟩ := xm_step_of' (lo := lo) (sk := .ref a :: rest) (hp := hp) hd
  rw [h]; simp [xm_no, hM] at ha; simp [xm_rm, hM] at hrm; simp [xm_ex, xm_calP, ha, xm_ok, hl, hrm])
theorem xo_copy {j pc idx a a0 n0 n1 : Nat} {lo : xm_L} {rest : List Value} {hp : xm_H} {z dp sp : Int32} {f g : Nat → Int32} (hd : xm_ins j pc = some (.invokestatic idx, 3)) (ha : xm_no j xp_ac idx = some true) (h0 : hp.1 a0 = some (.inl (.int, n0, .inl f))) (h1 : hp.1 a = some (.inl (.int, n1, .inl g)))
    (hne : a0 ≠ a) (q1 : ¬ sp < 0) (q2 : ¬ dp < 0) (q3 : ¬ z < 0) (q4 : sp.toNatClampNeg + z.toNatClampNeg ≤ n0) (q5 : dp.toNatClampNeg + z.toNatClampNeg ≤ n1) (hl : xm_low rest = true) (hrm : xm_rm j 26 = some true) :
    xm_out j (pc, lo, .int z :: .int dp :: .ref a :: .int sp :: .ref a0 :: rest, hp) = xm_out j (pc + 3, lo, rest, xm_up hp a (.inl (.int, n1, .inl (va_cpy f g sp.toNatClampNeg dp.toNatClampNeg z.toNatClampNeg)))) := xo_next (by
  obtain ⟨M, hM, h⟩ := xm_step_of' (lo := lo) (sk := .int z :: .int dp :: .ref a :: .int sp :: .ref a0 :: rest) (hp := hp) hd
  rw [h]; simp [xm_no, hM] at ha; simp [xm_rm, hM] at hrm; simp only [xm_ex, ha, xm_copy, h0, h1, if_true]; rw [if_pos ⟨hne, q1, q2, q3, q4, q5, hl, hrm.1, hrm.2⟩]; rfl)
theorem xo_min {j pc idx : Nat} {lo : xm_L} {rest : List Value} {hp : xm_H} {x y : Int32} (hd : xm_ins j pc = some (.invokestatic idx, 3)) (ha : xm_no j xp_ac idx = some false) (hb : xm_no j xp_mm idx = some true) (hl : xm_low rest = true) (hrm : xm_rm j 21 = some true) : xm_out j (pc, lo, .int y :: .int x :: rest, hp) = xm_out j (pc + 3, lo, .int (if y < x then y else x) :: rest, hp) := xo_next (by
  obtain ⟨M, hM, h⟩ := xm_step_of' (lo := lo) (sk := .int y :: .int x :: rest) (hp := hp) hd
  rw [h]; simp [xm_no, hM] at ha hb; simp [xm_rm, hM] at hrm; simp [xm_ex, ha, hb, xm_min, xm_ok, hl, hrm])
/-- ends -/
theorem xo_ret {j pc : Nat} {lo : xm_L} {sk : List Value} {hp : xm_H} {i : Instr} {rt : Option FieldType} {r : Option Value} (hd : xm_ins j pc = some (i, 1)) (ht : xm_rt j = some rt) (hr : xm_ret rt i sk = some r) : xm_out j (pc, lo, sk, hp) = some (r, hp) := by
  obtain ⟨M, hM, h⟩ := xm_step_of' (lo := lo) (sk := sk) (hp := hp) hd
  simp [xm_rt, hM] at ht
  subst ht
  refine xo_done ?_
  rw [h]
  cases i <;> first | (simp [xm_ret] at hr; done) | simp [xm_ex, xm_end, hr]
theorem xm_call_of {j : Nat} {as : List Value} {hp : xm_H} {M : xm_M} {lo : xm_L} {r : xm_R} (hM : xp_mi j = some M) (hn : (xm_lay as).length ≤ M.2.2.1) (hl : xm_ent M.2.2.1 as = lo) (h : xm_out j (0, lo, [], hp) = some r) : xm_call j as hp = some r := by
  simp only [xm_call, xm_start, hM, hn, if_true, hl, h]
end
section
/-! rows of the small machine, one an instruction: written by wip/whole/gen_rows.py -/
theorem xo_iconst {j pc : Nat} {lo : xm_L} {sk : List Value} {hp : xm_H} {k : Int} {v : Int32} (hd : xm_ins j pc = some (.iconst k, 1)) (hv : Int32.ofInt k = v) : xm_out j (pc, lo, sk, hp) = xm_out j (pc + 1, lo, .int v :: sk, hp) := xo_next (by obtain ⟨M, h⟩ := xm_step_of (lo := lo) (sk := sk) (hp := hp) hd; rw [h]; simp [xm_ex, xm_ok, hv])
theorem xo_bipush {j pc : Nat} {lo : xm_L} {sk : List Value} {hp : xm_H} {k : Int} {v : Int32} (hd : xm_ins j pc = some (.bipush k, 2)) (hv : (Int8.ofInt k).toInt32 = v) : xm_out j (pc, lo, sk, hp) = xm_out j (pc + 2, lo, .int v :: sk, hp) := xo_next (by obtain ⟨M, h⟩ := xm_step_of (lo := lo) (sk := sk) (hp := hp) hd; rw [h]; simp [xm_ex, xm_ok, hv])
theorem xo_sipush {j pc : Nat} {lo : xm_L} {sk : List Value} {hp : xm_H} {k : Int} {v : Int32} (hd : xm_ins j pc = some (.sipush k, 3)) (hv : (Int16.ofInt k).toInt32 = v) : xm_out j (pc, lo, sk, hp) = xm_out j (pc + 3, lo, .int v :: sk, hp) := xo_next (by obtain ⟨M, h⟩ := xm_step_of (lo := lo) (sk := sk) (hp := hp) hd; rw [h]; simp [xm_ex, xm_ok, hv])
theorem xo_lconst {j pc : Nat} {lo : xm_L} {sk : List Value} {hp : xm_H} {k : Fin 2} {v : Int64} (hd : xm_ins j pc = some (.lconst k, 1)) (hv : Int64.ofNat (k : Nat) = v) : xm_out j (pc, lo, sk, hp) = xm_out j (pc + 1, lo, .long v :: sk, hp) := xo_next (by obtain ⟨M, h⟩ := xm_step_of (lo := lo) (sk := sk) (hp := hp) hd; rw [h]; simp [xm_ex, xm_ok, hv])
theorem xo_null {j pc : Nat} {lo : xm_L} {sk : List Value} {hp : xm_H}  (hd : xm_ins j pc = some (.aconst_null, 1))  : xm_out j (pc, lo, sk, hp) = xm_out j (pc + 1, lo, .null :: sk, hp) := xo_next (by obtain ⟨M, h⟩ := xm_step_of (lo := lo) (sk := sk) (hp := hp) hd; rw [h]; simp [xm_ex, xm_ok])
theorem xo_iload {j pc : Nat} {lo : xm_L} {sk : List Value} {hp : xm_H} {k : Nat} {v : Int32} (hd : xm_ins j pc = some (.iload k, 2)) (hl : lo[k]? = some (some (.int v))) : xm_out j (pc, lo, sk, hp) = xm_out j (pc + 2, lo, .int v :: sk, hp) := xo_next (by obtain ⟨M, h⟩ := xm_step_of (lo := lo) (sk := sk) (hp := hp) hd; rw [h]; simp [xm_ex, xm_ld, xm_ok, xm_isI, xm_isJ, xm_isA, hl])
theorem xo_iload_n {j pc : Nat} {lo : xm_L} {sk : List Value} {hp : xm_H} {k : Fin 4} {v : Int32} (hd : xm_ins j pc = some (.iload_n k, 1)) (hl : lo[(k : Nat)]? = some (some (.int v))) : xm_out j (pc, lo, sk, hp) = xm_out j (pc + 1, lo, .int v :: sk, hp) := xo_next (by obtain ⟨M, h⟩ := xm_step_of (lo := lo) (sk := sk) (hp := hp) hd; rw [h]; simp [xm_ex, xm_ld, xm_ok, xm_isI, xm_isJ, xm_isA, hl])
theorem xo_lload {j pc : Nat} {lo : xm_L} {sk : List Value} {hp : xm_H} {k : Nat} {v : Int64} (hd : xm_ins j pc = some (.lload k, 2)) (hl : lo[k]? = some (some (.long v))) : xm_out j (pc, lo, sk, hp) = xm_out j (pc + 2, lo, .long v :: sk, hp) := xo_next (by obtain ⟨M, h⟩ := xm_step_of (lo := lo) (sk := sk) (hp := hp) hd; rw [h]; simp [xm_ex, xm_ld, xm_ok, xm_isI, xm_isJ, xm_isA, hl])
theorem xo_lload_n {j pc : Nat} {lo : xm_L} {sk : List Value} {hp : xm_H} {k : Fin 4} {v : Int64} (hd : xm_ins j pc = some (.lload_n k, 1)) (hl : lo[(k : Nat)]? = some (some (.long v))) : xm_out j (pc, lo, sk, hp) = xm_out j (pc + 1, lo, .long v :: sk, hp) := xo_next (by obtain ⟨M, h⟩ := xm_step_of (lo := lo) (sk := sk) (hp := hp) hd; rw [h]; simp [xm_ex, xm_ld, xm_ok, xm_isI, xm_isJ, xm_isA, hl])
theorem xo_aload {j pc : Nat} {lo : xm_L} {sk : List Value} {hp : xm_H} {k : Nat} {v : Nat} (hd : xm_ins j pc = some (.aload k, 2)) (hl : lo[k]? = some (some (.ref v))) : xm_out j (pc, lo, sk, hp) = xm_out j (pc + 2, lo, .ref v :: sk, hp) := xo_next (by obtain ⟨M, h⟩ := xm_step_of (lo := lo) (sk := sk) (hp := hp) hd; rw [h]; simp [xm_ex, xm_ld, xm_ok, xm_isI, xm_isJ, xm_isA, hl])
theorem xo_aload_n {j pc : Nat} {lo : xm_L} {sk : List Value} {hp : xm_H} {k : Fin 4} {v : Nat} (hd : xm_ins j pc = some (.aload_n k, 1)) (hl : lo[(k : Nat)]? = some (some (.ref v))) : xm_out j (pc, lo, sk, hp) = xm_out j (pc + 1, lo, .ref v :: sk, hp) := xo_next (by obtain ⟨M, h⟩ := xm_step_of (lo := lo) (sk := sk) (hp := hp) hd; rw [h]; simp [xm_ex, xm_ld, xm_ok, xm_isI, xm_isJ, xm_isA, hl])
theorem xo_istore {j pc : Nat} {lo : xm_L} {sk : List Value} {hp : xm_H} {lo' : xm_L} {k : Nat} {v : Int32} (hd : xm_ins j pc = some (.istore k, 2)) (hn : k < lo.length) (hl : xm_st1 lo k (.int v) = lo') : xm_out j (pc, lo, .int v :: sk, hp) = xm_out j (pc + 2, lo', sk, hp) := xo_next (by obtain ⟨M, h⟩ := xm_step_of (lo := lo) (sk := .int v :: sk) (hp := hp) hd; rw [h]; simp [xm_ex, xm_sto, xm_ok, xm_isI, xm_isA, hn, hl])
theorem xo_istore_n {j pc : Nat} {lo : xm_L} {sk : List Value} {hp : xm_H} {lo' : xm_L} {k : Fin 4} {v : Int32} (hd : xm_ins j pc = some (.istore_n k, 1)) (hn : (k : Nat) < lo.length) (hl : xm_st1 lo (k : Nat) (.int v) = lo') : xm_out j (pc, lo, .int v :: sk, hp) = xm_out j (pc + 1, lo', sk, hp) := xo_next (by obtain ⟨M, h⟩ := xm_step_of (lo := lo) (sk := .int v :: sk) (hp := hp) hd; rw [h]; simp [xm_ex, xm_sto, xm_ok, xm_isI, xm_isA, hn, hl])
theorem xo_astore {j pc : Nat} {lo : xm_L} {sk : List Value} {hp : xm_H} {lo' : xm_L} {k : Nat} {v : Nat} (hd : xm_ins j pc = some (.astore k, 2)) (hn : k < lo.length) (hl : xm_st1 lo k (.ref v) = lo') : xm_out j (pc, lo, .ref v :: sk, hp) = xm_out j (pc + 2, lo', sk, hp) := xo_next (by obtain ⟨M, h⟩ := xm_step_of (lo := lo) (sk := .ref v :: sk) (hp := hp) hd; rw [h]; simp [xm_ex, xm_sto, xm_ok, xm_isI, xm_isA, hn, hl])
theorem xo_astore_n {j pc : Nat} {lo : xm_L} {sk : List Value} {hp : xm_H} {lo' : xm_L} {k : Fin 4} {v : Nat} (hd : xm_ins j pc = some (.astore_n k, 1)) (hn : (k : Nat) < lo.length) (hl : xm_st1 lo (k : Nat) (.ref v) = lo') : xm_out j (pc, lo, .ref v :: sk, hp) = xm_out j (pc + 1, lo', sk, hp) := xo_next (by obtain ⟨M, h⟩ := xm_step_of (lo := lo) (sk := .ref v :: sk) (hp := hp) hd; rw [h]; simp [xm_ex, xm_sto, xm_ok, xm_isI, xm_isA, hn, hl])
theorem xo_lstore {j pc : Nat} {lo : xm_L} {sk : List Value} {hp : xm_H} {lo' : xm_L} {k : Nat} {v : Int64} (hd : xm_ins j pc = some (.lstore k, 2)) (hn : k + 1 < lo.length) (hl : xm_st2 lo k (.long v) = lo') : xm_out j (pc, lo, .long v :: sk, hp) = xm_out j (pc + 2, lo', sk, hp) := xo_next (by obtain ⟨M, h⟩ := xm_step_of (lo := lo) (sk := .long v :: sk) (hp := hp) hd; rw [h]; simp [xm_ex, xm_stJ, xm_ok, hn, hl])
theorem xo_lstore_n {j pc : Nat} {lo : xm_L} {sk : List Value} {hp : xm_H} {lo' : xm_L} {k : Fin 4} {v : Int64} (hd : xm_ins j pc = some (.lstore_n k, 1)) (hn : (k : Nat) + 1 < lo.length) (hl : xm_st2 lo (k : Nat) (.long v) = lo') : xm_out j (pc, lo, .long v :: sk, hp) = xm_out j (pc + 1, lo', sk, hp) := xo_next (by obtain ⟨M, h⟩ := xm_step_of (lo := lo) (sk := .long v :: sk) (hp := hp) hd; rw [h]; simp [xm_ex, xm_stJ, xm_ok, hn, hl])
theorem xo_iinc {j pc : Nat} {lo : xm_L} {sk : List Value} {hp : xm_H} {lo' : xm_L} {k : Nat} {d : Int} {x v : Int32} (hd : xm_ins j pc = some (.iinc k d, 3)) (hl : lo[k]? = some (some (.int x))) (hv : x + Int32.ofInt d = v) (hl' : xm_st1 lo k (.int v) = lo') : xm_out j (pc, lo, sk, hp) = xm_out j (pc + 3, lo', sk, hp) := xo_next (by obtain ⟨M, h⟩ := xm_step_of (lo := lo) (sk := sk) (hp := hp) hd; rw [h]; simp [xm_ex, xm_inc, xm_ok, hl, hv, hl'])
theorem xo_iadd {j pc : Nat} {lo : xm_L} {sk : List Value} {hp : xm_H} {x y : Int32} (hd : xm_ins j pc = some (.iadd, 1))  : xm_out j (pc, lo, .int y :: .int x :: sk, hp) = xm_out j (pc + 1, lo, .int (x + y) :: sk, hp) := xo_next (by obtain ⟨M, h⟩ := xm_step_of (lo := lo) (sk := .int y :: .int x :: sk) (hp := hp) hd; rw [h]; simp [xm_ex, xm_i2, xm_ok])
theorem xo_isub {j pc : Nat} {lo : xm_L} {sk : List Value} {hp : xm_H} {x y : Int32} (hd : xm_ins j pc = some (.isub, 1))  : xm_out j (pc, lo, .int y :: .int x :: sk, hp) = xm_out j (pc + 1, lo, .int (x - y) :: sk, hp) := xo_next (by obtain ⟨M, h⟩ := xm_step_of (lo := lo) (sk := .int y :: .int x :: sk) (hp := hp) hd; rw [h]; simp [xm_ex, xm_i2, xm_ok])
theorem xo_imul {j pc : Nat} {lo : xm_L} {sk : List Value} {hp : xm_H} {x y : Int32} (hd : xm_ins j pc = some (.imul, 1))  : xm_out j (pc, lo, .int y :: .int x :: sk, hp) = xm_out j (pc + 1, lo, .int (x * y) :: sk, hp) := xo_next (by obtain ⟨M, h⟩ := xm_step_of (lo := lo) (sk := .int y :: .int x :: sk) (hp := hp) hd; rw [h]; simp [xm_ex, xm_i2, xm_ok])
theorem xo_iand {j pc : Nat} {lo : xm_L} {sk : List Value} {hp : xm_H} {x y : Int32} (hd : xm_ins j pc = some (.iand, 1))  : xm_out j (pc, lo, .int y :: .int x :: sk, hp) = xm_out j (pc + 1, lo, .int (x &&& y) :: sk, hp) := xo_next (by obtain ⟨M, h⟩ := xm_step_of (lo := lo) (sk := .int y :: .int x :: sk) (hp := hp) hd; rw [h]; simp [xm_ex, xm_i2, xm_ok])
theorem xo_ior {j pc : Nat} {lo : xm_L} {sk : List Value} {hp : xm_H} {x y : Int32} (hd : xm_ins j pc = some (.ior, 1))  : xm_out j (pc, lo, .int y :: .int x :: sk, hp) = xm_out j (pc + 1, lo, .int (x ||| y) :: sk, hp) := xo_next (by obtain ⟨M, h⟩ := xm_step_of (lo := lo) (sk := .int y :: .int x :: sk) (hp := hp) hd; rw [h]; simp [xm_ex, xm_i2, xm_ok])
theorem xo_ixor {j pc : Nat} {lo : xm_L} {sk : List Value} {hp : xm_H} {x y : Int32} (hd : xm_ins j pc = some (.ixor, 1))  : xm_out j (pc, lo, .int y :: .int x :: sk, hp) = xm_out j (pc + 1, lo, .int (x ^^^ y) :: sk, hp) := xo_next (by obtain ⟨M, h⟩ := xm_step_of (lo := lo) (sk := .int y :: .int x :: sk) (hp := hp) hd; rw [h]; simp [xm_ex, xm_i2, xm_ok])
theorem xo_ishl {j pc : Nat} {lo : xm_L} {sk : List Value} {hp : xm_H} {x y : Int32} (hd : xm_ins j pc = some (.ishl, 1))  : xm_out j (pc, lo, .int y :: .int x :: sk, hp) = xm_out j (pc + 1, lo, .int (x <<< (y &&& 31)) :: sk, hp) := xo_next (by obtain ⟨M, h⟩ := xm_step_of (lo := lo) (sk := .int y :: .int x :: sk) (hp := hp) hd; rw [h]; simp [xm_ex, xm_i2, xm_ok])
theorem xo_ishr {j pc : Nat} {lo : xm_L} {sk : List Value} {hp : xm_H} {x y : Int32} (hd : xm_ins j pc = some (.ishr, 1))  : xm_out j (pc, lo, .int y :: .int x :: sk, hp) = xm_out j (pc + 1, lo, .int (x >>> (y &&& 31)) :: sk, hp) := xo_next (by obtain ⟨M, h⟩ := xm_step_of (lo := lo) (sk := .int y :: .int x :: sk) (hp := hp) hd; rw [h]; simp [xm_ex, xm_i2, xm_ok])
theorem xo_iushr {j pc : Nat} {lo : xm_L} {sk : List Value} {hp : xm_H} {x y : Int32} (hd : xm_ins j pc = some (.iushr, 1))  : xm_out j (pc, lo, .int y :: .int x :: sk, hp) = xm_out j (pc + 1, lo, .int ((x.toUInt32 >>> (y.toUInt32 &&& Int32.toUInt32 31)).toInt32) :: sk, hp) := xo_next (by obtain ⟨M, h⟩ := xm_step_of (lo := lo) (sk := .int y :: .int x :: sk) (hp := hp) hd; rw [h]; simp [xm_ex, xm_i2, xm_ok])
theorem xo_idiv {j pc : Nat} {lo : xm_L} {sk : List Value} {hp : xm_H} {x y : Int32} (hd : xm_ins j pc = some (.idiv, 1)) (hy : ¬ y = 0) : xm_out j (pc, lo, .int y :: .int x :: sk, hp) = xm_out j (pc + 1, lo, .int (x / y) :: sk, hp) := xo_next (by obtain ⟨M, h⟩ := xm_step_of (lo := lo) (sk := .int y :: .int x :: sk) (hp := hp) hd; rw [h]; simp [xm_ex, xm_d2, xm_ok, hy])
theorem xo_irem {j pc : Nat} {lo : xm_L} {sk : List Value} {hp : xm_H} {x y : Int32} (hd : xm_ins j pc = some (.irem, 1)) (hy : ¬ y = 0) : xm_out j (pc, lo, .int y :: .int x :: sk, hp) = xm_out j (pc + 1, lo, .int (x - x / y * y) :: sk, hp) := xo_next (by obtain ⟨M, h⟩ := xm_step_of (lo := lo) (sk := .int y :: .int x :: sk) (hp := hp) hd; rw [h]; simp [xm_ex, xm_d2, xm_ok, hy])
theorem xo_ineg {j pc : Nat} {lo : xm_L} {sk : List Value} {hp : xm_H} {x : Int32} (hd : xm_ins j pc = some (.ineg, 1))  : xm_out j (pc, lo, .int x :: sk, hp) = xm_out j (pc + 1, lo, .int (-x) :: sk, hp) := xo_next (by obtain ⟨M, h⟩ := xm_step_of (lo := lo) (sk := .int x :: sk) (hp := hp) hd; rw [h]; simp [xm_ex, xm_i1, xm_ok])
theorem xo_ladd {j pc : Nat} {lo : xm_L} {sk : List Value} {hp : xm_H} {x y : Int64} (hd : xm_ins j pc = some (.ladd, 1))  : xm_out j (pc, lo, .long y :: .long x :: sk, hp) = xm_out j (pc + 1, lo, .long (x + y) :: sk, hp) := xo_next (by obtain ⟨M, h⟩ := xm_step_of (lo := lo) (sk := .long y :: .long x :: sk) (hp := hp) hd; rw [h]; simp [xm_ex, xm_j2, xm_ok])
theorem xo_lsub {j pc : Nat} {lo : xm_L} {sk : List Value} {hp : xm_H} {x y : Int64} (hd : xm_ins j pc = some (.lsub, 1))  : xm_out j (pc, lo, .long y :: .long x :: sk, hp) = xm_out j (pc + 1, lo, .long (x - y) :: sk, hp) := xo_next (by obtain ⟨M, h⟩ := xm_step_of (lo := lo) (sk := .long y :: .long x :: sk) (hp := hp) hd; rw [h]; simp [xm_ex, xm_j2, xm_ok])
theorem xo_land {j pc : Nat} {lo : xm_L} {sk : List Value} {hp : xm_H} {x y : Int64} (hd : xm_ins j pc = some (.land, 1))  : xm_out j (pc, lo, .long y :: .long x :: sk, hp) = xm_out j (pc + 1, lo, .long (x &&& y) :: sk, hp) := xo_next (by obtain ⟨M, h⟩ := xm_step_of (lo := lo) (sk := .long y :: .long x :: sk) (hp := hp) hd; rw [h]; simp [xm_ex, xm_j2, xm_ok])
theorem xo_lor {j pc : Nat} {lo : xm_L} {sk : List Value} {hp : xm_H} {x y : Int64} (hd : xm_ins j pc = some (.lor, 1))  : xm_out j (pc, lo, .long y :: .long x :: sk, hp) = xm_out j (pc + 1, lo, .long (x ||| y) :: sk, hp) := xo_next (by obtain ⟨M, h⟩ := xm_step_of (lo := lo) (sk := .long y :: .long x :: sk) (hp := hp) hd; rw [h]; simp [xm_ex, xm_j2, xm_ok])
theorem xo_lxor {j pc : Nat} {lo : xm_L} {sk : List Value} {hp : xm_H} {x y : Int64} (hd : xm_ins j pc = some (.lxor, 1))  : xm_out j (pc, lo, .long y :: .long x :: sk, hp) = xm_out j (pc + 1, lo, .long (x ^^^ y) :: sk, hp) := xo_next (by obtain ⟨M, h⟩ := xm_step_of (lo := lo) (sk := .long y :: .long x :: sk) (hp := hp) hd; rw [h]; simp [xm_ex, xm_j2, xm_ok])
theorem xo_lshl {j pc : Nat} {lo : xm_L} {sk : List Value} {hp : xm_H} {x : Int64} {y : Int32} (hd : xm_ins j pc = some (.lshl, 1))  : xm_out j (pc, lo, .int y :: .long x :: sk, hp) = xm_out j (pc + 1, lo, .long (x <<< (y.toInt64 &&& 63)) :: sk, hp) := xo_next (by obtain ⟨M, h⟩ := xm_step_of (lo := lo) (sk := .int y :: .long x :: sk) (hp := hp) hd; rw [h]; simp [xm_ex, xm_jsh, xm_ok])
theorem xo_lshr {j pc : Nat} {lo : xm_L} {sk : List Value} {hp : xm_H} {x : Int64} {y : Int32} (hd : xm_ins j pc = some (.lshr, 1))  : xm_out j (pc, lo, .int y :: .long x :: sk, hp) = xm_out j (pc + 1, lo, .long (x >>> (y.toInt64 &&& 63)) :: sk, hp) := xo_next (by obtain ⟨M, h⟩ := xm_step_of (lo := lo) (sk := .int y :: .long x :: sk) (hp := hp) hd; rw [h]; simp [xm_ex, xm_jsh, xm_ok])
theorem xo_lcmp {j pc : Nat} {lo : xm_L} {sk : List Value} {hp : xm_H} {x y : Int64} (hd : xm_ins j pc = some (.lcmp, 1))  : xm_out j (pc, lo, .long y :: .long x :: sk, hp) = xm_out j (pc + 1, lo, .int (lg_cmp x y) :: sk, hp) := xo_next (by obtain ⟨M, h⟩ := xm_step_of (lo := lo) (sk := .long y :: .long x :: sk) (hp := hp) hd; rw [h]; simp [xm_ex, xm_ok])
theorem xo_i2l {j pc : Nat} {lo : xm_L} {sk : List Value} {hp : xm_H} {x : Int32} (hd : xm_ins j pc = some (.i2l, 1))  : xm_out j (pc, lo, .int x :: sk, hp) = xm_out j (pc + 1, lo, .long x.toInt64 :: sk, hp) := xo_next (by obtain ⟨M, h⟩ := xm_step_of (lo := lo) (sk := .int x :: sk) (hp := hp) hd; rw [h]; simp [xm_ex, xm_ok])
theorem xo_l2i {j pc : Nat} {lo : xm_L} {sk : List Value} {hp : xm_H} {x : Int64} (hd : xm_ins j pc = some (.l2i, 1))  : xm_out j (pc, lo, .long x :: sk, hp) = xm_out j (pc + 1, lo, .int x.toInt32 :: sk, hp) := xo_next (by obtain ⟨M, h⟩ := xm_step_of (lo := lo) (sk := .long x :: sk) (hp := hp) hd; rw [h]; simp [xm_ex, xm_ok])
theorem xo_dup {j pc : Nat} {lo : xm_L} {sk : List Value} {hp : xm_H} {v : Value} (hd : xm_ins j pc = some (.dup, 1)) (h1 : v.category = 1) : xm_out j (pc, lo, v :: sk, hp) = xm_out j (pc + 1, lo, v :: v :: sk, hp) := xo_next (by obtain ⟨M, h⟩ := xm_step_of (lo := lo) (sk := v :: sk) (hp := hp) hd; rw [h]; simp [xm_ex, xm_dup, xm_ok, xm_c1, h1])
theorem xo_pop {j pc : Nat} {lo : xm_L} {sk : List Value} {hp : xm_H} {v : Value} (hd : xm_ins j pc = some (.pop, 1)) (h1 : v.category = 1) : xm_out j (pc, lo, v :: sk, hp) = xm_out j (pc + 1, lo, sk, hp) := xo_next (by obtain ⟨M, h⟩ := xm_step_of (lo := lo) (sk := v :: sk) (hp := hp) hd; rw [h]; simp [xm_ex, xm_pop, xm_ok, xm_c1, h1])
theorem xo_dup_x1 {j pc : Nat} {lo : xm_L} {sk : List Value} {hp : xm_H} {v w : Value} (hd : xm_ins j pc = some (.dup_x1, 1)) (h1 : v.category = 1) (h2 : w.category = 1) : xm_out j (pc, lo, v :: w :: sk, hp) = xm_out j (pc + 1, lo, v :: w :: v :: sk, hp) := xo_next (by obtain ⟨M, h⟩ := xm_step_of (lo := lo) (sk := v :: w :: sk) (hp := hp) hd; rw [h]; simp [xm_ex, xm_dx1, xm_ok, xm_c1, h1, h2])
theorem xo_dup_x2 {j pc : Nat} {lo : xm_L} {sk : List Value} {hp : xm_H} {v w u : Value} (hd : xm_ins j pc = some (.dup_x2, 1)) (h1 : v.category = 1) (h2 : w.category = 1) (h3 : u.category = 1) : xm_out j (pc, lo, v :: w :: u :: sk, hp) = xm_out j (pc + 1, lo, v :: w :: u :: v :: sk, hp) := xo_next (by obtain ⟨M, h⟩ := xm_step_of (lo := lo) (sk := v :: w :: u :: sk) (hp := hp) hd; rw [h]; simp [xm_ex, xm_dx2, xm_ok, xm_c1, h1, h2, h3])
theorem xo_dup2 {j pc : Nat} {lo : xm_L} {sk : List Value} {hp : xm_H} {v w : Value} (hd : xm_ins j pc = some (.dup2, 1)) (h1 : v.category = 1) (h2 : w.category = 1) : xm_out j (pc, lo, v :: w :: sk, hp) = xm_out j (pc + 1, lo, v :: w :: v :: w :: sk, hp) := xo_next (by obtain ⟨M, h⟩ := xm_step_of (lo := lo) (sk := v :: w :: sk) (hp := hp) hd; rw [h]; simp [xm_ex, xm_d22, xm_ok, xm_c1, h1, h2])
theorem xo_icmp_eq {j pc : Nat} {lo : xm_L} {sk : List Value} {hp : xm_H} {x y : Int32} {o : Int} {t : Nat} (hd : xm_ins j pc = some (.if_icmp .eq o, 3)) (ht : (pc : Int) + o = (t : Int)) : xm_out j (pc, lo, .int y :: .int x :: sk, hp) = if x = y then xm_out j (t, lo, sk, hp) else xm_out j (pc + 3, lo, sk, hp) := by
  obtain ⟨M, h⟩ := xm_step_of (lo := lo) (sk := .int y :: .int x :: sk) (hp := hp) hd
  split
  · rename_i hc
    exact xo_next (by rw [h]; simp [xm_ex, xm_icmp, xm_ci, xm_jmp, xm_tgt, ht, hc])
  · rename_i hc
    exact xo_next (by rw [h]; simp [xm_ex, xm_icmp, xm_ci, xm_jmp, xm_tgt, ht, hc])
theorem xo_if_eq {j pc : Nat} {lo : xm_L} {sk : List Value} {hp : xm_H} {x : Int32} {o : Int} {t : Nat} (hd : xm_ins j pc = some (.ifCond .eq o, 3)) (ht : (pc : Int) + o = (t : Int)) : xm_out j (pc, lo, .int x :: sk, hp) = if x = 0 then xm_out j (t, lo, sk, hp) else xm_out j (pc + 3, lo, sk, hp) := by
  obtain ⟨M, h⟩ := xm_step_of (lo := lo) (sk := .int x :: sk) (hp := hp) hd
  split
  · rename_i hc
    exact xo_next (by rw [h]; simp [xm_ex, xm_if, xm_ci, xm_jmp, xm_tgt, ht, hc])
  · rename_i hc
    exact xo_next (by rw [h]; simp [xm_ex, xm_if, xm_ci, xm_jmp, xm_tgt, ht, hc])
theorem xo_icmp_ne {j pc : Nat} {lo : xm_L} {sk : List Value} {hp : xm_H} {x y : Int32} {o : Int} {t : Nat} (hd : xm_ins j pc = some (.if_icmp .ne o, 3)) (ht : (pc : Int) + o = (t : Int)) : xm_out j (pc, lo, .int y :: .int x :: sk, hp) = if ¬ x = y then xm_out j (t, lo, sk, hp) else xm_out j (pc + 3, lo, sk, hp) := by
  obtain ⟨M, h⟩ := xm_step_of (lo := lo) (sk := .int y :: .int x :: sk) (hp := hp) hd
  split
  · rename_i hc
    exact xo_next (by rw [h]; simp [xm_ex, xm_icmp, xm_ci, xm_jmp, xm_tgt, ht, hc])
  · rename_i hc
    exact xo_next (by rw [h]; simp [xm_ex, xm_icmp, xm_ci, xm_jmp, xm_tgt, ht, hc])
theorem xo_if_ne {j pc : Nat} {lo : xm_L} {sk : List Value} {hp : xm_H} {x : Int32} {o : Int} {t : Nat} (hd : xm_ins j pc = some (.ifCond .ne o, 3)) (ht : (pc : Int) + o = (t : Int)) : xm_out j (pc, lo, .int x :: sk, hp) = if ¬ x = 0 then xm_out j (t, lo, sk, hp) else xm_out j (pc + 3, lo, sk, hp) := by
  obtain ⟨M, h⟩ := xm_step_of (lo := lo) (sk := .int x :: sk) (hp := hp) hd
  split
  · rename_i hc
    exact xo_next (by rw [h]; simp [xm_ex, xm_if, xm_ci, xm_jmp, xm_tgt, ht, hc])
  · rename_i hc
    exact xo_next (by rw [h]; simp [xm_ex, xm_if, xm_ci, xm_jmp, xm_tgt, ht, hc])
theorem xo_icmp_lt {j pc : Nat} {lo : xm_L} {sk : List Value} {hp : xm_H} {x y : Int32} {o : Int} {t : Nat} (hd : xm_ins j pc = some (.if_icmp .lt o, 3)) (ht : (pc : Int) + o = (t : Int)) : xm_out j (pc, lo, .int y :: .int x :: sk, hp) = if x < y then xm_out j (t, lo, sk, hp) else xm_out j (pc + 3, lo, sk, hp) := by
  obtain ⟨M, h⟩ := xm_step_of (lo := lo) (sk := .int y :: .int x :: sk) (hp := hp) hd
  split
  · rename_i hc
    exact xo_next (by rw [h]; simp [xm_ex, xm_icmp, xm_ci, xm_jmp, xm_tgt, ht, hc])
  · rename_i hc
    exact xo_next (by rw [h]; simp [xm_ex, xm_icmp, xm_ci, xm_jmp, xm_tgt, ht, hc])
theorem xo_if_lt {j pc : Nat} {lo : xm_L} {sk : List Value} {hp : xm_H} {x : Int32} {o : Int} {t : Nat} (hd : xm_ins j pc = some (.ifCond .lt o, 3)) (ht : (pc : Int) + o = (t : Int)) : xm_out j (pc, lo, .int x :: sk, hp) = if x < 0 then xm_out j (t, lo, sk, hp) else xm_out j (pc + 3, lo, sk, hp) := by
  obtain ⟨M, h⟩ := xm_step_of (lo := lo) (sk := .int x :: sk) (hp := hp) hd
  split
  · rename_i hc
    exact xo_next (by rw [h]; simp [xm_ex, xm_if, xm_ci, xm_jmp, xm_tgt, ht, hc])
  · rename_i hc
    exact xo_next (by rw [h]; simp [xm_ex, xm_if, xm_ci, xm_jmp, xm_tgt, ht, hc])
theorem xo_icmp_ge {j pc : Nat} {lo : xm_L} {sk : List Value} {hp : xm_H} {x y : Int32} {o : Int} {t : Nat} (hd : xm_ins j pc = some (.if_icmp .ge o, 3)) (ht : (pc : Int) + o = (t : Int)) : xm_out j (pc, lo, .int y :: .int x :: sk, hp) = if y ≤ x then xm_out j (t, lo, sk, hp) else xm_out j (pc + 3, lo, sk, hp) := by
  obtain ⟨M, h⟩ := xm_step_of (lo := lo) (sk := .int y :: .int x :: sk) (hp := hp) hd
  split
  · rename_i hc
    exact xo_next (by rw [h]; simp [xm_ex, xm_icmp, xm_ci, xm_jmp, xm_tgt, ht, hc])
  · rename_i hc
    exact xo_next (by rw [h]; simp [xm_ex, xm_icmp, xm_ci, xm_jmp, xm_tgt, ht, hc])
theorem xo_if_ge {j pc : Nat} {lo : xm_L} {sk : List Value} {hp : xm_H} {x : Int32} {o : Int} {t : Nat} (hd : xm_ins j pc = some (.ifCond .ge o, 3)) (ht : (pc : Int) + o = (t : Int)) : xm_out j (pc, lo, .int x :: sk, hp) = if 0 ≤ x then xm_out j (t, lo, sk, hp) else xm_out j (pc + 3, lo, sk, hp) := by
  obtain ⟨M, h⟩ := xm_step_of (lo := lo) (sk := .int x :: sk) (hp := hp) hd
  split
  · rename_i hc
    exact xo_next (by rw [h]; simp [xm_ex, xm_if, xm_ci, xm_jmp, xm_tgt, ht, hc])
  · rename_i hc
    exact xo_next (by rw [h]; simp [xm_ex, xm_if, xm_ci, xm_jmp, xm_tgt, ht, hc])
theorem xo_icmp_gt {j pc : Nat} {lo : xm_L} {sk : List Value} {hp : xm_H} {x y : Int32} {o : Int} {t : Nat} (hd : xm_ins j pc = some (.if_icmp .gt o, 3)) (ht : (pc : Int) + o = (t : Int)) : xm_out j (pc, lo, .int y :: .int x :: sk, hp) = if y < x then xm_out j (t, lo, sk, hp) else xm_out j (pc + 3, lo, sk, hp) := by
  obtain ⟨M, h⟩ := xm_step_of (lo := lo) (sk := .int y :: .int x :: sk) (hp := hp) hd
  split
  · rename_i hc
    exact xo_next (by rw [h]; simp [xm_ex, xm_icmp, xm_ci, xm_jmp, xm_tgt, ht, hc])
  · rename_i hc
    exact xo_next (by rw [h]; simp [xm_ex, xm_icmp, xm_ci, xm_jmp, xm_tgt, ht, hc])
theorem xo_if_gt {j pc : Nat} {lo : xm_L} {sk : List Value} {hp : xm_H} {x : Int32} {o : Int} {t : Nat} (hd : xm_ins j pc = some (.ifCond .gt o, 3)) (ht : (pc : Int) + o = (t : Int)) : xm_out j (pc, lo, .int x :: sk, hp) = if 0 < x then xm_out j (t, lo, sk, hp) else xm_out j (pc + 3, lo, sk, hp) := by
  obtain ⟨M, h⟩ := xm_step_of (lo := lo) (sk := .int x :: sk) (hp := hp) hd
  split
  · rename_i hc
    exact xo_next (by rw [h]; simp [xm_ex, xm_if, xm_ci, xm_jmp, xm_tgt, ht, hc])
  · rename_i hc
    exact xo_next (by rw [h]; simp [xm_ex, xm_if, xm_ci, xm_jmp, xm_tgt, ht, hc])
theorem xo_icmp_le {j pc : Nat} {lo : xm_L} {sk : List Value} {hp : xm_H} {x y : Int32} {o : Int} {t : Nat} (hd : xm_ins j pc = some (.if_icmp .le o, 3)) (ht : (pc : Int) + o = (t : Int)) : xm_out j (pc, lo, .int y :: .int x :: sk, hp) = if x ≤ y then xm_out j (t, lo, sk, hp) else xm_out j (pc + 3, lo, sk, hp) := by
  obtain ⟨M, h⟩ := xm_step_of (lo := lo) (sk := .int y :: .int x :: sk) (hp := hp) hd
  split
  · rename_i hc
    exact xo_next (by rw [h]; simp [xm_ex, xm_icmp, xm_ci, xm_jmp, xm_tgt, ht, hc])
  · rename_i hc
    exact xo_next (by rw [h]; simp [xm_ex, xm_icmp, xm_ci, xm_jmp, xm_tgt, ht, hc])
theorem xo_if_le {j pc : Nat} {lo : xm_L} {sk : List Value} {hp : xm_H} {x : Int32} {o : Int} {t : Nat} (hd : xm_ins j pc = some (.ifCond .le o, 3)) (ht : (pc : Int) + o = (t : Int)) : xm_out j (pc, lo, .int x :: sk, hp) = if x ≤ 0 then xm_out j (t, lo, sk, hp) else xm_out j (pc + 3, lo, sk, hp) := by
  obtain ⟨M, h⟩ := xm_step_of (lo := lo) (sk := .int x :: sk) (hp := hp) hd
  split
  · rename_i hc
    exact xo_next (by rw [h]; simp [xm_ex, xm_if, xm_ci, xm_jmp, xm_tgt, ht, hc])
  · rename_i hc
    exact xo_next (by rw [h]; simp [xm_ex, xm_if, xm_ci, xm_jmp, xm_tgt, ht, hc])
theorem xo_goto {j pc : Nat} {lo : xm_L} {sk : List Value} {hp : xm_H} {o : Int} {t : Nat} (hd : xm_ins j pc = some (.goto o, 3)) (ht : (pc : Int) + o = (t : Int)) : xm_out j (pc, lo, sk, hp) = xm_out j (t, lo, sk, hp) := xo_next (by obtain ⟨M, h⟩ := xm_step_of (lo := lo) (sk := sk) (hp := hp) hd; rw [h]; simp [xm_ex, xm_jmp, xm_tgt, ht])
theorem xo_tsw {j pc : Nat} {lo : xm_L} {sk : List Value} {hp : xm_H} {x : Int32} {d l h : Int} {os : Array Int} {n t : Nat} (hd : xm_ins j pc = some (.tableswitch d l h os, n)) (ht : xm_sw pc x d l h os = some t) : xm_out j (pc, lo, .int x :: sk, hp) = xm_out j (t, lo, sk, hp) := xo_next (by obtain ⟨M, h⟩ := xm_step_of (lo := lo) (sk := .int x :: sk) (hp := hp) hd; rw [h]; simp [xm_ex, xm_tsw, ht])
theorem xo_iald {j pc : Nat} {lo : xm_L} {sk : List Value} {hp : xm_H} {i : Int32} {a N : Nat} {f : Nat → Int32} (hd : xm_ins j pc = some (.iaload, 1)) (ha : hp.1 a = some (.inl (.int, N, .inl f))) (hi : xm_out_of i N = false) : xm_out j (pc, lo, .int i :: .ref a :: sk, hp) = xm_out j (pc + 1, lo, .int (f i.toNatClampNeg) :: sk, hp) := xo_next (by obtain ⟨M, h⟩ := xm_step_of (lo := lo) (sk := .int i :: .ref a :: sk) (hp := hp) hd; rw [h]; simp [xm_ex, xm_iald, xm_ok, ha, hi])
theorem xo_zald {j pc : Nat} {lo : xm_L} {sk : List Value} {hp : xm_H} {i : Int32} {a N : Nat} {f : Nat → Int32} (hd : xm_ins j pc = some (.baload, 1)) (ha : hp.1 a = some (.inl (.boolean, N, .inl f))) (hi : xm_out_of i N = false) : xm_out j (pc, lo, .int i :: .ref a :: sk, hp) = xm_out j (pc + 1, lo, .int (f i.toNatClampNeg) :: sk, hp) := xo_next (by obtain ⟨M, h⟩ := xm_step_of (lo := lo) (sk := .int i :: .ref a :: sk) (hp := hp) hd; rw [h]; simp [xm_ex, xm_zald, xm_ok, ha, hi])
theorem xo_lald {j pc : Nat} {lo : xm_L} {sk : List Value} {hp : xm_H} {i : Int32} {a N : Nat} {f : Nat → Int64} (hd : xm_ins j pc = some (.laload, 1)) (ha : hp.1 a = some (.inl (.long, N, .inr (.inl f)))) (hi : xm_out_of i N = false) : xm_out j (pc, lo, .int i :: .ref a :: sk, hp) = xm_out j (pc + 1, lo, .long (f i.toNatClampNeg) :: sk, hp) := xo_next (by obtain ⟨M, h⟩ := xm_step_of (lo := lo) (sk := .int i :: .ref a :: sk) (hp := hp) hd; rw [h]; simp [xm_ex, xm_lald, xm_ok, ha, hi])
theorem xo_sald {j pc : Nat} {lo : xm_L} {sk : List Value} {hp : xm_H} {i : Int32} {a N : Nat} {f : Nat → Int32} (hd : xm_ins j pc = some (.iaload, 1)) (ha : hp.1 a = some (.inr (.inr (N, f)))) (hi : xm_out_of i N = false) : xm_out j (pc, lo, .int i :: .ref a :: sk, hp) = xm_out j (pc + 1, lo, .int (f i.toNatClampNeg) :: sk, hp) := xo_next (by obtain ⟨M, h⟩ := xm_step_of (lo := lo) (sk := .int i :: .ref a :: sk) (hp := hp) hd; rw [h]; simp [xm_ex, xm_iald, xm_ok, ha, hi])
theorem xo_iast {j pc : Nat} {lo : xm_L} {sk : List Value} {hp : xm_H} {i : Int32} {a N : Nat} {f : Nat → Int32} {x : Int32} (hd : xm_ins j pc = some (.iastore, 1)) (ha : hp.1 a = some (.inl (.int, N, .inl f))) (hi : xm_out_of i N = false) : xm_out j (pc, lo, .int x :: .int i :: .ref a :: sk, hp) = xm_out j (pc + 1, lo, sk, xm_up hp a (.inl (.int, N, .inl (upd f i.toNatClampNeg x)))) := xo_next (by obtain ⟨M, h⟩ := xm_step_of (lo := lo) (sk := .int x :: .int i :: .ref a :: sk) (hp := hp) hd; rw [h]; simp [xm_ex, xm_iast, xm_ok, ha, hi])
theorem xo_zast {j pc : Nat} {lo : xm_L} {sk : List Value} {hp : xm_H} {i : Int32} {a N : Nat} {f : Nat → Int32} {x : Int32} (hd : xm_ins j pc = some (.bastore, 1)) (ha : hp.1 a = some (.inl (.boolean, N, .inl f))) (hi : xm_out_of i N = false) : xm_out j (pc, lo, .int x :: .int i :: .ref a :: sk, hp) = xm_out j (pc + 1, lo, sk, xm_up hp a (.inl (.boolean, N, .inl (upd f i.toNatClampNeg (vp_nar .boolean x))))) := xo_next (by obtain ⟨M, h⟩ := xm_step_of (lo := lo) (sk := .int x :: .int i :: .ref a :: sk) (hp := hp) hd; rw [h]; simp [xm_ex, xm_zast, xm_ok, ha, hi])
theorem xo_last {j pc : Nat} {lo : xm_L} {sk : List Value} {hp : xm_H} {i : Int32} {a N : Nat} {f : Nat → Int64} {x : Int64} (hd : xm_ins j pc = some (.lastore, 1)) (ha : hp.1 a = some (.inl (.long, N, .inr (.inl f)))) (hi : xm_out_of i N = false) : xm_out j (pc, lo, .long x :: .int i :: .ref a :: sk, hp) = xm_out j (pc + 1, lo, sk, xm_up hp a (.inl (.long, N, .inr (.inl (vp_updL f i.toNatClampNeg x))))) := xo_next (by obtain ⟨M, h⟩ := xm_step_of (lo := lo) (sk := .long x :: .int i :: .ref a :: sk) (hp := hp) hd; rw [h]; simp [xm_ex, xm_last, xm_ok, ha, hi])
theorem xo_alen {j pc : Nat} {lo : xm_L} {sk : List Value} {hp : xm_H} {a N : Nat} {ty : FieldType} {g : (Nat → Int32) ⊕ (Nat → Int64) ⊕ (Nat → UInt32) ⊕ (Nat → UInt64) ⊕ (Nat → Option Nat)} (hd : xm_ins j pc = some (.arraylength, 1)) (ha : hp.1 a = some (.inl (ty, N, g))) : xm_out j (pc, lo, .ref a :: sk, hp) = xm_out j (pc + 1, lo, .int (Int32.ofNat N) :: sk, hp) := xo_next (by obtain ⟨M, h⟩ := xm_step_of (lo := lo) (sk := .ref a :: sk) (hp := hp) hd; rw [h]; simp [xm_ex, xm_alen, xm_ok, ha])
theorem xo_slen {j pc : Nat} {lo : xm_L} {sk : List Value} {hp : xm_H} {a N : Nat} {f : Nat → Int32} (hd : xm_ins j pc = some (.arraylength, 1)) (ha : hp.1 a = some (.inr (.inr (N, f)))) : xm_out j (pc, lo, .ref a :: sk, hp) = xm_out j (pc + 1, lo, .int (Int32.ofNat N) :: sk, hp) := xo_next (by obtain ⟨M, h⟩ := xm_step_of (lo := lo) (sk := .ref a :: sk) (hp := hp) hd; rw [h]; simp [xm_ex, xm_alen, xm_ok, ha])
theorem xo_newa {j pc : Nat} {lo : xm_L} {sk : List Value} {hp : xm_H} {t : ArrayType} {k : Int32} {N : Nat} {e : xm_E} (hd : xm_ins j pc = some (.newarray t, 2)) (h0 : ¬ k < 0) (hN : k.toNatClampNeg = N) (h8 : N * 8 ≤ 536870912) (he : xm_blank t N = some e) : xm_out j (pc, lo, .int k :: sk, hp) = xm_out j (pc + 2, lo, .ref hp.2.1 :: sk, xm_add hp e N) := xo_next (by obtain ⟨M, h⟩ := xm_step_of (lo := lo) (sk := .int k :: sk) (hp := hp) hd; rw [h]; simp [xm_ex, xm_newa, xm_ok, h0, hN, h8, he])
theorem xo_get {j pc : Nat} {lo : xm_L} {sk : List Value} {hp : xm_H} {idx a ci k : Nat} {fin : Bool} {ty : FieldType} {fs : List Value} {v : Value} (hd : xm_ins j pc = some (.getfield idx, 3)) (hf : xm_fl j idx = some (ci, k, fin, ty)) (ha : hp.1 a = some (.inr (.inl (ci, fs)))) (hv : fs[k]? = some v) : xm_out j (pc, lo, .ref a :: sk, hp) = xm_out j (pc + 3, lo, v :: sk, hp) := xo_next (by obtain ⟨M, hM, h⟩ := xm_step_of' (lo := lo) (sk := .ref a :: sk) (hp := hp) hd; rw [h]; simp [xm_fl, hM] at hf; simp [xm_ex, xm_get, xm_obj, xm_ok, hf, ha, hv])
theorem xo_put {j pc : Nat} {lo : xm_L} {sk : List Value} {hp : xm_H} {idx a ci k : Nat} {ty : FieldType} {fs : List Value} {v : Value} (hd : xm_ins j pc = some (.putfield idx, 3)) (hf : xm_fl j idx = some (ci, k, false, ty)) (ha : hp.1 a = some (.inr (.inl (ci, fs)))) (hk : k < fs.length) (hn : narrow ty v = v) (hv : fits ty v = true) : xm_out j (pc, lo, v :: .ref a :: sk, hp) = xm_out j (pc + 3, lo, sk, xm_up hp a (.inr (.inl (ci, fs.set k v)))) := xo_next (by obtain ⟨M, hM, h⟩ := xm_step_of' (lo := lo) (sk := v :: .ref a :: sk) (hp := hp) hd; rw [h]; simp [xm_fl, hM] at hf; simp [xm_ex, xm_put, xm_obj, xm_ok, hf, ha, hv, hn, hk])
theorem xo_putF {j pc : Nat} {lo : xm_L} {sk : List Value} {hp : xm_H} {idx a ci k : Nat} {fin : Bool} {ty : FieldType} {fs : List Value} {v : Value} (hd : xm_ins j pc = some (.putfield idx, 3)) (hf : xm_fl j idx = some (ci, k, fin, ty)) (hi : xm_ini j = some (true, ci)) (ha : hp.1 a = some (.inr (.inl (ci, fs)))) (hk : k < fs.length) (hn : narrow ty v = v) (hv : fits ty v = true) : xm_out j (pc, lo, v :: .ref a :: sk, hp) = xm_out j (pc + 3, lo, sk, xm_up hp a (.inr (.inl (ci, fs.set k v)))) := xo_next (by obtain ⟨M, hM, h⟩ := xm_step_of' (lo := lo) (sk := v :: .ref a :: sk) (hp := hp) hd; rw [h]; simp [xm_fl, hM] at hf; simp [xm_ini, hM] at hi; rw [hi.2] at hf; simp [xm_ex, xm_put, xm_obj, xm_ok, hf, ha, hv, hn, hk, hi])
theorem xo_new {j pc : Nat} {lo : xm_L} {sk : List Value} {hp : xm_H} {idx ci : Nat} {fs : List Value} (hd : xm_ins j pc = some (.new idx, 3)) (hf : xm_nw j idx = some (ci, fs)) : xm_out j (pc, lo, sk, hp) = xm_out j (pc + 3, lo, .ref hp.2.1 :: sk, xm_add hp (.inr (.inl (ci, fs))) fs.length) := xo_next (by obtain ⟨M, hM, h⟩ := xm_step_of' (lo := lo) (sk := sk) (hp := hp) hd; rw [h]; simp [xm_nw, hM] at hf; simp [xm_ex, xm_new, xm_ok, hf])
end
section
/-! THE SMALL MACHINE IS SOUND: what it answers, the machine of the Statement does -/
section XS
variable {l : Launch} {D : va_G} {aT : FieldType → ClassId} {B : Nat} {scr : Cell}
def xs_K (D : va_G) (aT : FieldType → ClassId) (scr : Cell) (U : State) : Prop :=
  va_K D xp_cl [] U ∧ (∀ ty, ty = FieldType.int ∨ ty = .boolean ∨ ty = .long → ArrOfT U (aT ty) ty ∧ U.vm.findClass ("[" ++ ty.toString) = some (aT ty)) ∧ U.isArrayOf scr .int ∧ ∀ w ∈ xp_ne, va_Nw w U
def xs_E (D : va_G) (aT : FieldType → ClassId) (B : Nat) (scr : Cell) (H : Heap) (a : Nat) (e : xm_E) : Prop := match e with
  | .inl (ty, x) => B ≤ a ∧ (ty = .int ∨ ty = .boolean ∨ ty = .long) ∧ H[a]? = some (vp_cell (aT ty) x)
  | .inr (.inl o) => B ≤ a ∧ va_at D xp_cl (a, .inr o) H
  | .inr (.inr (L, f)) => a < B ∧ H[a]? = some scr ∧ scr.vm ≠ .unknown ∧ scr.slots.size = L ∧ ∀ i, i < L → scr.slots[i]? = some (.int (f i))
def xs_R (D : va_G) (aT : FieldType → ClassId) (B : Nat) (scr : Cell) (hp : xm_H) (H : Heap) : Prop := hp.2.1 = H.size ∧ B ≤ H.size ∧ ∀ a e, hp.1 a = some e → xs_E D aT B scr H a e
theorem xs_E.kept {H H1 : Heap} {a : Nat} {e : xm_E} (h : xs_E D aT B scr H a e) (hq : H1[a]? = H[a]?) : xs_E D aT B scr H1 a e := by
  rcases e with ⟨ty, x⟩ | o | ⟨L, f⟩
  · exact ⟨h.1, h.2.1, hq.trans h.2.2⟩
  · exact ⟨h.1, h.2.kept hq⟩
  · exact ⟨h.1, hq.trans h.2.1, h.2.2⟩
theorem xs_E.lt {H : Heap} {a : Nat} {e : xm_E} (h : xs_E D aT B scr H a e) : a < H.size := by
  rcases e with ⟨ty, x⟩ | o | ⟨L, f⟩
  · exact (Array.getElem?_eq_some_iff.mp h.2.2).1
  · exact h.2.lt
  · exact (Array.getElem?_eq_some_iff.mp h.2.1).1
theorem xs_R.up {hp : xm_H} {H H1 : Heap} {a : Nat} {e : xm_E} (h : xs_R D aT B scr hp H) (he : xs_E D aT B scr H1 a e) (z : H1.size = H.size) (oq : ∀ q, q ≠ a → H1[q]? = H[q]?) : xs_R D aT B scr (xm_up hp a e) H1 := by
  refine ⟨h.1.trans z.symm, by rw [z]; exact h.2.1, fun q e' hq => ?_⟩
  by_cases hqa : q = a
  · subst hqa
    have : some e = some e' := (xm_set_self hp.1 q e).symm.trans hq
    cases this
    exact he
  · have h1 : hp.1 q = some e' := (xm_set_ne hqa).symm.trans hq
    exact (h.2.2 q e' h1).kept (oq q hqa)
theorem xs_R.add {hp : xm_H} {H H1 : Heap} {e : xm_E} {n : Nat} (h : xs_R D aT B scr hp H) (he : xs_E D aT B scr H1 H.size e) (z : H1.size = H.size + 1) (oq : ∀ q, q < H.size → H1[q]? = H[q]?) : xs_R D aT B scr (xm_add hp e n) H1 := by
  refine ⟨by show hp.2.1 + 1 = _; rw [h.1, z], by rw [z]; exact Nat.le_succ_of_le h.2.1, fun q e' hq => ?_⟩
  by_cases hqa : q = hp.2.1
  · subst hqa
    have : some e = some e' := (xm_set_self hp.1 hp.2.1 e).symm.trans hq
    cases this
    rw [h.1]; exact he
  · have h1 : hp.1 q = some e' := (xm_set_ne hqa).symm.trans hq
    exact (h.2.2 q e' h1).kept (oq q (h.2.2 q e' h1).lt)
theorem xs_K.warm {s U : State} (hW : s.WarmedH U.vm) (h : xs_K D aT scr s) : xs_K D aT scr U := by
  refine ⟨va_K.moved hW.alike h.1, fun ty hty => ⟨arrOfT_moved hW.alike (h.2.1 ty hty).1, by rw [hW.alike.findClass]; exact (h.2.1 ty hty).2⟩, State.isArrayOf_alike hW.alike h.2.2.1, fun w hw => ?_⟩
  exact xp_ne_warm w hw hW (h.2.2.2 w hw)
/-- locals -/
def xs_L (ls : Array Slot) (nL : Nat) (lo : xm_L) : Prop := ls.size = nL ∧ lv_wf ls ∧ lo.length = nL ∧ ∀ (i : Nat) (v : Value), lo[i]? = some (some v) → ls[i]? = some (Slot.val v)
def xs_as (lo : xm_L) : List (Nat × Value) := (List.range lo.length).filterMap fun i => match lo[i]? with
  | some (some v) => some (i, v)
  | _ => none
theorem xs_as_mem {lo : xm_L} {i : Nat} {v : Value} : (i, v) ∈ xs_as lo ↔ lo[i]? = some (some v) := by
  unfold xs_as
  rw [List.mem_filterMap]
  constructor
  · rintro ⟨k, -, hk⟩
    split at hk
    · rename_i w hw
      simp only [Option.some.injEq, Prod.mk.injEq] at hk
      obtain ⟨rfl, rfl⟩ := hk
      exact hw
    · cases hk
  · intro h
    refine ⟨i, List.mem_range.mpr (List.getElem?_eq_some_iff.mp h).1, ?_⟩
    rw [h]
theorem xs_L.has {ls : Array Slot} {nL : Nat} {lo : xm_L} (h : xs_L ls nL lo) : lv_has ls nL (xs_as lo) := ⟨h.1, h.2.1, fun q hq => h.2.2.2 q.1 q.2 (xs_as_mem.mp hq)⟩
theorem xm_kill_len (lo : xm_L) (i : Nat) : (xm_kill lo i).length = lo.length := by
  unfold xm_kill
  split
  · rfl
  · split
    · split <;> simp
    · rfl
theorem xm_kill_get {lo : xm_L} {i k : Nat} {v : Value} (h : (xm_kill lo i)[k]? = some (some v)) : lo[k]? = some (some v) ∧ ¬ (k + 1 = i ∧ v.category = 2) := by
  unfold xm_kill at h
  split at h
  · exact ⟨h, fun q => by omega⟩
  · rename_i j
    split at h
    · rename_i w hw
      split at h
      · rename_i hc
        by_cases hkj : k = j
        · subst hkj
          rw [List.getElem?_set_self (List.getElem?_eq_some_iff.mp hw).1] at h
          cases h
        · rw [List.getElem?_set_ne (Ne.symm hkj)] at h
          exact ⟨h, fun q => by omega⟩
      · rename_i hc
        refine ⟨h, fun q => ?_⟩
        have : k = j := by omega
        subst this
        rw [hw] at h
        cases h
        exact hc q.2
    · rename_i hno
      refine ⟨h, fun q => ?_⟩
      have : k = j := by omega
      subst this
      exact hno v h
theorem xs_st1 {ls : Array Slot} {nL : Nat} {lo : xm_L} {i : Nat} {v : Value} (h : xs_L ls nL lo) {ls' : Array Slot} (h' : lv_has ls' nL ((i, v) :: (xs_as lo).filter (fun q => !(q.1 == i) && !(q.1 + 1 == i && q.2.category == 2)))) : xs_L ls' nL (xm_st1 lo i v) := by
  refine ⟨h'.1, h'.2.1, by unfold xm_st1; rw [List.length_set, xm_kill_len]; exact h.2.2.1, fun k w hk => ?_⟩
  unfold xm_st1 at hk
  by_cases hki : k = i
  · subst hki
    have hlt := (List.getElem?_eq_some_iff.mp hk).1
    rw [List.length_set] at hlt
    rw [List.getElem?_set_self hlt] at hk
    cases hk
    exact h'.2.2 (k, v) List.mem_cons_self
  · rw [List.getElem?_set_ne (Ne.symm hki)] at hk
    obtain ⟨h1, h2⟩ := xm_kill_get hk
    refine h'.2.2 (k, w) (List.mem_cons_of_mem _ (List.mem_filter.mpr ⟨xs_as_mem.mpr h1, ?_⟩))
    simp [hki]
    exact Decidable.not_and_iff_or_not.mp h2
theorem xs_st2 {ls : Array Slot} {nL : Nat} {lo : xm_L} {i : Nat} {v : Value} (h : xs_L ls nL lo) {ls' : Array Slot} (h' : lv_has ls' nL ((i, v) :: (xs_as lo).filter (fun q => !(q.1 == i) && (!(q.1 == i + 1) && !(q.1 + 1 == i && q.2.category == 2))))) : xs_L ls' nL (xm_st2 lo i v) := by
  refine ⟨h'.1, h'.2.1, by unfold xm_st2; rw [List.length_set, List.length_set, xm_kill_len]; exact h.2.2.1, fun k w hk => ?_⟩
  unfold xm_st2 at hk
  by_cases hk1 : k = i + 1
  · subst hk1
    have hlt := (List.getElem?_eq_some_iff.mp hk).1
    rw [List.length_set] at hlt
    rw [List.getElem?_set_self hlt] at hk
    cases hk
  rw [List.getElem?_set_ne (Ne.symm hk1)] at hk
  by_cases hki : k = i
  · subst hki
    have hlt := (List.getElem?_eq_some_iff.mp hk).1
    rw [List.length_set] at hlt
    rw [List.getElem?_set_self hlt] at hk
    cases hk
    exact h'.2.2 (k, v) List.mem_cons_self
  · rw [List.getElem?_set_ne (Ne.symm hki)] at hk
    obtain ⟨h1, h2⟩ := xm_kill_get hk
    refine h'.2.2 (k, w) (List.mem_cons_of_mem _ (List.mem_filter.mpr ⟨xs_as_mem.mpr h1, ?_⟩))
    simp [hki, hk1]
    exact Decidable.not_and_iff_or_not.mp h2
theorem xm_lay_get : ∀ (vs : List Value) (o i : Nat) (v : Value), (xm_lay vs)[i]? = some (some v) → (o + i, v) ∈ lv_args o vs
  | [], _, _, _, h => by simp [xm_lay] at h
  | u :: vs, o, i, v, h => by
    unfold xm_lay at h
    unfold lv_args
    split at h
    · rename_i hc
      rw [if_pos hc]
      match i, h with
      | 0, h => simp at h; subst h; exact List.mem_cons_self
      | 1, h => simp at h
      | i + 2, h =>
        rw [List.getElem?_cons_succ, List.getElem?_cons_succ] at h
        have := xm_lay_get vs (o + 2) i v h
        exact List.mem_cons_of_mem _ (by rw [show o + (i + 2) = o + 2 + i by omega]; exact this)
    · rename_i hc
      rw [if_neg hc]
      match i, h with
      | 0, h => simp at h; subst h; exact List.mem_cons_self
      | i + 1, h =>
        rw [List.getElem?_cons_succ] at h
        have := xm_lay_get vs (o + 1) i v h
        exact List.mem_cons_of_mem _ (by rw [show o + (i + 1) = o + 1 + i by omega]; exact this)
theorem xm_lay_len : ∀ vs : List Value, (xm_lay vs).length = (lg_sl vs).length
  | [] => rfl
  | u :: vs => by
    have ih := xm_lay_len vs
    unfold xm_lay
    show _ = (List.flatMap _ (u :: vs)).length
    rw [List.flatMap_cons, List.length_append]
    split
    · show (xm_lay vs).length + 1 + 1 = 2 + (lg_sl vs).length
      rw [ih]; omega
    · show (xm_lay vs).length + 1 = 1 + (lg_sl vs).length
      rw [ih]; omega
theorem xs_entry (vs : List Value) {n : Nat} (h : (xm_lay vs).length ≤ n) : xs_L ((lg_sl vs ++ List.replicate (n - (lg_sl vs).length) Slot.unset).toArray) n (xm_ent n vs) := by
  have h0 : (lg_sl vs).length ≤ n := by rw [← xm_lay_len]; exact h
  obtain ⟨h1, h2, h3⟩ := lv_entry vs h0
  refine ⟨h1, h2, by unfold xm_ent; rw [List.length_append, List.length_replicate]; omega, fun i v hi => ?_⟩
  unfold xm_ent at hi
  by_cases hl : i < (xm_lay vs).length
  · rw [List.getElem?_append_left hl] at hi
    have := xm_lay_get vs 0 i v hi
    rw [Nat.zero_add] at this
    exact h3 _ this
  · rw [List.getElem?_append_right (by omega)] at hi
    rw [List.getElem?_replicate] at hi
    split at hi <;> cases hi
end XS
end
section
section XT
variable {l : Launch} {D : va_G} {aT : FieldType → ClassId} {B : Nat} {scr : Cell}
/-- where a method's frame stands: machine, code, class, words, room -/
def xs_C (M : xm_M) (p : Program) (s : State) (m : MethodId) (args : Array Value) (meth : Method) (c : Code) (R : Room) : Prop :=
  p.tables.exec = Jvm.exec ∧ c.code = M.2.1 ∧ c.maxLocals = M.2.2.1 ∧ xp_on[M.2.2.2.2.1]? = some M.1.cls ∧ s.vm.findClass M.1.cls = some m.cls ∧ (∀ w ∈ xp_tb, w.before args s = true) ∧ (M.2.2.2.2.2.2.2 = true → meth.name = "<init>") ∧ M.2.2.2.2.2.1 ≤ R.frames ∧ M.2.2.2.2.2.2.1 ≤ R.locals
/-- from this state to that one: the counters grow, and the machine goes there -/
def xs_N (l : Launch) (D : va_G) (aT : FieldType → ClassId) (B : Nat) (scr : Cell) (M : xm_M) (pc : Nat) (lo : xm_L) (sk : List Value) (hp : xm_H) (pc' : Nat) (lo' : xm_L) (sk' : List Value) (hp' : xm_H) : Prop :=
  hp.2.1 ≤ hp'.2.1 ∧ hp.2.2 ≤ hp'.2.2 ∧ ∀ (p : Program) (e : Env) (R : Room) (s : State) (m : MethodId) (args : Array Value) (below : List Frame) (meth : Method) (c : Code) (H : Heap) (locs : List Loc) (cells slots : Nat) (ls : Array Slot) (Q : State → Prop) (cells' slots' : Nat),
    xs_C M p s m args meth c R → xs_K D aT scr s → xs_L ls M.2.2.1 lo → xs_R D aT B scr hp H → (∀ q ∈ locs, B ≤ q.base) → cells' + hp.2.1 = cells + hp'.2.1 → slots' + hp.2.2 = slots + hp'.2.2 → cells' ≤ R.cells → slots' ≤ R.slots →
    (∀ (H' : Heap) (locs' : List Loc) (ls' : Array Slot), xs_L ls' M.2.2.1 lo' → xs_R D aT B scr hp' H' → (∀ q ∈ locs', B ≤ q.base) → W p l e R s m args below meth c H' locs' cells' slots' Q (F0 m pc' ls' sk')) →
    W p l e R s m args below meth c H locs cells slots Q (F0 m pc ls sk)
theorem xs_N0 {M : xm_M} {pc : Nat} {lo : xm_L} {sk : List Value} {hp : xm_H} {pc' : Nat} {sk' : List Value}
    (h : ∀ (p : Program) (e : Env) (R : Room) (s : State) (m : MethodId) (args : Array Value) (below : List Frame) (meth : Method) (c : Code) (H : Heap) (locs : List Loc) (cells slots : Nat) (ls : Array Slot) (Q : State → Prop), xs_C M p s m args meth c R → xs_K D aT scr s → xs_L ls M.2.2.1 lo → xs_R D aT B scr hp H → cells ≤ R.cells ∧ slots ≤ R.slots →
      W p l e R s m args below meth c H locs cells slots Q (F0 m pc' ls sk') → W p l e R s m args below meth c H locs cells slots Q (F0 m pc ls sk)) : xs_N l D aT B scr M pc lo sk hp pc' lo sk' hp := by
  refine ⟨Nat.le_refl _, Nat.le_refl _, ?_⟩
  intro p e R s m args below meth c H locs cells slots ls Q cells' slots' C K L r hq hc hs h1 h2 kk
  obtain rfl := Nat.add_right_cancel hc
  obtain rfl := Nat.add_right_cancel hs
  exact h p e R s m args below meth c H locs _ _ ls Q C K L r ⟨h1, h2⟩ (kk H locs ls L r hq)
theorem xs_N1 {M : xm_M} {pc : Nat} {lo lo' : xm_L} {sk : List Value} {hp : xm_H} {pc' : Nat} {sk' : List Value}
    (h : ∀ (p : Program) (e : Env) (R : Room) (s : State) (m : MethodId) (args : Array Value) (below : List Frame) (meth : Method) (c : Code) (H : Heap) (locs : List Loc) (cells slots : Nat) (ls : Array Slot) (Q : State → Prop), xs_C M p s m args meth c R → xs_L ls M.2.2.1 lo →
      (∀ ls' : Array Slot, xs_L ls' M.2.2.1 lo' → W p l e R s m args below meth c H locs cells slots Q (F0 m pc' ls' sk')) → W p l e R s m args below meth c H locs cells slots Q (F0 m pc ls sk)) : xs_N l D aT B scr M pc lo sk hp pc' lo' sk' hp := by
  refine ⟨Nat.le_refl _, Nat.le_refl _, ?_⟩
  intro p e R s m args below meth c H locs cells slots ls Q cells' slots' C K L r hq hc hs h1 h2 kk
  obtain rfl := Nat.add_right_cancel hc
  obtain rfl := Nat.add_right_cancel hs
  exact h p e R s m args below meth c H locs _ _ ls Q C L (fun ls' L' => kk H locs ls' L' r hq)
/-- an entry changes -/
theorem xs_NU {M : xm_M} {pc : Nat} {lo : xm_L} {sk : List Value} {hp : xm_H} {pc' : Nat} {sk' : List Value} {a : Nat} {x : xm_E}
    (h : ∀ (p : Program) (e : Env) (R : Room) (s : State) (m : MethodId) (args : Array Value) (below : List Frame) (meth : Method) (c : Code) (H : Heap) (locs : List Loc) (cells slots : Nat) (ls : Array Slot) (Q : State → Prop), xs_C M p s m args meth c R → xs_K D aT scr s → xs_L ls M.2.2.1 lo → xs_R D aT B scr hp H → cells ≤ R.cells ∧ slots ≤ R.slots →
      (∀ (H' : Heap) (L : List Loc), xs_E D aT B scr H' a x → H'.size = H.size → (∀ q, q ≠ a → H'[q]? = H[q]?) → (∀ q ∈ L, B ≤ q.base) → W p l e R s m args below meth c H' (locs ++ L) cells slots Q (F0 m pc' ls sk')) → W p l e R s m args below meth c H locs cells slots Q (F0 m pc ls sk)) : xs_N l D aT B scr M pc lo sk hp pc' lo sk' (xm_up hp a x) := by
  refine ⟨Nat.le_refl _, Nat.le_refl _, ?_⟩
  intro p e R s m args below meth c H locs cells slots ls Q cells' slots' C K L r hq hc hs h1 h2 kk
  have hc' : cells' = cells := Nat.add_right_cancel (m := hp.2.1) hc
  have hs' : slots' = slots := Nat.add_right_cancel (m := hp.2.2) hs
  subst hc' hs'
  refine h p e R s m args below meth c H locs _ _ ls Q C K L r ⟨h1, h2⟩ (fun H' L' he z oq hL' => kk H' _ ls L (r.up he z oq) (fun q hq' => ?_))
  rcases List.mem_append.mp hq' with h' | h'
  · exact hq q h'
  · exact hL' q h'
/-- an entry comes -/
theorem xs_NA {M : xm_M} {pc : Nat} {lo : xm_L} {sk : List Value} {hp : xm_H} {pc' : Nat} {sk' : List Value} {x : xm_E} {n : Nat}
    (h : ∀ (p : Program) (e : Env) (R : Room) (s : State) (m : MethodId) (args : Array Value) (below : List Frame) (meth : Method) (c : Code) (H : Heap) (locs : List Loc) (cells slots : Nat) (ls : Array Slot) (Q : State → Prop), xs_C M p s m args meth c R → xs_K D aT scr s → xs_L ls M.2.2.1 lo → xs_R D aT B scr hp H → cells + 1 ≤ R.cells → slots + n ≤ R.slots →
      (∀ (H' : Heap), xs_E D aT B scr H' H.size x → H'.size = H.size + 1 → (∀ q, q < H.size → H'[q]? = H[q]?) → W p l e R s m args below meth c H' locs (cells + 1) (slots + n) Q (F0 m pc' ls sk')) → W p l e R s m args below meth c H locs cells slots Q (F0 m pc ls sk)) : xs_N l D aT B scr M pc lo sk hp pc' lo sk' (xm_add hp x n) := by
  refine ⟨Nat.le_succ _, Nat.le_add_right _ _, ?_⟩
  intro p e R s m args below meth c H locs cells slots ls Q cells' slots' C K L r hq hc hs h1 h2 kk
  have hc' : cells' = cells + 1 := by
    have : cells' + hp.2.1 = cells + (hp.2.1 + 1) := hc
    omega
  have hs' : slots' = slots + n := by
    have : slots' + hp.2.2 = slots + (hp.2.2 + n) := hs
    omega
  subst hc' hs'
  exact h p e R s m args below meth c H locs _ _ ls Q C K L r h1 h2 (fun H' he z oq => kk H' _ ls L (r.add he z oq) hq)
theorem xm_ok_spec {n k : Nat} {x y : xm_S} (h : xm_ok n k x = some (.inl y)) : n = k ∧ x = y := by
  unfold xm_ok at h
  split at h
  · rename_i hn
    exact ⟨hn, by injection h with h; injection h⟩
  · cases h
theorem xm_isI_spec {v : Value} (h : xm_isI v = true) : ∃ x, v = .int x := by
  cases v <;> first | exact ⟨_, rfl⟩ | cases h
theorem xm_isJ_spec {v : Value} (h : xm_isJ v = true) : ∃ x, v = .long x := by
  cases v <;> first | exact ⟨_, rfl⟩ | cases h
theorem xm_isA_spec {v : Value} (h : xm_isA v = true) : v = .null ∨ ∃ x, v = .ref x := by
  cases v <;> first | exact Or.inl rfl | exact Or.inr ⟨_, rfl⟩ | cases h
theorem xm_ld_spec {n k i pc : Nat} {ty : Value → Bool} {lo : xm_L} {sk : List Value} {hp : xm_H} {y : xm_S} (h : xm_ld n k ty i pc lo sk hp = some (.inl y)) : n = k ∧ ∃ v, lo[i]? = some (some v) ∧ ty v = true ∧ (pc + k, lo, v :: sk, hp) = y := by
  unfold xm_ld at h
  split at h
  · rename_i v hv
    split at h
    · rename_i ht
      obtain ⟨h1, h2⟩ := xm_ok_spec h
      exact ⟨h1, v, hv, ht, h2⟩
    · cases h
  · cases h
theorem xm_sto_spec {n k i pc : Nat} {ty : Value → Bool} {lo : xm_L} {sk : List Value} {hp : xm_H} {y : xm_S} (h : xm_sto n k ty i pc lo sk hp = some (.inl y)) : n = k ∧ ∃ v sk', sk = v :: sk' ∧ ty v = true ∧ i < lo.length ∧ (pc + k, xm_st1 lo i v, sk', hp) = y := by
  unfold xm_sto at h
  split at h
  · rename_i v sk'
    split at h
    · rename_i ht
      rw [Bool.and_eq_true, decide_eq_true_eq] at ht
      obtain ⟨h1, h2⟩ := xm_ok_spec h
      exact ⟨h1, v, sk', rfl, ht.1, ht.2, h2⟩
    · cases h
  · cases h
theorem xm_stJ_spec {n k i pc : Nat} {lo : xm_L} {sk : List Value} {hp : xm_H} {y : xm_S} (h : xm_stJ n k i pc lo sk hp = some (.inl y)) : n = k ∧ ∃ v sk', sk = .long v :: sk' ∧ i + 1 < lo.length ∧ (pc + k, xm_st2 lo i (.long v), sk', hp) = y := by
  unfold xm_stJ at h
  split at h
  · rename_i v sk'
    split at h
    · rename_i ht
      obtain ⟨h1, h2⟩ := xm_ok_spec h
      exact ⟨h1, v, sk', rfl, ht, h2⟩
    · cases h
  · cases h
theorem xm_i2_spec {n pc : Nat} {f : Int32 → Int32 → Int32} {lo : xm_L} {sk : List Value} {hp : xm_H} {z : xm_S} (h : xm_i2 n f pc lo sk hp = some (.inl z)) : n = 1 ∧ ∃ x y sk', sk = .int y :: .int x :: sk' ∧ (pc + 1, lo, .int (f x y) :: sk', hp) = z := by
  unfold xm_i2 at h
  split at h
  · obtain ⟨h1, h2⟩ := xm_ok_spec h
    exact ⟨h1, _, _, _, rfl, h2⟩
  · cases h
theorem xm_d2_spec {n pc : Nat} {f : Int32 → Int32 → Int32} {lo : xm_L} {sk : List Value} {hp : xm_H} {z : xm_S} (h : xm_d2 n f pc lo sk hp = some (.inl z)) : n = 1 ∧ ∃ x y sk', sk = .int y :: .int x :: sk' ∧ ¬ y = 0 ∧ (pc + 1, lo, .int (f x y) :: sk', hp) = z := by
  unfold xm_d2 at h
  split at h
  · split at h
    · cases h
    · rename_i hy
      obtain ⟨h1, h2⟩ := xm_ok_spec h
      exact ⟨h1, _, _, _, rfl, hy, h2⟩
  · cases h
theorem xm_i1_spec {n pc : Nat} {f : Int32 → Int32} {lo : xm_L} {sk : List Value} {hp : xm_H} {z : xm_S} (h : xm_i1 n f pc lo sk hp = some (.inl z)) : n = 1 ∧ ∃ x sk', sk = .int x :: sk' ∧ (pc + 1, lo, .int (f x) :: sk', hp) = z := by
  unfold xm_i1 at h
  split at h
  · obtain ⟨h1, h2⟩ := xm_ok_spec h
    exact ⟨h1, _, _, rfl, h2⟩
  · cases h
theorem xm_j2_spec {n pc : Nat} {f : Int64 → Int64 → Int64} {lo : xm_L} {sk : List Value} {hp : xm_H} {z : xm_S} (h : xm_j2 n f pc lo sk hp = some (.inl z)) : n = 1 ∧ ∃ x y sk', sk = .long y :: .long x :: sk' ∧ (pc + 1, lo, .long (f x y) :: sk', hp) = z := by
  unfold xm_j2 at h
  split at h
  · obtain ⟨h1, h2⟩ := xm_ok_spec h
    exact ⟨h1, _, _, _, rfl, h2⟩
  · cases h
theorem xm_jsh_spec {n pc : Nat} {f : Int64 → Int32 → Int64} {lo : xm_L} {sk : List Value} {hp : xm_H} {z : xm_S} (h : xm_jsh n f pc lo sk hp = some (.inl z)) : n = 1 ∧ ∃ x y sk', sk = .int y :: .long x :: sk' ∧ (pc + 1, lo, .long (f x y) :: sk', hp) = z := by
  unfold xm_jsh at h
  split at h
  · obtain ⟨h1, h2⟩ := xm_ok_spec h
    exact ⟨h1, _, _, _, rfl, h2⟩
  · cases h
theorem xm_jmp_spec {n pc : Nat} {o : Int} {c : Bool} {lo : xm_L} {sk : List Value} {hp : xm_H} {z : xm_S} (h : xm_jmp n pc o c lo sk hp = some (.inl z)) : n = 3 ∧ ∃ t : Nat, (pc : Int) + o = (t : Int) ∧ ((c = true ∧ (t, lo, sk, hp) = z) ∨ (c = false ∧ (pc + 3, lo, sk, hp) = z)) := by
  unfold xm_jmp at h
  split at h
  · rename_i hn
    refine ⟨hn.1, xm_tgt pc o, by unfold xm_tgt; omega, ?_⟩
    split at h
    · rename_i hc
      refine Or.inl ⟨hc, ?_⟩
      injection h with h; injection h
    · rename_i hc
      refine Or.inr ⟨by simpa using hc, ?_⟩
      injection h with h; injection h
  · cases h
theorem xm_out_of_spec {i : Int32} {N : Nat} (h : ¬ xm_out_of i N = true) : vp_in i N := by
  intro q
  apply h
  unfold xm_out_of
  rw [Bool.or_eq_true, decide_eq_true_eq, decide_eq_true_eq]
  exact q
theorem xs_P1 {e : va_E} {a : Nat} {H : Heap} (h : va_at D xp_cl (a, e) H) : va_P D xp_cl [(a, e)] H := by
  intro k q hk
  match k, hk with
  | 0, hk => cases hk; exact h
  | k + 1, hk => simp at hk
end XT
end
section
section XU
variable {l : Launch} {D : va_G} {aT : FieldType → ClassId} {B : Nat} {scr : Cell}
theorem xp_on_cl {ci N : Nat} {C : String} {T : u_T} (h : xp_cl[ci]? = some (C, T, N)) : xp_on[ci]? = some C := by
  match ci, h with
  | 0, h => cases h; rfl
  | 1, h => cases h; rfl
  | 2, h => cases h; rfl
  | 3, h => cases h; rfl
  | 4, h => cases h; rfl
  | 5, h => cases h; rfl
  | 6, h => cases h; rfl
  | 7, h => cases h; rfl
  | 8, h => cases h; rfl
  | n + 9, h => cases h
theorem xp_fl_spec {oc idx ci k : Nat} {fin : Bool} {ty : FieldType} {own : String} (h : xp_fl oc idx = some (ci, k, fin, ty)) (ho : xp_on[oc]? = some own) : ∃ (C : String) (T : u_T) (N : Nat), xp_cl[ci]? = some (C, T, N) ∧ k < N ∧ (T k).2.2.2 = fin ∧ parseFieldDescriptor (T k).2.2.1 = some ty ∧ (T k).1 = C ∧ Cond.fieldLink own idx C (T k).2.1 (T k).2.2.1 ∈ xp_tb := by
  obtain ⟨p, hp⟩ := xk_all_of xk_fl_all h
  unfold xk_fl at hp
  rw [ho] at hp
  split at hp
  · rename_i own' C T N h1 h2
    cases h1
    simp only [Bool.and_eq_true, decide_eq_true_eq] at hp
    exact ⟨C, T, N, h2, hp.1, hp.2.1, hp.2.2.1, hp.2.2.2.1, xk_w_mem hp.2.2.2.2⟩
  · cases hp
theorem xs_get {M : xm_M} {n pc idx : Nat} {lo : xm_L} {sk : List Value} {hp : xm_H} {z : xm_S} (hd : decode M.2.1 pc = .ok (.getfield idx, n)) (hx : xm_get n pc M.2.2.2.2.1 idx lo sk hp = some (.inl z)) : xs_N l D aT B scr M pc lo sk hp z.1 z.2.1 z.2.2.1 z.2.2.2 := by
  unfold xm_get at hx
  split at hx
  · rename_i a sk
    split at hx
    · rename_i ci k fin ty cj fs hf ho
      split at hx
      · rename_i hc
        subst hc
        split at hx
        · rename_i v hv
          obtain ⟨rfl, rfl⟩ := xm_ok_spec hx
          refine xs_N0 fun p e R s m args below meth c H locs cells slots ls Q C K L r hcs kk => ?_
          obtain ⟨c1, c2, c3, c4, c5, c6, c7, c8, c9⟩ := C
          obtain ⟨Cn, T, N, g1, g2, g3, g4, g5, g6⟩ := xp_fl_spec hf c4
          have he : hp.1 a = some (.inr (.inl (cj, fs))) := by
            unfold xm_obj at ho
            split at ho
            · rename_i x hx'; cases ho; exact hx'
            · cases ho
          exact va_get (own := M.1.cls) (ref := Cn) c1 c2 c6 (xp_cl_in g1) c5 K.1 (xs_P1 (r.2.2 _ _ he).2) 0 rfl g1 k g2 (c6 _ g6) (fun x hx => by rw [g5] at hx; exact hx) hv hd kk
        · cases hx
      · cases hx
    · cases hx
  · cases hx
theorem xs_put {M : xm_M} {n pc idx : Nat} {lo : xm_L} {sk : List Value} {hp : xm_H} {z : xm_S} (hd : decode M.2.1 pc = .ok (.putfield idx, n)) (hx : xm_put n pc M.2.2.2.2.1 idx M.2.2.2.2.2.2.2 lo sk hp = some (.inl z)) : xs_N l D aT B scr M pc lo sk hp z.1 z.2.1 z.2.2.1 z.2.2.2 := by
  unfold xm_put at hx
  split at hx
  · rename_i v a sk
    split at hx
    · rename_i ci k fin ty cj fs hf ho
      split at hx
      · rename_i hc
        obtain ⟨rfl, hk, hfin, hnar, hfit⟩ := hc
        obtain ⟨rfl, rfl⟩ := xm_ok_spec hx
        have he : hp.1 a = some (.inr (.inl (cj, fs))) := by
          unfold xm_obj at ho
          split at ho
          · rename_i x hx'; cases ho; exact hx'
          · cases ho
        refine xs_NU fun p e R s m args below meth c H locs cells slots ls Q C K L r hcs kk => ?_
        obtain ⟨c1, c2, c3, c4, c5, c6, c7, c8, c9⟩ := C
        obtain ⟨Cn, T, N, g1, g2, g3, g4, g5, g6⟩ := xp_fl_spec hf c4
        obtain ⟨ty0, t1, t2⟩ := xp_cl_ty g1
        have hin := xp_cl_in g1
        have hBa : B ≤ a := (r.2.2 _ _ he).1
        have hap := va_apart (own := M.1.cls) c6 hin ty0 t1 t2 K.1 g1
        obtain ⟨r0, h1, cell, q1, q2, q3, q4⟩ := (r.2.2 _ _ he).2
        have hr : r0 = (Cn, T, N) := Option.some.inj (h1.symm.trans g1)
        subst hr
        obtain ⟨hS, hfc, kC, hkC, hkind⟩ := K.1.1 cj _ g1
        obtain ⟨cf, kf, fi, f, hi, hsl⟩ := hS k g2
        have hi' : s.fieldFound? Cn (T k).2.1 (T k).2.2.1 = some (cf, kf, fi, f) := by rw [g5] at hi; exact hi
        have hlay := c6 _ (hin _ (u_in_lay g2))
        have hst := (u_facts hfc hkC (u_lays c6 hin g2) hi).1
        have fin1 : ∀ H' : Heap, H'[a]? = some (cell.setSlot ((D.2 cj) k) v) → H'.size = H.size → (∀ q, q ≠ a → H'[q]? = H[q]?) → W p l e R s m args below meth c H' (locs ++ [⟨a, (D.2 cj) k⟩]) cells slots Q (F0 m (pc + 3) ls sk) := by
          intro H' e1 e2 e3
          refine kk H' [⟨a, (D.2 cj) k⟩] ⟨hBa, _, g1, t_OB.to (V := updV (vp_V fs) k v) ⟨_, e1, q2, q3, t_set q4 hap g2 v⟩ (fun j _ => vp_updV_set hk v j)⟩ e2 e3 (fun q hq => ?_)
          rw [List.mem_singleton.mp hq]; exact hBa
        by_cases hff : fin = false
        · unfold u_lay at hlay
          rw [if_neg (by rw [g3, hff]; decide)] at hlay
          have h6 := u_store hfc hkC hkind hlay hi g4 hnar hfit
          refine W.putK (ref := Cn) c1 c2 (f := f) ⟨c5, c6 _ g6, ⟨_, _, _, hi'⟩, hst⟩ (by rw [q2]; exact h6) q1 q3 (by rw [hsl]; exact k2_hasslot (q4 k g2)) rfl rfl hd fun H' e1 e2 e3 => ?_
          rw [hsl] at e1 ⊢
          exact fin1 H' e1 e2 e3
        · have hft : fin = true := by simpa using hff
          rcases hfin with hfin | ⟨hini, hoc⟩
          · exact absurd hfin hff
          unfold u_lay at hlay
          rw [if_pos (by rw [g3, hft])] at hlay
          have hCn : Cn = M.1.cls := by
            have hon : xp_on[cj]? = some M.1.cls := by rw [← hoc]; exact c4
            have := xp_on_cl g1
            exact Option.some.inj (this.symm.trans hon)
          have hcf : m.cls = cf := by
            obtain ⟨_, _, c', _, _, _, -, -, hf', -, -, -, hown2, -⟩ := Cond.laysFinal_spec hlay
            have e1 : c' = cf := by have := hi.symm.trans hf'; simp at this; exact this.1.symm
            rw [g5, hCn] at hown2
            rw [← e1]; exact Option.some.inj (c5.symm.trans hown2)
          have h6 := u_fits hfc hkC hkind (Or.inr hlay) hi g4 hnar hfit
          refine W.putFinK (ref := Cn) c1 c2 c5 (c6 _ g6) hi' hst hcf (c7 hini) (by rw [q2]; exact h6) q1 q3 (by rw [hsl]; exact k2_hasslot (q4 k g2)) rfl rfl hd fun H' e1 e2 e3 => ?_
          rw [hsl] at e1 ⊢
          exact fin1 H' e1 e2 e3
      · cases hx
    · cases hx
  · cases hx
theorem xs_new {M : xm_M} {n pc idx : Nat} {lo : xm_L} {sk : List Value} {hp : xm_H} {z : xm_S} (hd : decode M.2.1 pc = .ok (.new idx, n)) (hx : xm_new n pc M.2.2.2.2.1 idx lo sk hp = some (.inl z)) : xs_N l D aT B scr M pc lo sk hp z.1 z.2.1 z.2.2.1 z.2.2.2 := by
  unfold xm_new at hx
  split at hx
  · rename_i ci fs hf
    obtain ⟨rfl, rfl⟩ := xm_ok_spec hx
    refine xs_NA fun p e R s m args below meth c H locs cells slots ls Q C K L r hc hs kk => ?_
    obtain ⟨c1, c2, c3, c4, c5, c6, c7, c8, c9⟩ := C
    obtain ⟨pp, hpp⟩ := xk_all_of xk_nw_all hf
    unfold xk_nw at hpp
    rw [c4] at hpp
    split at hpp
    · rename_i own Cn T N p1 p2 ty h1 g1 h3 h4
      cases h1
      simp only [Bool.and_eq_true, decide_eq_true_eq] at hpp
      obtain ⟨w1, w2, w3, hlen, hall⟩ := hpp
      have hall' : ∀ k, k < N → defaultValue (ty k) = vp_V fs k ∧ parseFieldDescriptor (T k).2.2.1 = some (ty k) := by
        intro k hk
        have := List.all_eq_true.mp hall k (List.mem_range.mpr hk)
        simpa only [Bool.and_eq_true, decide_eq_true_eq] using this
      have hKn := K.1.1 ci _ g1
      rw [hlen] at hs kk
      refine W.newcK c1 c2 c5 (c6 _ (xk_w_mem w1)) (c6 _ (xk_w_mem w2)) (c6 _ (xk_w_mem w3)) rfl hd hc hs hKn.2.1 rfl fun H1 kC hkC e1 z1 o1 => ?_
      have := kk H1 ⟨r.2.1, _, g1, (u_born ty c6 (xp_cl_in g1) hKn hkC e1 (fun k hk => (hall' k hk).2)).to (fun k hk => (hall' k hk).1)⟩ z1 o1
      rw [r.1] at this
      exact this
    · cases hpp
  · cases hx
theorem xs_newa {M : xm_M} {n pc : Nat} {t : ArrayType} {lo : xm_L} {sk : List Value} {hp : xm_H} {z : xm_S} (hd : decode M.2.1 pc = .ok (.newarray t, n)) (hx : xm_newa n pc t lo sk hp = some (.inl z)) : xs_N l D aT B scr M pc lo sk hp z.1 z.2.1 z.2.2.1 z.2.2.2 := by
  unfold xm_newa at hx
  split at hx
  · rename_i k sk
    split at hx
    · cases hx
    · rename_i hk
      split at hx
      · rename_i h8
        split at hx
        · rename_i x hb
          obtain ⟨rfl, rfl⟩ := xm_ok_spec hx
          refine xs_NA fun p e R s m args below meth c H locs cells slots ls Q C K L r hc hs kk => ?_
          obtain ⟨c1, c2, c3, c4, c5, c6, c7, c8, c9⟩ := C
          have hb8 : k.toNatClampNeg * componentBytes (newarray.typeOf t) ≤ 536870912 := by
            cases t <;> first | (cases hb; done) | exact Nat.le_trans (Nat.mul_le_mul_left _ (by decide)) h8
          have hw : (Cond.arrayClass (newarray.typeOf t)).before args s = true := by
            cases t <;> first | (cases hb; done) | exact c6 _ (xk_w_mem xk_arr_int) | exact c6 _ (xk_w_mem xk_arr_boolean) | exact c6 _ (xk_w_mem xk_arr_long)
          refine va_newaK c1 c2 hw rfl hd rfl hk rfl hb8 hc hs rfl fun H1 cA e1 z1 o1 hAr hNm => ?_
          have hx1 : xs_E D aT B scr H1 H.size x := by
            cases t <;> first | (cases hb; done) | skip
            · cases hb
              have hcA : cA = aT .boolean := Option.some.inj (hNm.symm.trans (K.2.1 .boolean (Or.inr (Or.inl rfl))).2)
              subst hcA
              exact ⟨r.2.1, Or.inr (Or.inl rfl), e1⟩
            · cases hb
              have hcA : cA = aT .int := Option.some.inj (hNm.symm.trans (K.2.1 .int (Or.inl rfl)).2)
              subst hcA
              exact ⟨r.2.1, Or.inl rfl, e1⟩
            · cases hb
              have hcA : cA = aT .long := Option.some.inj (hNm.symm.trans (K.2.1 .long (Or.inr (Or.inr rfl))).2)
              subst hcA
              exact ⟨r.2.1, Or.inr (Or.inr rfl), e1⟩
          have := kk H1 hx1 z1 o1
          rw [r.1] at this
          exact this
        · cases hx
      · cases hx
  · cases hx
end XU
end
section
section XCP
variable {p : Program} {l : Launch} {e : Env} {R : Room} {s : State} {m : MethodId} {args : Array Value} {below : List Frame} {meth : Method} {c : Code} {H : Heap} {locs : List Loc} {cells slots : Nat} {Q : State → Prop}
variable {pc : Nat} {ls : Array Slot} {rest : List Value}
/-- System.arraycopy of ints, what it leaves alone said cell by cell (va_copyi turned so) -/
theorem xs_copyW {cc : ByteArray} (hexec : p.tables.exec = Jvm.exec) (hb : c.code = cc) (hml : c.maxLocals = ls.size) {own : String} {index : Nat} (hown : s.vm.findClass own = some m.cls) (hlink : (Cond.methodLink own index arraycopyName).before args s = true) (hnat : (Cond.native arraycopyName).before args s = true) (hstat : (Cond.static arraycopyName).before args s = true) (hini : (Cond.initialized "java/lang/System").before args s = true)
    {c0 : ClassId} (hA : ArrOfT s c0 .int) {a a0 n0 n1 : Nat} {f g : Nat → Int32} (hc0 : H[a0]? = some (vp_cell c0 (n0, .inl f))) (hc1 : H[a]? = some (vp_cell c0 (n1, .inl g)))
    {sp dp n : Int32} (h1 : ¬ sp < 0) (h2 : ¬ dp < 0) (h3 : ¬ n < 0) (h4 : sp.toNatClampNeg + n.toNatClampNeg ≤ n0) (h5 : dp.toNatClampNeg + n.toNatClampNeg ≤ n1)
    (hframes : 1 ≤ R.frames) (hlocals : (rest.map fun v => v.category).sum + 18 ≤ R.locals) (hdg : decode cc pc = .ok (.invokestatic index, 3))
    (kk : ∀ (H1 : Heap) (L : List Loc), H1[a]? = some (vp_cell c0 (n1, .inl (va_cpy f g sp.toNatClampNeg dp.toNatClampNeg n.toNatClampNeg))) → H1.size = H.size → (∀ q, q ≠ a → H1[q]? = H[q]?) → (∀ q ∈ L, q.base = a) → W p l e R s m args below meth c H1 (locs ++ L) cells slots Q (F0 m (pc + 3) ls rest)) : W p l e R s m args below meth c H locs cells slots Q (F0 m pc ls (.int n :: .int dp :: .ref a :: .int sp :: .ref a0 :: rest)) := by
  have nn : ∀ z : Int32, ¬ z < 0 → z.toInt = (z.toNatClampNeg : Int) := by
    intro z hz
    have hz0 : (0 : Int) ≤ z.toInt := by
      have := Int32.not_lt.mp hz
      simpa using Int32.le_iff_toInt_le.mp this
    show z.toInt = ((z.toInt.toNat : Nat) : Int)
    omega
  have hnw : nativeFrameWords "java/lang/System" "arraycopy" 5 = 7 := by decide +kernel
  intro T hT X
  obtain ⟨-, k0, hk0, cm0, hkk0⟩ := hA n0 (fun j => .int (f j))
  obtain ⟨-, k1, hk1, cm1, hkk1⟩ := hA n1 (fun j => .int (g j))
  obtain ⟨vm', X', step⟩ := X.arraycopy hexec hown hlink hnat hstat hini (src := a0) (dst := a) (cs := vp_cell c0 (n0, .inl f)) (cd := vp_cell c0 (n1, .inl g)) (srcPos := sp) (destPos := dp) (n := n) (by rw [hT]; exact hc0) (by rw [hT]; exact hc1)
    (fun _ h => by cases h) (fun _ h => by cases h) (fun h => by cases h) (fun h => by cases h) hk0 hk1 hkk0 hkk1 (by simp [refKind]) h1 h2 h3
    (by rw [nn sp h1, nn n h3]; show ¬ _ > ((arrV c0 n0 (fun j => .int (f j))).slots.size : Int); rw [arrV_size]; omega)
    (by rw [nn dp h2, nn n h3]; show ¬ _ > ((arrV c0 n1 (fun j => .int (g j))).slots.size : Int); rw [arrV_size]; omega)
    (fun vm₁ _ i hi => by
      have e : (vp_cell c0 (n0, .inl f)).slots.getD (sp.toNatClampNeg + i) .null = .int (f (sp.toNatClampNeg + i)) := by
        show (arrV c0 n0 (fun j => .int (f j))).slots.getD _ _ = _
        rw [Array.getD_eq_getD_getElem?, arrV_read _ _ (by omega)]
        rfl
      refine ⟨?_, ?_⟩
      · rw [e]
        rfl
      · rw [e]
        exact trivial)
    (g := F0 m pc ls (.int n :: .int dp :: .ref a :: .int sp :: .ref a0 :: rest)) rfl (by rw [hml]) (rest := rest) rfl (by rw [hb]; exact hdg) hframes (by show 2 * 0 + _ + (nativeFrameWords "java/lang/System" "arraycopy" 5 + 11) ≤ _; rw [hnw]; omega)
  have e1 : copied (vp_cell c0 (n0, .inl f)) (vp_cell c0 (n1, .inl g)) sp dp n = vp_cell c0 (n1, .inl (va_cpy f g sp.toNatClampNeg dp.toNatClampNeg n.toNatClampNeg)) := va_copied (fun z => .int z) c0 c0 f g h4
  rw [e1] at X' step
  have hl : a < H.size := (Array.getElem?_eq_some_iff.mp hc1).1
  have hheap : ((T.setVm vm').setCell a (vp_cell c0 (n1, .inl (va_cpy f g sp.toNatClampNeg dp.toNatClampNeg n.toNatClampNeg)))).heap = H.setIfInBounds a (vp_cell c0 (n1, .inl (va_cpy f g sp.toNatClampNeg dp.toNatClampNeg n.toNatClampNeg))) := by rw [← hT]; rfl
  obtain ⟨t, a1, b1⟩ := kk _ _ (show (H.setIfInBounds a _)[a]? = some _ by simp [Array.getElem?_setIfInBounds, hl]) (by simp) (fun q hq => by simp [Array.getElem?_setIfInBounds, Ne.symm hq]) (fun q hq => by
      obtain ⟨z, -, hz⟩ := List.mem_map.mp hq
      rw [← hz]) _ hheap X'
  exact ⟨t, step t a1, b1⟩
end XCP
section XV
variable {l : Launch} {D : va_G} {aT : FieldType → ClassId} {B : Nat} {scr : Cell}
theorem xs_ints {U : State} (K : xs_K D aT scr U) {ty : FieldType} (h : ty = .int ∨ ty = .boolean ∨ ty = .long) : va_K D xp_cl [(aT ty, ty)] U := by
  refine ⟨K.1.1, fun k q hk => ?_⟩
  match k, hk with
  | 0, hk =>
    cases hk
    refine ⟨(K.2.1 ty h).1, ?_⟩
    rcases h with rfl | rfl | rfl <;> exact (K.2.1 _ (by simp)).2
  | k + 1, hk => simp at hk
theorem xs_iald {M : xm_M} {n pc : Nat} {lo : xm_L} {sk : List Value} {hp : xm_H} {z : xm_S} (hd : decode M.2.1 pc = .ok (.iaload, n)) (hx : xm_iald n pc lo sk hp = some (.inl z)) : xs_N l D aT B scr M pc lo sk hp z.1 z.2.1 z.2.2.1 z.2.2.2 := by
  unfold xm_iald at hx
  split at hx
  · rename_i i a sk
    split at hx
    · rename_i N f he
      split at hx
      · cases hx
      · rename_i hi
        obtain ⟨rfl, rfl⟩ := xm_ok_spec hx
        refine xs_N0 fun p e R s m args below meth c H locs cells slots ls Q C K L r hcs kk => ?_
        exact va_iald C.1 C.2.1 (xs_ints K (Or.inl rfl)) (xs_P1 (e := .inl (aT .int, N, .inl f)) (r.2.2 _ _ he).2.2) 0 0 rfl rfl (xm_out_of_spec hi) hd kk
    · rename_i N f he
      split at hx
      · cases hx
      · rename_i hi
        obtain ⟨rfl, rfl⟩ := xm_ok_spec hx
        refine xs_N0 fun p e R s m args below meth c H locs cells slots ls Q C K L r hcs kk => ?_
        obtain ⟨-, h1, h3, h4, h5⟩ := r.2.2 _ _ he
        have hin := xm_out_of_spec hi
        have hlt : i.toNatClampNeg < N := Nat.not_le.mp fun q => hin (Or.inr q)
        exact W.iald (v := .int (f i.toNatClampNeg)) C.1 C.2.1 h1 K.2.2.1 h3 (by rw [h4]; exact hin) (h5 _ hlt) rfl rfl hd kk
    · cases hx
  · cases hx
theorem xs_zald {M : xm_M} {n pc : Nat} {lo : xm_L} {sk : List Value} {hp : xm_H} {z : xm_S} (hd : decode M.2.1 pc = .ok (.baload, n)) (hx : xm_zald n pc lo sk hp = some (.inl z)) : xs_N l D aT B scr M pc lo sk hp z.1 z.2.1 z.2.2.1 z.2.2.2 := by
  unfold xm_zald at hx
  split at hx
  · rename_i i a sk
    split at hx
    · rename_i N f he
      split at hx
      · cases hx
      · rename_i hi
        obtain ⟨rfl, rfl⟩ := xm_ok_spec hx
        refine xs_N0 fun p e R s m args below meth c H locs cells slots ls Q C K L r hcs kk => ?_
        exact va_zald C.1 C.2.1 (xs_ints K (Or.inr (Or.inl rfl))) (xs_P1 (e := .inl (aT .boolean, N, .inl f)) (r.2.2 _ _ he).2.2) 0 0 rfl rfl (xm_out_of_spec hi) hd kk
    · cases hx
  · cases hx
theorem xs_lald {M : xm_M} {n pc : Nat} {lo : xm_L} {sk : List Value} {hp : xm_H} {z : xm_S} (hd : decode M.2.1 pc = .ok (.laload, n)) (hx : xm_lald n pc lo sk hp = some (.inl z)) : xs_N l D aT B scr M pc lo sk hp z.1 z.2.1 z.2.2.1 z.2.2.2 := by
  unfold xm_lald at hx
  split at hx
  · rename_i i a sk
    split at hx
    · rename_i N f he
      split at hx
      · cases hx
      · rename_i hi
        obtain ⟨rfl, rfl⟩ := xm_ok_spec hx
        refine xs_N0 fun p e R s m args below meth c H locs cells slots ls Q C K L r hcs kk => ?_
        exact va_lald C.1 C.2.1 (xs_ints K (Or.inr (Or.inr rfl))) (xs_P1 (e := .inl (aT .long, N, .inr (.inl f))) (r.2.2 _ _ he).2.2) 0 0 rfl rfl (xm_out_of_spec hi) hd kk
    · cases hx
  · cases hx
theorem xs_iast {M : xm_M} {n pc : Nat} {lo : xm_L} {sk : List Value} {hp : xm_H} {z : xm_S} (hd : decode M.2.1 pc = .ok (.iastore, n)) (hx : xm_iast n pc lo sk hp = some (.inl z)) : xs_N l D aT B scr M pc lo sk hp z.1 z.2.1 z.2.2.1 z.2.2.2 := by
  unfold xm_iast at hx
  split at hx
  · rename_i x i a sk
    split at hx
    · rename_i N f he
      split at hx
      · cases hx
      · rename_i hi
        obtain ⟨rfl, rfl⟩ := xm_ok_spec hx
        refine xs_NU fun p e R s m args below meth c H locs cells slots ls Q C K L r hcs kk => ?_
        obtain ⟨hB, hty, hcell⟩ := r.2.2 _ _ he
        have hin := xm_out_of_spec hi
        refine W.iast C.1 C.2.1 hcell ((K.2.1 .int (Or.inl rfl)).1 N (fun j => .int (f j))) (fun q => by cases q) (by show ¬ (i < 0 ∨ (arrV _ _ _).slots.size ≤ _); rw [arrV_size]; exact hin) rfl rfl hd fun H1 e1 z1 oq => ?_
        refine kk H1 _ ⟨hB, Or.inl rfl, ?_⟩ z1 oq (fun q hq => by rw [List.mem_singleton.mp hq]; exact hB)
        show H1[a]? = some (vp_cell _ _)
        rw [e1]
        rw [vp_cell_i, vp_cell_i, arrV_store]
        congr 2
        funext q
        by_cases hq : q = i.toNatClampNeg
        · subst hq
          simp [updV, upd]
          try rfl
        · simp [updV, upd, hq]
    · cases hx
  · cases hx
theorem xs_zast {M : xm_M} {n pc : Nat} {lo : xm_L} {sk : List Value} {hp : xm_H} {z : xm_S} (hd : decode M.2.1 pc = .ok (.bastore, n)) (hx : xm_zast n pc lo sk hp = some (.inl z)) : xs_N l D aT B scr M pc lo sk hp z.1 z.2.1 z.2.2.1 z.2.2.2 := by
  unfold xm_zast at hx
  split at hx
  · rename_i x i a sk
    split at hx
    · rename_i N f he
      split at hx
      · cases hx
      · rename_i hi
        obtain ⟨rfl, rfl⟩ := xm_ok_spec hx
        refine xs_NU fun p e R s m args below meth c H locs cells slots ls Q C K L r hcs kk => ?_
        obtain ⟨hB, hty, hcell⟩ := r.2.2 _ _ he
        have hin := xm_out_of_spec hi
        refine W.zast C.1 C.2.1 hcell ((K.2.1 .boolean (Or.inr (Or.inl rfl))).1 N (fun j => .int (f j))) (fun q => by cases q) (by show ¬ (i < 0 ∨ (arrV _ _ _).slots.size ≤ _); rw [arrV_size]; exact hin) rfl rfl hd fun H1 e1 z1 oq => ?_
        refine kk H1 _ ⟨hB, Or.inr (Or.inl rfl), ?_⟩ z1 oq (fun q hq => by rw [List.mem_singleton.mp hq]; exact hB)
        show H1[a]? = some (vp_cell _ _)
        rw [e1]
        rw [vp_cell_i, vp_cell_i, arrV_store]
        congr 2
        funext q
        by_cases hq : q = i.toNatClampNeg
        · subst hq
          simp [updV, upd, vp_nar]
          try rfl
        · simp [updV, upd, vp_nar, hq]
    · cases hx
  · cases hx
theorem xs_last {M : xm_M} {n pc : Nat} {lo : xm_L} {sk : List Value} {hp : xm_H} {z : xm_S} (hd : decode M.2.1 pc = .ok (.lastore, n)) (hx : xm_last n pc lo sk hp = some (.inl z)) : xs_N l D aT B scr M pc lo sk hp z.1 z.2.1 z.2.2.1 z.2.2.2 := by
  unfold xm_last at hx
  split at hx
  · rename_i x i a sk
    split at hx
    · rename_i N f he
      split at hx
      · cases hx
      · rename_i hi
        obtain ⟨rfl, rfl⟩ := xm_ok_spec hx
        refine xs_NU fun p e R s m args below meth c H locs cells slots ls Q C K L r hcs kk => ?_
        obtain ⟨hB, hty, hcell⟩ := r.2.2 _ _ he
        have hin := xm_out_of_spec hi
        refine W.last C.1 C.2.1 hcell ((K.2.1 .long (Or.inr (Or.inr rfl))).1 N (fun j => .long (f j))) (fun q => by cases q) (by show ¬ (i < 0 ∨ (arrV _ _ _).slots.size ≤ _); rw [arrV_size]; exact hin) rfl rfl hd fun H1 e1 z1 oq => ?_
        refine kk H1 _ ⟨hB, Or.inr (Or.inr rfl), ?_⟩ z1 oq (fun q hq => by rw [List.mem_singleton.mp hq]; exact hB)
        show H1[a]? = some (vp_cell _ _)
        rw [e1]
        rw [vp_cell_l, vp_cell_l, arrV_store]
        congr 2
        funext q
        by_cases hq : q = i.toNatClampNeg
        · subst hq
          simp [updV, vp_updL]
          try rfl
        · simp [updV, vp_updL, hq]
    · cases hx
  · cases hx
theorem xs_alen {M : xm_M} {n pc : Nat} {lo : xm_L} {sk : List Value} {hp : xm_H} {z : xm_S} (hd : decode M.2.1 pc = .ok (.arraylength, n)) (hx : xm_alen n pc lo sk hp = some (.inl z)) : xs_N l D aT B scr M pc lo sk hp z.1 z.2.1 z.2.2.1 z.2.2.2 := by
  unfold xm_alen at hx
  split at hx
  · rename_i a sk
    split at hx
    · rename_i ty N g he
      obtain ⟨rfl, rfl⟩ := xm_ok_spec hx
      refine xs_N0 fun p e R s m args below meth c H locs cells slots ls Q C K L r hcs kk => ?_
      obtain ⟨hB, hty, hcell⟩ := r.2.2 _ _ he
      exact va_alen C.1 C.2.1 (xs_ints K hty) (xs_P1 (e := .inl (aT ty, N, g)) hcell) 0 0 rfl rfl rfl hd kk
    · rename_i N f he
      obtain ⟨rfl, rfl⟩ := xm_ok_spec hx
      refine xs_N0 fun p e R s m args below meth c H locs cells slots ls Q C K L r hcs kk => ?_
      obtain ⟨-, h1, h3, h4, h5⟩ := r.2.2 _ _ he
      exact W.alen (n := Int32.ofNat N) C.1 C.2.1 h1 K.2.2.1 (by rw [h4] <;> rfl) rfl rfl hd kk
    · cases hx
  · cases hx
theorem xm_low_spec {sk : List Value} (h : xm_low sk = true) : (sk.map fun v => v.category).sum ≤ 8 := by
  unfold xm_low at h
  exact decide_eq_true_eq.mp h
theorem xp_mem_of {L : List (Nat × Nat)} {P : List (Nat × Nat × Nat)} {f : Nat × Nat × Nat → Bool} (hL : P.map (fun q => (q.1, q.2.1)) = L) (hf : P.all f = true) {oc idx : Nat} (h : decide ((oc, idx) ∈ L) = true) : ∃ p, f (oc, idx, p) = true := by
  have h1 := decide_eq_true_eq.mp h
  rw [← hL] at h1
  obtain ⟨q, hq, he⟩ := List.mem_map.mp h1
  obtain ⟨a, b, c⟩ := q
  cases he
  exact ⟨c, List.all_eq_true.mp hf _ hq⟩
theorem xs_min {M : xm_M} {n pc idx : Nat} {lo : xm_L} {sk : List Value} {hp : xm_H} {z : xm_S} (hd : decode M.2.1 pc = .ok (.invokestatic idx, n)) (hm : xp_mm M.2.2.2.2.1 idx = true) (hx : xm_min n pc M lo sk hp = some (.inl z)) : xs_N l D aT B scr M pc lo sk hp z.1 z.2.1 z.2.2.1 z.2.2.2 := by
  unfold xm_min at hx
  split at hx
  · rename_i y x rest
    split at hx
    · rename_i hc
      simp only [Bool.and_eq_true, decide_eq_true_eq] at hc
      obtain ⟨rfl, rfl⟩ := xm_ok_spec hx
      refine xs_N0 fun p e R s m args below meth c H locs cells slots ls Q C K L r hcs kk => ?_
      obtain ⟨c1, c2, c3, c4, c5, c6, c7, c8, c9⟩ := C
      obtain ⟨q, hq⟩ := xp_mem_of xk_mm_L xk_mm_all hm
      unfold xk_mm at hq
      rw [c4] at hq
      have hlow := xm_low_spec hc.1
      exact va_mmin c1 c2 (c3.trans L.1.symm) c5 (c6 _ (xk_w_mem hq)) (c6 _ (xk_w_mem xk_mm_1)) (c6 _ (xk_w_mem xk_mm_2)) (c6 _ (List.mem_filter.mpr ⟨List.mem_of_getElem? xk_mm_3, rfl⟩)) (Nat.le_trans hc.2.1 c8) (by omega) hcs.1 hcs.2 hd kk
    · cases hx
  · cases hx
theorem xs_oi {M : xm_M} {n pc idx a : Nat} {lo : xm_L} {rest : List Value} {hp : xm_H} {z : xm_S} (hd : decode M.2.1 pc = .ok (.invokespecial idx, n)) (hm : xp_oi M.2.2.2.2.1 idx = true) (hc : (xm_low rest && (decide (1 ≤ M.2.2.2.2.2.1) && decide (20 ≤ M.2.2.2.2.2.2.1))) = true) (hx : xm_ok n 3 (pc + 3, lo, rest, hp) = some (.inl z)) : xs_N l D aT B scr M pc lo (.ref a :: rest) hp z.1 z.2.1 z.2.2.1 z.2.2.2 := by
  simp only [Bool.and_eq_true, decide_eq_true_eq] at hc
  obtain ⟨rfl, rfl⟩ := xm_ok_spec hx
  refine xs_N0 fun p e R s m args below meth c H locs cells slots ls Q C K L r hcs kk => ?_
  obtain ⟨c1, c2, c3, c4, c5, c6, c7, c8, c9⟩ := C
  obtain ⟨q, hq⟩ := xp_mem_of xk_oi_L xk_oi_all hm
  unfold xk_oi at hq
  rw [c4] at hq
  have hlow := xm_low_spec hc.1
  exact W.objInit c1 c2 c5 (c6 _ (xk_w_mem hq)) (c6 _ (xk_w_mem xk_oi_1)) (c6 _ (List.mem_filter.mpr ⟨List.mem_of_getElem? xk_oi_2, rfl⟩)) rfl (L.1.trans c3.symm) rfl hd (Nat.le_trans hc.2.1 c8) (by show 2 * 0 + _ + 12 ≤ _; omega) kk
theorem xs_copy {M : xm_M} {n pc idx : Nat} {lo : xm_L} {sk : List Value} {hp : xm_H} {z : xm_S} (hd : decode M.2.1 pc = .ok (.invokestatic idx, n)) (hm : xp_ac M.2.2.2.2.1 idx = true) (hx : xm_copy n pc M lo sk hp = some (.inl z)) : xs_N l D aT B scr M pc lo sk hp z.1 z.2.1 z.2.2.1 z.2.2.2 := by
  unfold xm_copy at hx
  split at hx
  · rename_i w dp a sp a0 rest
    split at hx
    · rename_i n0 f n1 g he0 he1
      split at hx
      · rename_i hc
        obtain ⟨hne, h1, h2, h3, h4, h5, hlow, hf1, hf2⟩ := hc
        obtain ⟨rfl, rfl⟩ := xm_ok_spec hx
        refine xs_NU fun p e R s m args below meth c H locs cells slots ls Q C K L r hcs kk => ?_
        obtain ⟨c1, c2, c3, c4, c5, c6, c7, c8, c9⟩ := C
        obtain ⟨q, hq⟩ := xp_mem_of xk_ac_L xk_ac_all hm
        unfold xk_ac at hq
        rw [c4] at hq
        have hlow := xm_low_spec hlow
        obtain ⟨hB0, -, hc0⟩ := r.2.2 _ _ he0
        obtain ⟨hB1, -, hc1⟩ := r.2.2 _ _ he1
        refine xs_copyW c1 c2 (c3.trans L.1.symm) c5 (c6 _ (xk_w_mem hq)) (c6 _ (xk_w_mem xk_ac_1)) (c6 _ (xk_w_mem xk_ac_2)) (c6 _ (xk_w_mem xk_ac_3)) (K.2.1 .int (Or.inl rfl)).1 hc0 hc1 h1 h2 h3 h4 h5 (Nat.le_trans hf1 c8) (by omega) hd (fun H1 L1 e1 z1 oq hL => ?_)
        exact kk H1 L1 ⟨hB1, Or.inl rfl, e1⟩ z1 oq (fun q hq => by rw [hL q hq]; exact hB1)
      · cases hx
    · cases hx
  · cases hx
theorem xm_calS_no {n pc idx : Nat} {M : xm_M} {lo : xm_L} {sk : List Value} {hp : xm_H} {z : xm_S} : ¬ xm_calS n pc M idx lo sk hp = some (.inl z) := by
  intro h
  unfold xm_calS at h
  split at h
  · split at h
    · split at h <;> cases h
    · cases h
  · cases h
theorem xm_calV_no {n pc idx : Nat} {M : xm_M} {lo : xm_L} {sk : List Value} {hp : xm_H} {z : xm_S} : ¬ xm_calV n pc M idx lo sk hp = some (.inl z) := by
  intro h
  unfold xm_calV at h
  split at h
  · split at h
    · split at h
      · split at h <;> cases h
      · cases h
    · cases h
  · cases h
theorem xm_calP_no {n pc idx : Nat} {M : xm_M} {lo : xm_L} {sk : List Value} {hp : xm_H} {z : xm_S} : ¬ (match xp_mp M.2.2.2.2.1 idx with
  | some (j, k) => match xp_mi j, sk.drop k with
    | some N, .ref b :: rest => if n = 3 ∧ k ≤ sk.length ∧ xm_low rest = true ∧ xm_fit M N = true then some (.inr (.inr ((j, .ref b :: (sk.take k).reverse), (pc + 3, lo, rest, hp)))) else none
    | _, _ => none
  | none => none) = (some (.inl z) : Option xm_T) := by
  intro h
  split at h
  · split at h
    · split at h <;> cases h
    · cases h
  · cases h
theorem xm_end_no {n : Nat} {rt : Option FieldType} {i : Instr} {sk : List Value} {hp : xm_H} {z : xm_S} : ¬ xm_end n rt i sk hp = some (.inl z) := by
  intro h
  unfold xm_end at h
  split at h
  · split at h <;> cases h
  · cases h
set_option maxHeartbeats 4000000 in
/-- every instruction of the small machine that goes on, the machine does -/
theorem xs_next {M : xm_M} {n pc : Nat} {i : Instr} {lo : xm_L} {sk : List Value} {hp : xm_H} {z : xm_S} (hd : decode M.2.1 pc = .ok (i, n)) (hx : xm_ex M pc lo sk hp n i = some (.inl z)) : xs_N l D aT B scr M pc lo sk hp z.1 z.2.1 z.2.2.1 z.2.2.2 := by
  cases i with
  | iconst k =>
    obtain ⟨rfl, rfl⟩ := xm_ok_spec hx
    exact xs_N0 fun p e R s m args below meth c H locs cells slots ls Q C K L r hcs kk => lv_iconst C.1 C.2.1 hd rfl kk
  | bipush k =>
    obtain ⟨rfl, rfl⟩ := xm_ok_spec hx
    exact xs_N0 fun p e R s m args below meth c H locs cells slots ls Q C K L r hcs kk => lv_bipush C.1 C.2.1 hd rfl kk
  | sipush k =>
    obtain ⟨rfl, rfl⟩ := xm_ok_spec hx
    exact xs_N0 fun p e R s m args below meth c H locs cells slots ls Q C K L r hcs kk => lv_sipush C.1 C.2.1 hd rfl kk
  | lconst k =>
    obtain ⟨rfl, rfl⟩ := xm_ok_spec hx
    exact xs_N0 fun p e R s m args below meth c H locs cells slots ls Q C K L r hcs kk => lv_lconst C.1 C.2.1 hd rfl kk
  | aconst_null =>
    obtain ⟨rfl, rfl⟩ := xm_ok_spec hx
    exact xs_N0 fun p e R s m args below meth c H locs cells slots ls Q C K L r hcs kk => lv_null C.1 C.2.1 hd kk
  | ldc_w k =>
    have hx : (match xp_cn M.2.2.2.2.1 k with | some v => xm_ok n 3 (pc + 3, lo, .int v :: sk, hp) | none => none) = some (.inl z) := hx
    split at hx
    · rename_i v hv
      obtain ⟨rfl, rfl⟩ := xm_ok_spec hx
      refine xs_N0 fun p e R s m args below meth c H locs cells slots ls Q C K L r hcs kk => ?_
      obtain ⟨q, hq⟩ := xk_all_of xk_cn_all hv
      unfold xk_cn at hq
      rw [C.2.2.2.1] at hq
      exact lv_ldcw C.1 C.2.1 C.2.2.2.2.1 (C.2.2.2.2.2.1 _ (xk_w_mem hq)) hd kk
    · cases hx
  | iload k =>
    obtain ⟨rfl, v, hv, ht, rfl⟩ := xm_ld_spec hx
    obtain ⟨x, rfl⟩ := xm_isI_spec ht
    exact xs_N0 fun p e R s m args below meth c H locs cells slots ls Q C K L r hcs kk => lv_iload C.1 C.2.1 hd (L.2.2.2 _ _ hv) kk
  | iload_n k =>
    obtain ⟨rfl, v, hv, ht, rfl⟩ := xm_ld_spec hx
    obtain ⟨x, rfl⟩ := xm_isI_spec ht
    exact xs_N0 fun p e R s m args below meth c H locs cells slots ls Q C K L r hcs kk => lv_iload_n C.1 C.2.1 hd rfl (L.2.2.2 _ _ hv) kk
  | lload k =>
    obtain ⟨rfl, v, hv, ht, rfl⟩ := xm_ld_spec hx
    obtain ⟨x, rfl⟩ := xm_isJ_spec ht
    exact xs_N0 fun p e R s m args below meth c H locs cells slots ls Q C K L r hcs kk => lv_lload C.1 C.2.1 hd (L.2.2.2 _ _ hv) kk
  | lload_n k =>
    obtain ⟨rfl, v, hv, ht, rfl⟩ := xm_ld_spec hx
    obtain ⟨x, rfl⟩ := xm_isJ_spec ht
    exact xs_N0 fun p e R s m args below meth c H locs cells slots ls Q C K L r hcs kk => lv_lload_n C.1 C.2.1 hd rfl (L.2.2.2 _ _ hv) kk
  | aload k =>
    obtain ⟨rfl, v, hv, ht, rfl⟩ := xm_ld_spec hx
    rcases xm_isA_spec ht with rfl | ⟨x, rfl⟩
    · exact xs_N0 fun p e R s m args below meth c H locs cells slots ls Q C K L r hcs kk => lv_aloadN C.1 C.2.1 hd (L.2.2.2 _ _ hv) kk
    · exact xs_N0 fun p e R s m args below meth c H locs cells slots ls Q C K L r hcs kk => lv_aload C.1 C.2.1 hd (L.2.2.2 _ _ hv) kk
  | aload_n k =>
    obtain ⟨rfl, v, hv, ht, rfl⟩ := xm_ld_spec hx
    rcases xm_isA_spec ht with rfl | ⟨x, rfl⟩
    · exact xs_N0 fun p e R s m args below meth c H locs cells slots ls Q C K L r hcs kk => lv_aload_nN C.1 C.2.1 hd rfl (L.2.2.2 _ _ hv) kk
    · exact xs_N0 fun p e R s m args below meth c H locs cells slots ls Q C K L r hcs kk => lv_aload_n C.1 C.2.1 hd rfl (L.2.2.2 _ _ hv) kk
  | istore k =>
    obtain ⟨rfl, v, sk', rfl, ht, hn, rfl⟩ := xm_sto_spec hx
    obtain ⟨x, rfl⟩ := xm_isI_spec ht
    exact xs_N1 fun p e R s m args below meth c H locs cells slots ls Q C L kk => lv_istore C.1 C.2.1 hd L.has (L.2.2.1 ▸ hn) rfl (fun ls' h' => kk ls' (xs_st1 L h'))
  | istore_n k =>
    obtain ⟨rfl, v, sk', rfl, ht, hn, rfl⟩ := xm_sto_spec hx
    obtain ⟨x, rfl⟩ := xm_isI_spec ht
    exact xs_N1 fun p e R s m args below meth c H locs cells slots ls Q C L kk => lv_istore_n C.1 C.2.1 hd rfl L.has (L.2.2.1 ▸ hn) rfl (fun ls' h' => kk ls' (xs_st1 L h'))
  | astore k =>
    obtain ⟨rfl, v, sk', rfl, ht, hn, rfl⟩ := xm_sto_spec hx
    rcases xm_isA_spec ht with rfl | ⟨x, rfl⟩
    · exact xs_N1 fun p e R s m args below meth c H locs cells slots ls Q C L kk => lv_astoreN C.1 C.2.1 hd L.has (L.2.2.1 ▸ hn) rfl (fun ls' h' => kk ls' (xs_st1 L h'))
    · exact xs_N1 fun p e R s m args below meth c H locs cells slots ls Q C L kk => lv_astore C.1 C.2.1 hd L.has (L.2.2.1 ▸ hn) rfl (fun ls' h' => kk ls' (xs_st1 L h'))
  | astore_n k =>
    obtain ⟨rfl, v, sk', rfl, ht, hn, rfl⟩ := xm_sto_spec hx
    rcases xm_isA_spec ht with rfl | ⟨x, rfl⟩
    · exact xs_N1 fun p e R s m args below meth c H locs cells slots ls Q C L kk => lv_astore_nN C.1 C.2.1 hd rfl L.has (L.2.2.1 ▸ hn) rfl (fun ls' h' => kk ls' (xs_st1 L h'))
    · exact xs_N1 fun p e R s m args below meth c H locs cells slots ls Q C L kk => lv_astore_n C.1 C.2.1 hd rfl L.has (L.2.2.1 ▸ hn) rfl (fun ls' h' => kk ls' (xs_st1 L h'))
  | lstore k =>
    obtain ⟨rfl, v, sk', rfl, hn, rfl⟩ := xm_stJ_spec hx
    exact xs_N1 fun p e R s m args below meth c H locs cells slots ls Q C L kk => lv_lstore C.1 C.2.1 hd L.has (L.2.2.1 ▸ hn) rfl (fun ls' h' => kk ls' (xs_st2 L h'))
  | lstore_n k =>
    obtain ⟨rfl, v, sk', rfl, hn, rfl⟩ := xm_stJ_spec hx
    exact xs_N1 fun p e R s m args below meth c H locs cells slots ls Q C L kk => lv_lstore_n C.1 C.2.1 hd rfl L.has (L.2.2.1 ▸ hn) rfl (fun ls' h' => kk ls' (xs_st2 L h'))
  | iinc k dd =>
    have hx : xm_inc n pc k dd lo sk hp = some (.inl z) := hx
    unfold xm_inc at hx
    split at hx
    · rename_i x hv
      obtain ⟨rfl, rfl⟩ := xm_ok_spec hx
      refine xs_N1 fun p e R s m args below meth c H locs cells slots ls Q C L kk => ?_
      obtain ⟨kq, hkq⟩ := List.getElem?_of_mem (xs_as_mem.mpr hv)
      exact lv_iinc C.1 C.2.1 hd L.has hkq rfl (L.2.2.1 ▸ (List.getElem?_eq_some_iff.mp hv).1) rfl (fun ls' h' => kk ls' (xs_st1 L h'))
    · cases hx
  | iadd =>
    obtain ⟨rfl, x, y, sk', rfl, rfl⟩ := xm_i2_spec hx
    exact xs_N0 fun p e R s m args below meth c H locs cells slots ls Q C K L r hcs kk => lv_iadd C.1 C.2.1 hd kk
  | isub =>
    obtain ⟨rfl, x, y, sk', rfl, rfl⟩ := xm_i2_spec hx
    exact xs_N0 fun p e R s m args below meth c H locs cells slots ls Q C K L r hcs kk => lv_isub C.1 C.2.1 hd kk
  | imul =>
    obtain ⟨rfl, x, y, sk', rfl, rfl⟩ := xm_i2_spec hx
    exact xs_N0 fun p e R s m args below meth c H locs cells slots ls Q C K L r hcs kk => lv_imul C.1 C.2.1 hd kk
  | iand =>
    obtain ⟨rfl, x, y, sk', rfl, rfl⟩ := xm_i2_spec hx
    exact xs_N0 fun p e R s m args below meth c H locs cells slots ls Q C K L r hcs kk => lv_iand C.1 C.2.1 hd kk
  | ior =>
    obtain ⟨rfl, x, y, sk', rfl, rfl⟩ := xm_i2_spec hx
    exact xs_N0 fun p e R s m args below meth c H locs cells slots ls Q C K L r hcs kk => lv_ior C.1 C.2.1 hd kk
  | ixor =>
    obtain ⟨rfl, x, y, sk', rfl, rfl⟩ := xm_i2_spec hx
    exact xs_N0 fun p e R s m args below meth c H locs cells slots ls Q C K L r hcs kk => lv_ixor C.1 C.2.1 hd kk
  | ishl =>
    obtain ⟨rfl, x, y, sk', rfl, rfl⟩ := xm_i2_spec hx
    exact xs_N0 fun p e R s m args below meth c H locs cells slots ls Q C K L r hcs kk => lv_ishl C.1 C.2.1 hd kk
  | ishr =>
    obtain ⟨rfl, x, y, sk', rfl, rfl⟩ := xm_i2_spec hx
    exact xs_N0 fun p e R s m args below meth c H locs cells slots ls Q C K L r hcs kk => lv_ishr C.1 C.2.1 hd kk
  | iushr =>
    obtain ⟨rfl, x, y, sk', rfl, rfl⟩ := xm_i2_spec hx
    exact xs_N0 fun p e R s m args below meth c H locs cells slots ls Q C K L r hcs kk => lv_iushr C.1 C.2.1 hd rfl kk
  | ineg =>
    obtain ⟨rfl, x, sk', rfl, rfl⟩ := xm_i1_spec hx
    exact xs_N0 fun p e R s m args below meth c H locs cells slots ls Q C K L r hcs kk => lv_ineg C.1 C.2.1 hd kk
  | idiv =>
    obtain ⟨rfl, x, y, sk', rfl, hy, rfl⟩ := xm_d2_spec hx
    exact xs_N0 fun p e R s m args below meth c H locs cells slots ls Q C K L r hcs kk => lv_idiv C.1 C.2.1 hd hy kk
  | irem =>
    obtain ⟨rfl, x, y, sk', rfl, hy, rfl⟩ := xm_d2_spec hx
    exact xs_N0 fun p e R s m args below meth c H locs cells slots ls Q C K L r hcs kk => lv_irem C.1 C.2.1 hd hy kk
  | ladd =>
    obtain ⟨rfl, x, y, sk', rfl, rfl⟩ := xm_j2_spec hx
    exact xs_N0 fun p e R s m args below meth c H locs cells slots ls Q C K L r hcs kk => lv_ladd C.1 C.2.1 hd kk
  | lsub =>
    obtain ⟨rfl, x, y, sk', rfl, rfl⟩ := xm_j2_spec hx
    exact xs_N0 fun p e R s m args below meth c H locs cells slots ls Q C K L r hcs kk => lv_lsub C.1 C.2.1 hd kk
  | land =>
    obtain ⟨rfl, x, y, sk', rfl, rfl⟩ := xm_j2_spec hx
    exact xs_N0 fun p e R s m args below meth c H locs cells slots ls Q C K L r hcs kk => lv_land C.1 C.2.1 hd kk
  | lor =>
    obtain ⟨rfl, x, y, sk', rfl, rfl⟩ := xm_j2_spec hx
    exact xs_N0 fun p e R s m args below meth c H locs cells slots ls Q C K L r hcs kk => lv_lor C.1 C.2.1 hd kk
  | lxor =>
    obtain ⟨rfl, x, y, sk', rfl, rfl⟩ := xm_j2_spec hx
    exact xs_N0 fun p e R s m args below meth c H locs cells slots ls Q C K L r hcs kk => lv_lxor C.1 C.2.1 hd kk
  | lshl =>
    obtain ⟨rfl, x, y, sk', rfl, rfl⟩ := xm_jsh_spec hx
    exact xs_N0 fun p e R s m args below meth c H locs cells slots ls Q C K L r hcs kk => lv_lshl C.1 C.2.1 hd rfl kk
  | lshr =>
    obtain ⟨rfl, x, y, sk', rfl, rfl⟩ := xm_jsh_spec hx
    exact xs_N0 fun p e R s m args below meth c H locs cells slots ls Q C K L r hcs kk => lv_lshr C.1 C.2.1 hd rfl kk
  | lcmp =>
    have hx : (match sk with | .long y :: .long x :: sk => xm_ok n 1 (pc + 1, lo, .int (lg_cmp x y) :: sk, hp) | _ => none) = some (.inl z) := hx
    split at hx
    · obtain ⟨rfl, rfl⟩ := xm_ok_spec hx
      exact xs_N0 fun p e R s m args below meth c H locs cells slots ls Q C K L r hcs kk => W.lcmp C.1 C.2.1 hd kk
    · cases hx
  | i2l =>
    have hx : (match sk with | .int x :: sk => xm_ok n 1 (pc + 1, lo, .long x.toInt64 :: sk, hp) | _ => none) = some (.inl z) := hx
    split at hx
    · obtain ⟨rfl, rfl⟩ := xm_ok_spec hx
      exact xs_N0 fun p e R s m args below meth c H locs cells slots ls Q C K L r hcs kk => lv_i2l C.1 C.2.1 hd rfl kk
    · cases hx
  | l2i =>
    have hx : (match sk with | .long x :: sk => xm_ok n 1 (pc + 1, lo, .int x.toInt32 :: sk, hp) | _ => none) = some (.inl z) := hx
    split at hx
    · obtain ⟨rfl, rfl⟩ := xm_ok_spec hx
      exact xs_N0 fun p e R s m args below meth c H locs cells slots ls Q C K L r hcs kk => lv_l2i C.1 C.2.1 hd rfl kk
    · cases hx
  | dup =>
    have hx : xm_dup n pc lo sk hp = some (.inl z) := hx
    unfold xm_dup at hx
    split at hx
    · split at hx
      · rename_i hc
        obtain ⟨rfl, rfl⟩ := xm_ok_spec hx
        exact xs_N0 fun p e R s m args below meth c H locs cells slots ls Q C K L r hcs kk => lv_dup C.1 C.2.1 hd (decide_eq_true_eq.mp hc) kk
      · cases hx
    · cases hx
  | pop =>
    have hx : xm_pop n pc lo sk hp = some (.inl z) := hx
    unfold xm_pop at hx
    split at hx
    · split at hx
      · rename_i hc
        obtain ⟨rfl, rfl⟩ := xm_ok_spec hx
        exact xs_N0 fun p e R s m args below meth c H locs cells slots ls Q C K L r hcs kk => lv_pop C.1 C.2.1 hd (decide_eq_true_eq.mp hc) kk
      · cases hx
    · cases hx
  | dup_x1 =>
    have hx : xm_dx1 n pc lo sk hp = some (.inl z) := hx
    unfold xm_dx1 at hx
    split at hx
    · split at hx
      · rename_i hc
        obtain ⟨rfl, rfl⟩ := xm_ok_spec hx
        exact xs_N0 fun p e R s m args below meth c H locs cells slots ls Q C K L r hcs kk => lv_dup_x1 C.1 C.2.1 hd (decide_eq_true_eq.mp (Bool.and_eq_true _ _ ▸ hc).1) (decide_eq_true_eq.mp (Bool.and_eq_true _ _ ▸ hc).2) kk
      · cases hx
    · cases hx
  | dup2 =>
    have hx : xm_d22 n pc lo sk hp = some (.inl z) := hx
    unfold xm_d22 at hx
    split at hx
    · split at hx
      · rename_i hc
        obtain ⟨rfl, rfl⟩ := xm_ok_spec hx
        exact xs_N0 fun p e R s m args below meth c H locs cells slots ls Q C K L r hcs kk => lv_dup2_11 C.1 C.2.1 hd (decide_eq_true_eq.mp (Bool.and_eq_true _ _ ▸ hc).1) (decide_eq_true_eq.mp (Bool.and_eq_true _ _ ▸ hc).2) kk
      · cases hx
    · cases hx
  | dup_x2 =>
    have hx : xm_dx2 n pc lo sk hp = some (.inl z) := hx
    unfold xm_dx2 at hx
    split at hx
    · split at hx
      · rename_i hc
        simp only [Bool.and_eq_true] at hc
        obtain ⟨rfl, rfl⟩ := xm_ok_spec hx
        exact xs_N0 fun p e R s m args below meth c H locs cells slots ls Q C K L r hcs kk => lv_dup_x2 C.1 C.2.1 hd (decide_eq_true_eq.mp hc.1.1) (decide_eq_true_eq.mp hc.1.2) (decide_eq_true_eq.mp hc.2) kk
      · cases hx
    · cases hx
  | goto o =>
    obtain ⟨rfl, t, ht, ⟨-, rfl⟩ | ⟨hc, -⟩⟩ := xm_jmp_spec hx
    · exact xs_N0 fun p e R s m args below meth c H locs cells slots ls Q C K L r hcs kk => lv_goto C.1 C.2.1 hd ht kk
    · cases hc
  | if_icmp cc o =>
    have hx : xm_icmp n pc cc o lo sk hp = some (.inl z) := hx
    unfold xm_icmp at hx
    split at hx
    · obtain ⟨rfl, t, ht, hh⟩ := xm_jmp_spec hx
      cases cc with
      | eq =>
        rcases hh with ⟨hc, rfl⟩ | ⟨hc, rfl⟩
        · simp [xm_ci] at hc
          exact xs_N0 fun p e R s m args below meth c H locs cells slots ls Q C K L r hcs kk => lv_icmp_eq C.1 C.2.1 hd ht (fun _ => kk) (fun q => absurd q (by simp [hc]))
        · simp [xm_ci] at hc
          exact xs_N0 fun p e R s m args below meth c H locs cells slots ls Q C K L r hcs kk => lv_icmp_eq C.1 C.2.1 hd ht (fun q => absurd q (by simp [hc])) (fun _ => kk)
      | ne =>
        rcases hh with ⟨hc, rfl⟩ | ⟨hc, rfl⟩
        · simp [xm_ci] at hc
          exact xs_N0 fun p e R s m args below meth c H locs cells slots ls Q C K L r hcs kk => lv_icmp_ne C.1 C.2.1 hd ht (fun _ => kk) (fun q => absurd q (by simp [hc]))
        · simp [xm_ci] at hc
          exact xs_N0 fun p e R s m args below meth c H locs cells slots ls Q C K L r hcs kk => lv_icmp_ne C.1 C.2.1 hd ht (fun q => absurd q (by simp [hc])) (fun _ => kk)
      | lt =>
        rcases hh with ⟨hc, rfl⟩ | ⟨hc, rfl⟩
        · simp [xm_ci] at hc
          exact xs_N0 fun p e R s m args below meth c H locs cells slots ls Q C K L r hcs kk => lv_icmp_lt C.1 C.2.1 hd ht (fun _ => kk) (fun q => absurd q (by simp [hc]))
        · simp [xm_ci] at hc
          exact xs_N0 fun p e R s m args below meth c H locs cells slots ls Q C K L r hcs kk => lv_icmp_lt C.1 C.2.1 hd ht (fun q => absurd q (by simp [hc])) (fun _ => kk)
      | ge =>
        rcases hh with ⟨hc, rfl⟩ | ⟨hc, rfl⟩
        · simp [xm_ci] at hc
          exact xs_N0 fun p e R s m args below meth c H locs cells slots ls Q C K L r hcs kk => lv_icmp_ge C.1 C.2.1 hd ht (fun _ => kk) (fun q => absurd q (by simp [hc]))
        · simp [xm_ci] at hc
          exact xs_N0 fun p e R s m args below meth c H locs cells slots ls Q C K L r hcs kk => lv_icmp_ge C.1 C.2.1 hd ht (fun q => absurd q (by simp [hc])) (fun _ => kk)
      | gt =>
        rcases hh with ⟨hc, rfl⟩ | ⟨hc, rfl⟩
        · simp [xm_ci] at hc
          exact xs_N0 fun p e R s m args below meth c H locs cells slots ls Q C K L r hcs kk => lv_icmp_gt C.1 C.2.1 hd ht (fun _ => kk) (fun q => absurd q (by simp [hc]))
        · simp [xm_ci] at hc
          exact xs_N0 fun p e R s m args below meth c H locs cells slots ls Q C K L r hcs kk => lv_icmp_gt C.1 C.2.1 hd ht (fun q => absurd q (by simp [hc])) (fun _ => kk)
      | le =>
        rcases hh with ⟨hc, rfl⟩ | ⟨hc, rfl⟩
        · simp [xm_ci] at hc
          exact xs_N0 fun p e R s m args below meth c H locs cells slots ls Q C K L r hcs kk => lv_icmp_le C.1 C.2.1 hd ht (fun _ => kk) (fun q => absurd q (by simp [hc]))
        · simp [xm_ci] at hc
          exact xs_N0 fun p e R s m args below meth c H locs cells slots ls Q C K L r hcs kk => lv_icmp_le C.1 C.2.1 hd ht (fun q => absurd q (by simp [hc])) (fun _ => kk)
    · cases hx
  | ifCond cc o =>
    have hx : xm_if n pc cc o lo sk hp = some (.inl z) := hx
    unfold xm_if at hx
    split at hx
    · obtain ⟨rfl, t, ht, hh⟩ := xm_jmp_spec hx
      cases cc with
      | eq =>
        rcases hh with ⟨hc, rfl⟩ | ⟨hc, rfl⟩
        · simp [xm_ci] at hc
          exact xs_N0 fun p e R s m args below meth c H locs cells slots ls Q C K L r hcs kk => lv_if_eq C.1 C.2.1 hd ht (fun _ => kk) (fun q => absurd q (by simp [hc]))
        · simp [xm_ci] at hc
          exact xs_N0 fun p e R s m args below meth c H locs cells slots ls Q C K L r hcs kk => lv_if_eq C.1 C.2.1 hd ht (fun q => absurd q (by simp [hc])) (fun _ => kk)
      | ne =>
        rcases hh with ⟨hc, rfl⟩ | ⟨hc, rfl⟩
        · simp [xm_ci] at hc
          exact xs_N0 fun p e R s m args below meth c H locs cells slots ls Q C K L r hcs kk => lv_if_ne C.1 C.2.1 hd ht (fun _ => kk) (fun q => absurd q (by simp [hc]))
        · simp [xm_ci] at hc
          exact xs_N0 fun p e R s m args below meth c H locs cells slots ls Q C K L r hcs kk => lv_if_ne C.1 C.2.1 hd ht (fun q => absurd q (by simp [hc])) (fun _ => kk)
      | lt =>
        rcases hh with ⟨hc, rfl⟩ | ⟨hc, rfl⟩
        · simp [xm_ci] at hc
          exact xs_N0 fun p e R s m args below meth c H locs cells slots ls Q C K L r hcs kk => lv_if_lt C.1 C.2.1 hd ht (fun _ => kk) (fun q => absurd q (by simp [hc]))
        · simp [xm_ci] at hc
          exact xs_N0 fun p e R s m args below meth c H locs cells slots ls Q C K L r hcs kk => lv_if_lt C.1 C.2.1 hd ht (fun q => absurd q (by simp [hc])) (fun _ => kk)
      | ge =>
        rcases hh with ⟨hc, rfl⟩ | ⟨hc, rfl⟩
        · simp [xm_ci] at hc
          exact xs_N0 fun p e R s m args below meth c H locs cells slots ls Q C K L r hcs kk => lv_if_ge C.1 C.2.1 hd ht (fun _ => kk) (fun q => absurd q (by simp [hc]))
        · simp [xm_ci] at hc
          exact xs_N0 fun p e R s m args below meth c H locs cells slots ls Q C K L r hcs kk => lv_if_ge C.1 C.2.1 hd ht (fun q => absurd q (by simp [hc])) (fun _ => kk)
      | gt =>
        rcases hh with ⟨hc, rfl⟩ | ⟨hc, rfl⟩
        · simp [xm_ci] at hc
          exact xs_N0 fun p e R s m args below meth c H locs cells slots ls Q C K L r hcs kk => lv_if_gt C.1 C.2.1 hd ht (fun _ => kk) (fun q => absurd q (by simp [hc]))
        · simp [xm_ci] at hc
          exact xs_N0 fun p e R s m args below meth c H locs cells slots ls Q C K L r hcs kk => lv_if_gt C.1 C.2.1 hd ht (fun q => absurd q (by simp [hc])) (fun _ => kk)
      | le =>
        rcases hh with ⟨hc, rfl⟩ | ⟨hc, rfl⟩
        · simp [xm_ci] at hc
          exact xs_N0 fun p e R s m args below meth c H locs cells slots ls Q C K L r hcs kk => lv_if_le C.1 C.2.1 hd ht (fun _ => kk) (fun q => absurd q (by simp [hc]))
        · simp [xm_ci] at hc
          exact xs_N0 fun p e R s m args below meth c H locs cells slots ls Q C K L r hcs kk => lv_if_le C.1 C.2.1 hd ht (fun q => absurd q (by simp [hc])) (fun _ => kk)
    · cases hx
  | tableswitch dd lw hg os =>
    have hx : xm_tsw pc dd lw hg os lo sk hp = some (.inl z) := hx
    unfold xm_tsw at hx
    split at hx
    · rename_i x sk
      split at hx
      · rename_i t ht
        cases hx
        unfold xm_sw at ht
        split at ht
        · rename_i hout
          split at ht
          · rename_i h0
            cases ht
            exact xs_N0 fun p e R s m args below meth c H locs cells slots ls Q C K L r hcs kk => lv_tableOut C.1 C.2.1 hd hout (by unfold xm_tgt; omega) kk
          · cases ht
        · rename_i hin
          split at ht
          · rename_i oo ho
            split at ht
            · rename_i h0
              cases ht
              exact xs_N0 fun p e R s m args below meth c H locs cells slots ls Q C K L r hcs kk => lv_tableIn C.1 C.2.1 hd (fun q => hin (Or.inl q)) (fun q => hin (Or.inr q)) ho (by unfold xm_tgt; omega) kk
            · cases ht
          · cases ht
      · cases hx
    · cases hx
  | iaload =>
    exact xs_iald hd hx
  | baload =>
    exact xs_zald hd hx
  | laload =>
    exact xs_lald hd hx
  | iastore =>
    exact xs_iast hd hx
  | bastore =>
    exact xs_zast hd hx
  | lastore =>
    exact xs_last hd hx
  | arraylength =>
    exact xs_alen hd hx
  | newarray t =>
    exact xs_newa hd hx
  | getfield k =>
    exact xs_get hd hx
  | putfield k =>
    exact xs_put hd hx
  | new k =>
    exact xs_new hd hx
  | invokestatic k =>
    have hx : (if xp_ac M.2.2.2.2.1 k then xm_copy n pc M lo sk hp else if xp_mm M.2.2.2.2.1 k then xm_min n pc M lo sk hp else xm_calS n pc M k lo sk hp) = some (.inl z) := hx
    split at hx
    · rename_i h1
      exact xs_copy hd h1 hx
    · split at hx
      · rename_i h1
        exact xs_min hd h1 hx
      · exact absurd hx xm_calS_no
  | invokevirtual k =>
    exact absurd hx xm_calV_no
  | invokespecial k =>
    have hx : xm_calP n pc M k lo sk hp = some (.inl z) := hx
    unfold xm_calP at hx
    split at hx
    · rename_i h1
      split at hx
      · split at hx
        · rename_i hc
          exact xs_oi hd h1 hc hx
        · cases hx
      · cases hx
    · exact absurd hx xm_calP_no
  | ireturn =>
    exact absurd hx xm_end_no
  | lreturn =>
    exact absurd hx xm_end_no
  | areturn =>
    exact absurd hx xm_end_no
  | return_ =>
    exact absurd hx xm_end_no
  | _ => exact absurd hx (fun h => by cases h)
end XV
end
section
section XW
variable {l : Launch} {D : va_G} {aT : FieldType → ClassId} {B : Nat} {scr : Cell}
theorem xs_K.same {u U : State} (h : u.vm = U.vm) (k : xs_K D aT scr u) : xs_K D aT scr U := by
  have al : u.vm.Alike U.vm := by rw [h]; exact Vm.Alike.refl _
  refine ⟨va_K.moved al k.1, fun ty hty => ⟨arrOfT_moved al (k.2.1 ty hty).1, by rw [al.findClass]; exact (k.2.1 ty hty).2⟩, State.isArrayOf_alike al k.2.2.1, fun w hw => ?_⟩
  refine va_Nw.same ?_ h (k.2.2.2 w hw)
  have h2 := (List.mem_filter.mp hw).2
  cases w <;> first | (simp [xp_isN] at h2; done) | rfl
def xs_Pc (D : va_G) (aT : FieldType → ClassId) (B : Nat) (scr : Cell) (as : List Value) (hp : xm_H) : Array Value → State → Prop := fun av U => av = as.toArray ∧ xs_R D aT B scr hp U.heap ∧ xs_K D aT scr U
def xs_Qc (D : va_G) (aT : FieldType → ClassId) (B : Nat) (scr : Cell) (r : Option Value) (hp : xm_H) : Array Value → State → Outcome → State → Prop := fun _ _ o t => o = .returned r ∧ xs_R D aT B scr hp t.heap
theorem xs_blind {as : List Value} {hp : xm_H} : FrameBlind (xs_Pc D aT B scr as hp) := fun a U g mk h => ⟨h.1, h.2.1, xs_K.same (u := U) (U := U.calling g mk a) rfl h.2.2⟩
theorem xs_preS {s : State} {H : Heap} {as : List Value} {hp : xm_H} (K : xs_K D aT scr s) (r : xs_R D aT B scr hp H) : PreS s H (xs_Pc D aT B scr as hp) as := ⟨xs_blind, fun U hU hW => ⟨rfl, by rw [hU]; exact r, K.warm hW⟩⟩
theorem xs_preV {s : State} {H : Heap} {as fs : List Value} {b ci N : Nat} {C : String} {T : u_T} {hp : xm_H} (K : xs_K D aT scr s) (r : xs_R D aT B scr hp H) (hc : xp_cl[ci]? = some (C, T, N)) (hb : hp.1 b = some (.inr (.inl (ci, fs)))) : PreV s H C b (xs_Pc D aT B scr (.ref b :: as) hp) as :=
  ⟨xs_blind, va_recv K.1 (xs_P1 (r.2.2 _ _ hb).2) (q0 := 0) hc rfl, fun U hU hW => ⟨rfl, by rw [hU]; exact r, K.warm hW⟩⟩
theorem xs_good {y : MethodName} {cc : ByteArray} {k : Nat} {rt : Option FieldType} (h : Cond.code y cc k rt ∈ xp_tb) : GoodIn xp_tb (Cond.code y cc k rt :: xp_tb) := by
  intro w hw
  have hm : w ∈ xp_tb := by
    rcases List.mem_cons.mp hw with rfl | hw
    · exact h
    · exact hw
  exact ⟨hm, good_of_word (List.mem_filter.mp hm).2⟩
theorem xs_callW {p : Program} {e : Env} {R : Room} {s : State} {m : MethodId} {args : Array Value} {below : List Frame} {meth : Method} {c : Code} {H : Heap} {locs : List Loc} {cells slots mc ms pc : Nat} {ls : Array Slot} {Q : State → Prop} {sk rest : List Value} {r : Option Value} {hp : xm_H} {a : Array Value}
    (hr : va_Run p l e R s m args below meth c H locs cells slots mc ms (F0 m pc ls sk) rest (xs_Qc D aT B scr r hp a) (fun q => B ≤ q)) (hq : ∀ q ∈ locs, B ≤ q.base)
    (kk : ∀ (H' : Heap) (locs' : List Loc), xs_R D aT B scr hp H' → (∀ q ∈ locs', B ≤ q.base) → W p l e R s m args below meth c H' locs' (cells + mc) (slots + ms) Q (F0 m (pc + 3) ls (r.toList ++ rest))) : W p l e R s m args below meth c H locs cells slots Q (F0 m pc ls sk) := by
  intro T hT X
  obtain ⟨v, st₀, t, T', L, h0, X', hL, e1, e2, ⟨hv, hR⟩, st⟩ := hr T hT X
  cases hv
  obtain ⟨t2, a1, b1⟩ := kk T'.heap (locs ++ L) (by rw [e1]; exact hR) (fun q hq' => by
    rcases List.mem_append.mp hq' with h' | h'
    · exact hq q h'
    · exact hL q h') T' rfl X'
  exact ⟨t2, st t2 a1, b1⟩
/-- what a method's row of the table says -/
theorem xp_mi_spec {j : Nat} {M : xm_M} (hj : j < xp_mk.length) (hM : xp_mi j = some M) : plainName M.1.cls = true ∧ (M.1.cls ≠ "java/lang/invoke/MethodHandle" ∧ M.1.cls ≠ "java/lang/invoke/VarHandle") ∧ xp_on[M.2.2.2.2.1]? = some M.1.cls ∧ Cond.initialized M.1.cls ∈ xp_tb ∧ (M.2.2.2.2.2.2.2 = true → M.1.name = "<init>") ∧
    ((xp_mk[j]?).map (fun q => q.1) = some 0 → Cond.static M.1 ∈ xp_tb) ∧ ((xp_mk[j]?).map (fun q => q.1) = some 1 → Cond.instanceMethod M.1 ∈ xp_tb ∧ Cond.selects M.1.cls M.1 M.1 ∈ xp_tb ∧ ∃ T N, xp_cl[M.2.2.2.2.1]? = some (M.1.cls, T, N)) ∧ ((xp_mk[j]?).map (fun q => q.1) = some 2 → Cond.instanceMethod M.1 ∈ xp_tb ∧ M.1.name = "<init>" ∧ M.2.2.2.1 = none) := by
  have h := xk_mi_all j hj
  unfold xk_mi at h
  rw [hM] at h
  split at h
  · rename_i M' kd p1 p2 p3 h1 h2
    cases h1
    simp only [Bool.and_eq_true, decide_eq_true_eq] at h
    obtain ⟨a1, a2, a3, a4, a5, a6⟩ := h
    refine ⟨a1, ⟨a2, a3⟩, a4, xk_w_mem a5, ?_, ?_, ?_, ?_⟩
    · intro hi
      split at a6
      · simp [hi] at a6
      · split at a6
        · simp [hi] at a6
        · simp only [Bool.and_eq_true, decide_eq_true_eq] at a6
          exact a6.2.1
    · intro hk
      rw [h2] at hk
      cases hk
      simp only [if_true, Bool.and_eq_true] at a6
      exact xk_w_mem a6.1
    · intro hk
      rw [h2] at hk
      cases hk
      simp only [Nat.one_ne_zero, if_false, if_true, Bool.and_eq_true, decide_eq_true_eq] at a6
      refine ⟨xk_w_mem a6.1, xk_w_mem a6.2.1, ?_⟩
      have h4 := a6.2.2.2
      cases hc : xp_cl[M.2.2.2.2.1]? with
      | none => rw [hc] at h4; cases h4
      | some q =>
        rw [hc] at h4
        obtain ⟨C, T, N⟩ := q
        have : C = M.1.cls := Option.some.inj h4
        subst this
        exact ⟨T, N, rfl⟩
    · intro hk
      rw [h2] at hk
      cases hk
      simp only [show ¬ (2 : Nat) = 0 by decide, show ¬ (2 : Nat) = 1 by decide, if_false, Bool.and_eq_true, decide_eq_true_eq] at a6
      exact ⟨xk_w_mem a6.1, a6.2.1, a6.2.2⟩
  · cases h
theorem xk_m_spec {kd oc idx j k p : Nat} {own : String} (ho : xp_on[oc]? = some own) (h : xk_m kd oc idx (j, k) p = true) : j < xp_mk.length ∧ (xp_mk[j]?).map (fun q => q.1) = some kd ∧ ∃ N, xp_mi j = some N ∧ (parseMethodDescriptor N.1.desc).map (fun d => d.parameters.length) = some k ∧ (Cond.methodLink own idx N.1 ∈ xp_tb ∨ ∃ host, Cond.methodLinkNest own idx N.1 host ∈ xp_ne) := by
  unfold xk_m at h
  simp only [Bool.and_eq_true, decide_eq_true_eq] at h
  obtain ⟨h1, h2, h3, h4⟩ := h
  refine ⟨h2, h3, ?_⟩
  unfold xk_lk at h1
  rw [ho] at h1
  split at h1
  · rename_i own' N e1 e2
    cases e1
    rw [e2] at h4
    refine ⟨N, e2, h4, ?_⟩
    split at h1
    · rename_i a i y hp
      simp only [Bool.and_eq_true, decide_eq_true_eq] at h1
      obtain ⟨rfl, rfl, rfl⟩ := h1
      exact Or.inl (List.mem_filter.mpr ⟨List.mem_of_getElem? hp, rfl⟩)
    · rename_i a i y host hp
      simp only [Bool.and_eq_true, decide_eq_true_eq] at h1
      obtain ⟨rfl, rfl, rfl⟩ := h1
      exact Or.inr ⟨host, List.mem_filter.mpr ⟨List.mem_of_getElem? hp, rfl⟩⟩
    · cases h1
  · cases h1
/-- a callee's contract at one call: these arguments, this heap, this answer -/
def xs_Met (l : Launch) (D : va_G) (aT : FieldType → ClassId) (B : Nat) (scr : Cell) (N : xm_M) (as : List Value) (hp : xm_H) (r : Option Value) (hp' : xm_H) : Prop :=
  Met l N.1 (Cond.code N.1 N.2.1 N.2.2.1 N.2.2.2.1 :: xp_tb) { frames := N.2.2.2.2.2.1, cells := hp'.2.1 - hp.2.1, slots := hp'.2.2 - hp.2.2, locals := N.2.2.2.2.2.2.1 } (xs_Pc D aT B scr as hp) (xs_Qc D aT B scr r hp') (hp'.2.1 - hp.2.1) (hp'.2.2 - hp.2.2) (fun q => B ≤ q)
theorem xm_fit_spec {M N : xm_M} {R : Room} (h : xm_fit M N = true) (h1 : M.2.2.2.2.2.1 ≤ R.frames) (h2 : M.2.2.2.2.2.2.1 ≤ R.locals) : N.2.2.2.2.2.1 + 1 ≤ R.frames ∧ 8 + (N.2.2.1 + 11) + N.2.2.2.2.2.2.1 ≤ R.locals := by
  unfold xm_fit at h
  simp only [Bool.and_eq_true, decide_eq_true_eq] at h
  exact ⟨Nat.le_trans h.1 h1, Nat.le_trans h.2 h2⟩
variable {p : Program} {e : Env} {R : Room} {s : State} {m : MethodId} {args : Array Value} {below : List Frame} {meth : Method} {c : Code} {H : Heap} {locs : List Loc} {cells slots pc : Nat} {ls : Array Slot}
theorem xs_runS {M N : xm_M} {idx j k : Nat} {sk as rest : List Value} {hp hp' : xm_H} {r : Option Value} (C : xs_C M p s m args meth c R) (K : xs_K D aT scr s) (L : ls.size = M.2.2.1) (rr : xs_R D aT B scr hp H) (hT : xp_ms M.2.2.2.2.1 idx = some (j, k)) (hN : xp_mi j = some N) (hfit : xm_fit M N = true)
    (hlen : as.length = k) (hsk : sk = as.reverse ++ rest) (hlow : xm_low rest = true) (hd : decode M.2.1 pc = .ok (.invokestatic idx, 3)) (hM : xs_Met l D aT B scr N as hp r hp') (hf : cells + (hp'.2.1 - hp.2.1) ≤ R.cells ∧ slots + (hp'.2.2 - hp.2.2) ≤ R.slots) :
    va_Run p l e R s m args below meth c H locs cells slots (hp'.2.1 - hp.2.1) (hp'.2.2 - hp.2.2) (F0 m pc ls sk) rest (xs_Qc D aT B scr r hp' as.toArray) (fun q => B ≤ q) := by
  obtain ⟨c1, c2, c3, c4, c5, c6, c7, c8, c9⟩ := C
  obtain ⟨pp, hpp⟩ := xk_all_of xk_ms_all hT
  obtain ⟨hj, hkd, N', hN', hpar, hlk⟩ := xk_m_spec c4 hpp
  cases hN.symm.trans hN'
  obtain ⟨b1, b2, b3, b4, b5, b6, b7, b8⟩ := xp_mi_spec hj hN
  have hcode := xk_code_all j hj N hN
  rcases hlk with hlk | ⟨host, hlk⟩
  · exact va_runS (cc := M.2.1) ⟨c1, c2, c3, c5, c6⟩ hM ⟨callB_of k c6 (xs_good hcode) rfl rfl rfl (c6 _ b4) (c6 _ hlk) ⟨b2.1, b2.2, hpar⟩ (xm_fit_spec hfit c8 c9), c6 _ (b6 hkd)⟩ (xs_preS K rr) rfl hlen L hsk (lv_room (xm_low_spec hlow)) hd hf
  · exact va_runSN (cc := M.2.1) ⟨c1, c2, c3, c5, c6⟩ hM ⟨va_cnB k c6 (xs_good hcode) rfl rfl rfl (K.2.2.2 _ hlk) (c6 _ b4) ⟨b2.1, b2.2, hpar⟩ (xm_fit_spec hfit c8 c9), c6 _ (b6 hkd), trivial⟩ (xs_preS K rr) rfl hlen L hsk (lv_room (xm_low_spec hlow)) hd hf
theorem xs_runV {M N : xm_M} {idx j k b ci : Nat} {sk as rest fs : List Value} {hp hp' : xm_H} {r : Option Value} (C : xs_C M p s m args meth c R) (K : xs_K D aT scr s) (L : ls.size = M.2.2.1) (rr : xs_R D aT B scr hp H) (hT : xp_mv M.2.2.2.2.1 idx = some (j, k)) (hN : xp_mi j = some N) (hfit : xm_fit M N = true) (hb : hp.1 b = some (.inr (.inl (ci, fs)))) (hci : ci = N.2.2.2.2.1)
    (hlen : as.length = k) (hsk : sk = as.reverse ++ .ref b :: rest) (hlow : xm_low rest = true) (hd : decode M.2.1 pc = .ok (.invokevirtual idx, 3)) (hM : xs_Met l D aT B scr N (.ref b :: as) hp r hp') (hf : cells + (hp'.2.1 - hp.2.1) ≤ R.cells ∧ slots + (hp'.2.2 - hp.2.2) ≤ R.slots) :
    va_Run p l e R s m args below meth c H locs cells slots (hp'.2.1 - hp.2.1) (hp'.2.2 - hp.2.2) (F0 m pc ls sk) rest (xs_Qc D aT B scr r hp' (Value.ref b :: as).toArray) (fun q => B ≤ q) := by
  obtain ⟨c1, c2, c3, c4, c5, c6, c7, c8, c9⟩ := C
  obtain ⟨pp, hpp⟩ := xk_all_of xk_mv_all hT
  obtain ⟨hj, hkd, N', hN', hpar, hlk⟩ := xk_m_spec c4 hpp
  cases hN.symm.trans hN'
  obtain ⟨b1, b2, b3, b4, b5, b6, b7, b8⟩ := xp_mi_spec hj hN
  obtain ⟨w1, w2, T, n, hcl⟩ := b7 hkd
  have hcode := xk_code_all j hj N hN
  subst hci
  rcases hlk with hlk | ⟨host, hlk⟩
  · exact va_runV (cc := M.2.1) ⟨c1, c2, c3, c5, c6⟩ hM ⟨callB_of k c6 (xs_good hcode) rfl rfl rfl (c6 _ b4) (c6 _ hlk) ⟨b2.1, b2.2, hpar⟩ (xm_fit_spec hfit c8 c9), c6 _ w1, c6 _ w2⟩ (xs_preV K rr hcl hb) rfl hlen L hsk (lv_room (xm_low_spec hlow)) hd hf
  · exact va_runVN (cc := M.2.1) ⟨c1, c2, c3, c5, c6⟩ hM ⟨va_cnB k c6 (xs_good hcode) rfl rfl rfl (K.2.2.2 _ hlk) (c6 _ b4) ⟨b2.1, b2.2, hpar⟩ (xm_fit_spec hfit c8 c9), c6 _ w1, c6 _ w2⟩ (xs_preV K rr hcl hb) rfl hlen L hsk (lv_room (xm_low_spec hlow)) hd hf
theorem xs_runP {M N : xm_M} {idx j k b : Nat} {sk as rest : List Value} {hp hp' : xm_H} {r : Option Value} (C : xs_C M p s m args meth c R) (K : xs_K D aT scr s) (L : ls.size = M.2.2.1) (rr : xs_R D aT B scr hp H) (hT : xp_mp M.2.2.2.2.1 idx = some (j, k)) (hN : xp_mi j = some N) (hfit : xm_fit M N = true)
    (hlen : as.length = k) (hsk : sk = as.reverse ++ .ref b :: rest) (hlow : xm_low rest = true) (hd : decode M.2.1 pc = .ok (.invokespecial idx, 3)) (hM : xs_Met l D aT B scr N (.ref b :: as) hp r hp') (hf : cells + (hp'.2.1 - hp.2.1) ≤ R.cells ∧ slots + (hp'.2.2 - hp.2.2) ≤ R.slots) :
    va_Run p l e R s m args below meth c H locs cells slots (hp'.2.1 - hp.2.1) (hp'.2.2 - hp.2.2) (F0 m pc ls sk) rest (xs_Qc D aT B scr r hp' (Value.ref b :: as).toArray) (fun q => B ≤ q) := by
  obtain ⟨c1, c2, c3, c4, c5, c6, c7, c8, c9⟩ := C
  obtain ⟨pp, hpp⟩ := xk_all_of xk_mp_all hT
  obtain ⟨hj, hkd, N', hN', hpar, hlk⟩ := xk_m_spec c4 hpp
  cases hN.symm.trans hN'
  obtain ⟨b1, b2, b3, b4, b5, b6, b7, b8⟩ := xp_mi_spec hj hN
  obtain ⟨w1, w2, w3⟩ := b8 hkd
  have hcode := xk_code_all j hj N hN
  unfold xs_Met at hM
  rw [w3] at hM hcode
  rcases hlk with hlk | ⟨host, hlk⟩
  · exact va_runI (cc := M.2.1) ⟨c1, c2, c3, c5, c6⟩ hM ⟨callB_of k c6 (xs_good hcode) rfl rfl rfl (c6 _ b4) (c6 _ hlk) ⟨b2.1, b2.2, hpar⟩ (xm_fit_spec hfit c8 c9), w2, c6 _ w1⟩ (xs_preS K rr) rfl hlen L hsk (lv_room (xm_low_spec hlow)) hd hf
  · exact va_runIN (cc := M.2.1) ⟨c1, c2, c3, c5, c6⟩ hM ⟨va_cnB k c6 (xs_good hcode) rfl rfl rfl (K.2.2.2 _ hlk) (c6 _ b4) ⟨b2.1, b2.2, hpar⟩ (xm_fit_spec hfit c8 c9), w2, c6 _ w1⟩ (xs_preS K rr) rfl hlen L hsk (lv_room (xm_low_spec hlow)) hd hf
end XW
end
section
section XX
variable {l : Launch} {D : va_G} {aT : FieldType → ClassId} {B : Nat} {scr : Cell}
def xs_Snd (l : Launch) (D : va_G) (aT : FieldType → ClassId) (B : Nat) (scr : Cell) (n : Nat) : Prop := ∀ (j : Nat) (M : xm_M) (pc : Nat) (lo : xm_L) (sk : List Value) (hp : xm_H) (r : Option Value) (hp' : xm_H), xp_mi j = some M → xm_run n j (pc, lo, sk, hp) = some (r, hp') →
  hp.2.1 ≤ hp'.2.1 ∧ hp.2.2 ≤ hp'.2.2 ∧ ∀ (p : Program) (e : Env) (R : Room) (s : State) (m : MethodId) (args : Array Value) (below : List Frame) (meth : Method) (c : Code) (H : Heap) (locs : List Loc) (cells slots : Nat) (ls : Array Slot) (Q : State → Prop) (cells' slots' : Nat),
    xs_C M p s m args meth c R → xs_K D aT scr s → xs_L ls M.2.2.1 lo → xs_R D aT B scr hp H → (∀ q ∈ locs, B ≤ q.base) → cells' + hp.2.1 = cells + hp'.2.1 → slots' + hp.2.2 = slots + hp'.2.2 → cells' ≤ R.cells → slots' ≤ R.slots →
    (∀ (pc' : Nat) (i : Instr) (sk' : List Value) (ls' : Array Slot) (H' : Heap) (locs' : List Loc), decode M.2.1 pc' = .ok (i, 1) → xm_ret M.2.2.2.1 i sk' = some r → xs_R D aT B scr hp' H' → (∀ q ∈ locs', B ≤ q.base) → W p l e R s m args below meth c H' locs' cells' slots' Q (F0 m pc' ls' sk')) →
    W p l e R s m args below meth c H locs cells slots Q (F0 m pc ls sk)
theorem xs_met_of {n j : Nat} {N : xm_M} {as : List Value} {hp hp' : xm_H} {r : Option Value} (S : xs_Snd l D aT B scr n) (hj : j < xp_mk.length) (hN : xp_mi j = some N) (hlay : (xm_lay as).length ≤ N.2.2.1) (hrun : xm_run n j (0, xm_ent N.2.2.1 as, [], hp) = some (r, hp')) : xs_Met l D aT B scr N as hp r hp' := by
  obtain ⟨b1, b2, b3, b4, b5, b6, b7, b8⟩ := xp_mi_spec hj hN
  obtain ⟨m1, m2, hS⟩ := S j N 0 (xm_ent N.2.2.1 as) [] hp r hp' hN hrun
  unfold xs_Met
  refine Met.ofW (cc := N.2.1) (maxL := N.2.2.1) (ret := N.2.2.2.1) b1 rfl ?_
  intro p e s m args below meth c s₁ Bd hml hv
  obtain ⟨rfl, hR, hK⟩ := hv
  have hts := atoms_spec (ws := Cond.code N.1 N.2.1 N.2.2.1 N.2.2.2.1 :: xp_tb) Bd.pre
  have hown : s.vm.findClass N.1.cls = some m.cls := findClass_of_methodNamed Bd.named
  have hlocks := Bd.notSynchronized
  have hrt : meth.sig.returnType = N.2.2.2.1 := Bd.returns
  rw [lg_entry_eq]
  have C : xs_C N p s m as.toArray meth c (headSpec (Cond.code N.1 N.2.1 N.2.2.1 N.2.2.2.1 :: xp_tb) { frames := N.2.2.2.2.2.1, cells := hp'.2.1 - hp.2.1, slots := hp'.2.2 - hp.2.2, locals := N.2.2.2.2.2.2.1 }).room :=
    ⟨Bd.exec, Bd.bytes, hml, b3, hown, fun w hw => hts w (List.mem_cons_of_mem _ hw), fun hi => (name_of_methodNamed Bd.named Bd.method).1.trans (b5 hi), Nat.le_refl _, Nat.le_refl _⟩
  refine hS p e _ s m as.toArray below meth c s.heap [] 0 0 _ _ (hp'.2.1 - hp.2.1) (hp'.2.2 - hp.2.2) C hK (xs_entry as hlay) hR (fun q h => by cases h) (by omega) (by omega) (Nat.le_refl _) (Nat.le_refl _) ?_
  intro pc' i sk' ls' H' locs' hd hret hR' hq'
  have hq : ∀ t : State, t.heap = H' → s.WarmedH t.vm → xs_Qc D aT B scr r hp' as.toArray s (.returned r) t := fun t ht _ => ⟨rfl, by rw [ht]; exact hR'⟩
  unfold xm_ret at hret
  split at hret
  · split at hret
    · rename_i v hr0
      cases hret
      exact W.iret Bd.exec Bd.bytes (hrt.trans hr0) hq hq' hd hlocks
    · rename_i v hr0
      split at hret
      · rename_i hnr
        cases hret
        exact W.zret Bd.exec Bd.bytes (hrt.trans hr0) hnr hq hq' hd hlocks
      · cases hret
    · cases hret
  · split at hret
    · rename_i v hr0
      cases hret
      exact W.lret Bd.exec Bd.bytes (hrt.trans hr0) hq hq' hd hlocks
    · cases hret
  · split at hret
    · rename_i v n' hr0
      cases hret
      exact W.aret Bd.exec Bd.bytes (hrt.trans hr0) (Or.inl ⟨_, rfl⟩) (Or.inr ⟨_, rfl⟩) hq hq' hd hlocks
    · rename_i v n' hr0
      cases hret
      exact W.aret Bd.exec Bd.bytes (hrt.trans hr0) (Or.inr ⟨_, rfl⟩) (Or.inr ⟨_, rfl⟩) hq hq' hd hlocks
    · rename_i n' hr0
      cases hret
      exact W.aret Bd.exec Bd.bytes (hrt.trans hr0) (Or.inl ⟨_, rfl⟩) (Or.inl rfl) hq hq' hd hlocks
    · rename_i n' hr0
      cases hret
      exact W.aret Bd.exec Bd.bytes (hrt.trans hr0) (Or.inr ⟨_, rfl⟩) (Or.inl rfl) hq hq' hd hlocks
    · cases hret
  · split at hret
    · rename_i hr0
      cases hret
      exact W.vret Bd.exec Bd.bytes (hrt.trans hr0) hq hq' hd hlocks
    · cases hret
  · cases hret
/-- a step is one of three -/
theorem xm_ok_inl {n k : Nat} {x : xm_S} {T : xm_T} (h : xm_ok n k x = some T) : ∃ z, T = .inl z := by
  unfold xm_ok at h
  split at h
  · cases h; exact ⟨_, rfl⟩
  · cases h
theorem xm_jmp_inl {n pc : Nat} {o : Int} {c : Bool} {lo : xm_L} {sk : List Value} {hp : xm_H} {T : xm_T} (h : xm_jmp n pc o c lo sk hp = some T) : ∃ z, T = .inl z := by
  unfold xm_jmp at h
  split at h
  · split at h <;> (cases h; exact ⟨_, rfl⟩)
  · cases h
def xs_isC (M : xm_M) (pc : Nat) (lo : xm_L) (sk : List Value) (hp : xm_H) (n : Nat) (i : Instr) (T : xm_T) : Prop := ∃ (idx j k : Nat) (N : xm_M) (as rest : List Value), n = 3 ∧ xp_mi j = some N ∧ k ≤ sk.length ∧ as = (sk.take k).reverse ∧ xm_low rest = true ∧ xm_fit M N = true ∧
  ((i = .invokestatic idx ∧ xp_ms M.2.2.2.2.1 idx = some (j, k) ∧ sk.drop k = rest ∧ T = .inr (.inr ((j, as), (pc + 3, lo, rest, hp)))) ∨
   (i = .invokevirtual idx ∧ xp_mv M.2.2.2.2.1 idx = some (j, k) ∧ ∃ (b ci : Nat) (fs : List Value), sk.drop k = .ref b :: rest ∧ hp.1 b = some (.inr (.inl (ci, fs))) ∧ ci = N.2.2.2.2.1 ∧ T = .inr (.inr ((j, .ref b :: as), (pc + 3, lo, rest, hp)))) ∨
   (i = .invokespecial idx ∧ xp_mp M.2.2.2.2.1 idx = some (j, k) ∧ ∃ (b : Nat), sk.drop k = .ref b :: rest ∧ T = .inr (.inr ((j, .ref b :: as), (pc + 3, lo, rest, hp)))))
def xs_isR (M : xm_M) (sk : List Value) (hp : xm_H) (n : Nat) (i : Instr) (T : xm_T) : Prop := ∃ r, n = 1 ∧ xm_ret M.2.2.2.1 i sk = some r ∧ T = .inr (.inl (r, hp))
theorem xs_calS_is {M : xm_M} {pc n idx : Nat} {lo : xm_L} {sk : List Value} {hp : xm_H} {T : xm_T} (h : xm_calS n pc M idx lo sk hp = some T) : xs_isC M pc lo sk hp n (.invokestatic idx) T := by
  unfold xm_calS at h
  split at h
  · rename_i j k hT
    split at h
    · rename_i N hN
      split at h
      · rename_i hc
        cases h
        exact ⟨idx, j, k, N, _, _, hc.1, hN, hc.2.1, rfl, hc.2.2.1, hc.2.2.2, Or.inl ⟨rfl, hT, rfl, rfl⟩⟩
      · cases h
    · cases h
  · cases h
theorem xs_calV_is {M : xm_M} {pc n idx : Nat} {lo : xm_L} {sk : List Value} {hp : xm_H} {T : xm_T} (h : xm_calV n pc M idx lo sk hp = some T) : xs_isC M pc lo sk hp n (.invokevirtual idx) T := by
  unfold xm_calV at h
  split at h
  · rename_i j k hT
    split at h
    · rename_i N b rest hN hsk
      split at h
      · rename_i ci fs ho
        split at h
        · rename_i hc
          cases h
          have he : hp.1 b = some (.inr (.inl (ci, fs))) := by
            unfold xm_obj at ho
            split at ho
            · rename_i x hx'; cases ho; exact hx'
            · cases ho
          exact ⟨idx, j, k, N, _, rest, hc.1, hN, hc.2.1, rfl, hc.2.2.1, hc.2.2.2.1, Or.inr (Or.inl ⟨rfl, hT, b, ci, fs, hsk, he, hc.2.2.2.2, rfl⟩)⟩
        · cases h
      · cases h
    · cases h
  · cases h
theorem xs_end_is {M : xm_M} {n : Nat} {i : Instr} {sk : List Value} {hp : xm_H} {T : xm_T} (h : xm_end n M.2.2.2.1 i sk hp = some T) : xs_isR M sk hp n i T := by
  unfold xm_end at h
  split at h
  · rename_i r hr
    split at h
    · rename_i hn
      cases h
      exact ⟨r, hn, hr, rfl⟩
    · cases h
  · cases h
theorem xs_kind {M : xm_M} {pc n : Nat} {i : Instr} {lo : xm_L} {sk : List Value} {hp : xm_H} {T : xm_T} (h : xm_ex M pc lo sk hp n i = some T) : (∃ z, T = .inl z) ∨ xs_isR M sk hp n i T ∨ xs_isC M pc lo sk hp n i T := by
  cases i with
  | invokestatic k =>
    have h : (if xp_ac M.2.2.2.2.1 k then xm_copy n pc M lo sk hp else if xp_mm M.2.2.2.2.1 k then xm_min n pc M lo sk hp else xm_calS n pc M k lo sk hp) = some T := h
    split at h
    · refine Or.inl ?_
      unfold xm_copy at h
      (repeat' split at h) <;> first | (cases h; done) | exact xm_ok_inl h
    · split at h
      · refine Or.inl ?_
        unfold xm_min at h
        (repeat' split at h) <;> first | (cases h; done) | exact xm_ok_inl h
      · exact Or.inr (Or.inr (xs_calS_is h))
  | invokevirtual k => exact Or.inr (Or.inr (xs_calV_is h))
  | invokespecial k =>
    have h : xm_calP n pc M k lo sk hp = some T := h
    unfold xm_calP at h
    split at h
    · refine Or.inl ?_
      (repeat' split at h) <;> first | (cases h; done) | exact xm_ok_inl h
    · split at h
      · rename_i j kk hT
        split at h
        · rename_i N b rest hN hsk
          split at h
          · rename_i hc
            cases h
            exact Or.inr (Or.inr ⟨k, j, kk, N, _, rest, hc.1, hN, hc.2.1, rfl, hc.2.2.1, hc.2.2.2, Or.inr (Or.inr ⟨rfl, hT, b, hsk, rfl⟩)⟩)
          · cases h
        · cases h
      · cases h
  | ireturn => exact Or.inr (Or.inl (xs_end_is h))
  | lreturn => exact Or.inr (Or.inl (xs_end_is h))
  | areturn => exact Or.inr (Or.inl (xs_end_is h))
  | return_ => exact Or.inr (Or.inl (xs_end_is h))
  | _ =>
    refine Or.inl ?_
    first
      | (cases h; done)
      | exact xm_ok_inl h
      | exact xm_jmp_inl h
      | (simp only [xm_ex, xm_ld, xm_sto, xm_stJ, xm_i2, xm_i1, xm_d2, xm_j2, xm_jsh, xm_iald, xm_zald, xm_lald, xm_iast, xm_zast, xm_last, xm_alen, xm_newa, xm_get, xm_put, xm_new, xm_icmp, xm_if, xm_tsw, xm_inc, xm_dup, xm_dx1, xm_dx2, xm_d22, xm_pop] at h
         (repeat' split at h) <;> first | (cases h; done) | exact xm_ok_inl h | exact xm_jmp_inl h | (cases h; exact ⟨_, rfl⟩))
end XX
end
section
section XY
variable {l : Launch} {D : va_G} {aT : FieldType → ClassId} {B : Nat} {scr : Cell}
theorem xm_step_ex {j : Nat} {M : xm_M} {pc : Nat} {lo : xm_L} {sk : List Value} {hp : xm_H} {T : xm_T} (hM : xp_mi j = some M) (h : xm_step j (pc, lo, sk, hp) = some T) : ∃ i k, decode M.2.1 pc = .ok (i, k) ∧ xm_ex M pc lo sk hp k i = some T := by
  simp only [xm_step, hM] at h
  split at h
  · rename_i i k hd
    exact ⟨i, k, hd, h⟩
  · cases h
/-- THE SMALL MACHINE IS SOUND -/
theorem xs_sound (n : Nat) : xs_Snd l D aT B scr n := by
  induction n with
  | zero =>
    intro j M pc lo sk hp r hp' hM hrun
    simp [xm_run] at hrun
  | succ n IH =>
    intro j M pc lo sk hp r hp' hM hrun
    rw [xm_run] at hrun
    cases hs : xm_step j (pc, lo, sk, hp) with
    | none => rw [hs] at hrun; cases hrun
    | some T =>
      rw [hs] at hrun
      obtain ⟨i, k, hd, hx⟩ := xm_step_ex hM hs
      rcases xs_kind hx with ⟨z, rfl⟩ | ⟨r0, rfl, hret, rfl⟩ | hcall
      · obtain ⟨pc1, lo1, sk1, hp1⟩ := z
        have hrun : xm_run n j (pc1, lo1, sk1, hp1) = some (r, hp') := hrun
        obtain ⟨a1, a2, a3⟩ := xs_next (l := l) (D := D) (aT := aT) (B := B) (scr := scr) hd hx
        dsimp only at a1 a2 a3
        obtain ⟨b1, b2, b3⟩ := IH j M pc1 lo1 sk1 hp1 r hp' hM hrun
        refine ⟨Nat.le_trans a1 b1, Nat.le_trans a2 b2, ?_⟩
        intro p e R s m args below meth c H locs cells slots ls Q cells' slots' C K L rr hq hc hs' h1 h2 HR
        refine a3 p e R s m args below meth c H locs cells slots ls Q (cells + (hp1.2.1 - hp.2.1)) (slots + (hp1.2.2 - hp.2.2)) C K L rr hq (by omega) (by omega) (by omega) (by omega) ?_
        intro H1 locs1 ls1 L1 rr1 hq1
        exact b3 p e R s m args below meth c H1 locs1 _ _ ls1 Q cells' slots' C K L1 rr1 hq1 (by omega) (by omega) h1 h2 HR
      · have hrun : some (r0, hp) = some (r, hp') := hrun
        cases hrun
        refine ⟨Nat.le_refl _, Nat.le_refl _, ?_⟩
        intro p e R s m args below meth c H locs cells slots ls Q cells' slots' C K L rr hq hc hs' h1 h2 HR
        obtain rfl := Nat.add_right_cancel hc
        obtain rfl := Nat.add_right_cancel hs'
        exact HR pc i sk ls H locs hd hret rr hq
      · obtain ⟨idx, j', k', N, as, rest, rfl, hN, hk, has, hlow, hfit, hh⟩ := hcall
        have key : ∀ (as' : List Value) (hrun : (match xm_start j' as' hp with
              | some z => match xm_run n j' z with
                | some q => xm_run n j (pc + 3, lo, q.1.toList ++ rest, q.2)
                | none => none
              | none => none) = some (r, hp')) (hj : j' < xp_mk.length)
            (run : ∀ (r1 : Option Value) (hp1 : xm_H) (p : Program) (e : Env) (R : Room) (s : State) (m : MethodId) (args : Array Value) (below : List Frame) (meth : Method) (c : Code) (H : Heap) (locs : List Loc) (cells slots : Nat) (ls : Array Slot), xs_C M p s m args meth c R → xs_K D aT scr s → xs_L ls M.2.2.1 lo → xs_R D aT B scr hp H → xs_Met l D aT B scr N as' hp r1 hp1 → cells + (hp1.2.1 - hp.2.1) ≤ R.cells ∧ slots + (hp1.2.2 - hp.2.2) ≤ R.slots →
              va_Run p l e R s m args below meth c H locs cells slots (hp1.2.1 - hp.2.1) (hp1.2.2 - hp.2.2) (F0 m pc ls sk) rest (xs_Qc D aT B scr r1 hp1 as'.toArray) (fun q => B ≤ q)),
            hp.2.1 ≤ hp'.2.1 ∧ hp.2.2 ≤ hp'.2.2 ∧ ∀ (p : Program) (e : Env) (R : Room) (s : State) (m : MethodId) (args : Array Value) (below : List Frame) (meth : Method) (c : Code) (H : Heap) (locs : List Loc) (cells slots : Nat) (ls : Array Slot) (Q : State → Prop) (cells' slots' : Nat),
              xs_C M p s m args meth c R → xs_K D aT scr s → xs_L ls M.2.2.1 lo → xs_R D aT B scr hp H → (∀ q ∈ locs, B ≤ q.base) → cells' + hp.2.1 = cells + hp'.2.1 → slots' + hp.2.2 = slots + hp'.2.2 → cells' ≤ R.cells → slots' ≤ R.slots →
              (∀ (pc' : Nat) (i : Instr) (sk' : List Value) (ls' : Array Slot) (H' : Heap) (locs' : List Loc), decode M.2.1 pc' = .ok (i, 1) → xm_ret M.2.2.2.1 i sk' = some r → xs_R D aT B scr hp' H' → (∀ q ∈ locs', B ≤ q.base) → W p l e R s m args below meth c H' locs' cells' slots' Q (F0 m pc' ls' sk')) →
              W p l e R s m args below meth c H locs cells slots Q (F0 m pc ls sk) := by
          intro as' hrun hj run
          split at hrun
          · rename_i z hz
            split at hrun
            · rename_i q hq0
              obtain ⟨r1, hp1⟩ := q
              have hz' : (xm_lay as').length ≤ N.2.2.1 ∧ z = (0, xm_ent N.2.2.1 as', [], hp) := by
                simp only [xm_start, hN] at hz
                split at hz
                · rename_i hl
                  cases hz; exact ⟨hl, rfl⟩
                · cases hz
              obtain ⟨hl, rfl⟩ := hz'
              have hMet := xs_met_of IH hj hN hl hq0
              obtain ⟨a1, a2, -⟩ := IH j' N 0 _ [] hp r1 hp1 hN hq0
              obtain ⟨b1, b2, b3⟩ := IH j M (pc + 3) lo (r1.toList ++ rest) hp1 r hp' hM hrun
              refine ⟨Nat.le_trans a1 b1, Nat.le_trans a2 b2, ?_⟩
              intro p e R s m args below meth c H locs cells slots ls Q cells' slots' C K L rr hq hc hs' h1 h2 HR
              refine xs_callW (run r1 hp1 p e R s m args below meth c H locs cells slots ls C K L rr hMet ⟨by omega, by omega⟩) hq ?_
              intro H1 locs1 rr1 hq1
              exact b3 p e R s m args below meth c H1 locs1 _ _ ls Q cells' slots' C K L rr1 hq1 (by omega) (by omega) h1 h2 HR
            · cases hrun
          · cases hrun
        rcases hh with ⟨rfl, hT, hdr, rfl⟩ | ⟨rfl, hT, b, ci, fs, hdr, hb, hci, rfl⟩ | ⟨rfl, hT, b, hdr, rfl⟩
        · obtain ⟨pp, hpp⟩ := xk_all_of xk_ms_all hT
          have hj : j' < xp_mk.length := by
            unfold xk_m at hpp
            simp only [Bool.and_eq_true, decide_eq_true_eq] at hpp
            exact hpp.2.1
          refine key as hrun hj ?_
          intro r1 hp1 p e R s m args below meth c H locs cells slots ls C K L rr hMet hf
          exact xs_runS C K L.1 rr hT hN hfit (by rw [has, List.length_reverse, List.length_take]; omega) (by rw [has, List.reverse_reverse, ← hdr, List.take_append_drop]) hlow hd hMet hf
        · obtain ⟨pp, hpp⟩ := xk_all_of xk_mv_all hT
          have hj : j' < xp_mk.length := by
            unfold xk_m at hpp
            simp only [Bool.and_eq_true, decide_eq_true_eq] at hpp
            exact hpp.2.1
          refine key (.ref b :: as) hrun hj ?_
          intro r1 hp1 p e R s m args below meth c H locs cells slots ls C K L rr hMet hf
          exact xs_runV C K L.1 rr hT hN hfit hb hci (by rw [has, List.length_reverse, List.length_take]; omega) (by rw [has, List.reverse_reverse, ← hdr, List.take_append_drop]) hlow hd hMet hf
        · obtain ⟨pp, hpp⟩ := xk_all_of xk_mp_all hT
          have hj : j' < xp_mk.length := by
            unfold xk_m at hpp
            simp only [Bool.and_eq_true, decide_eq_true_eq] at hpp
            exact hpp.2.1
          refine key (.ref b :: as) hrun hj ?_
          intro r1 hp1 p e R s m args below meth c H locs cells slots ls C K L rr hMet hf
          exact xs_runP C K L.1 rr hT hN hfit (by rw [has, List.length_reverse, List.length_take]; omega) (by rw [has, List.reverse_reverse, ← hdr, List.take_append_drop]) hlow hd hMet hf
end XY
end
section
/-- the heap at the law's entry: the script alone -/
def xw_hp0 (b L : Nat) (xs : Nat → Int32) (B : Nat) : xm_H := (fun q => if q = b then some (.inr (.inr (L, xs))) else none, B, 0)
def xk_in (ci : Nat) : Bool := match xp_cl[ci]?, xp_ip[ci]? with
  | some (C, _, N), some (p1, _) => xk_w p1 (.instantiable C N)
  | _, _ => false
set_option maxRecDepth 100000 in
theorem xk_in_all : (List.range xp_cl.length).all xk_in = true := by decide +kernel
theorem xp_inst {ci N : Nat} {C : String} {T : u_T} (h : xp_cl[ci]? = some (C, T, N)) : Cond.instantiable C N ∈ xp_tb := by
  have h1 := List.all_eq_true.mp xk_in_all ci (List.mem_range.mpr (List.getElem?_eq_some_iff.mp h).1)
  unfold xk_in at h1
  rw [h] at h1
  split at h1
  · rename_i C' T' N' p1 p2 hx hp
    cases hx
    exact xk_w_mem h1
  · cases h1
theorem xw_dec {pc : Nat} {i : Instr} {n : Nat} (h : decode xM192.2.1 pc = .ok (i, n)) : decode code pc = .ok (i, n) := h
theorem xw_start (main : ∀ (b L B : Nat) (xs : Nat → Int32), b < B → L ≤ 3072 → ∃ hp', xm_call 192 [.ref b] (xw_hp0 b L xs B) = some (some (.int 1), hp') ∧ hp'.2.1 ≤ B + 600000 ∧ hp'.2.2 ≤ 7302250)
    {p : Program} {e : Env} {s : State} {m : MethodId} {below : List Frame} {meth : Method} {c : Code} (l : Launch) {b L : Nat} {xs : Nat → Int32} (hL : L ≤ 3072) {Z : State → Prop}
    (hx : p.tables.exec = Jvm.exec) (hb : c.code = code) (hml : c.maxLocals = 4) (hown : s.vm.findClass RL = some m.cls) (hts : ∀ w ∈ lw_tbl, w.before #[Value.ref b] s = true) (hX : va_X b L xs s s.heap) (hbl : b < s.heap.size)
    (ret : ∀ (pc : Nat) (ls : Array Slot) (H : Heap), decode code pc = .ok (.ireturn, 1) → W p l e room_1 s m #[Value.ref b] below meth c H [] 600000 7302250 Z (F0 m pc ls [.int 1])) :
    W p l e room_1 s m #[Value.ref b] below meth c s.heap [] 0 0 Z (entryFrame m ([Value.ref b] : List Value).toArray 4) := by
  obtain ⟨scr, s1, s2, s3, s4, s5⟩ := hX
  have hts' : ∀ w ∈ xp_tb, w.before #[Value.ref b] s = true := fun w hw => hts w (List.mem_filter.mp hw).1
  have hkn : ∀ ci : Nat, ∃ q : ClassId × (Nat → Nat), ∀ (C : String) (T : u_T) (N : Nat), xp_cl[ci]? = some (C, T, N) → u_Kn s C T N q.1 q.2 := by
    intro ci
    cases hc : xp_cl[ci]? with
    | none => exact ⟨(0, fun _ => 0), fun C T N h => by cases h⟩
    | some q =>
      obtain ⟨C, T, N⟩ := q
      obtain ⟨cC, iS, hk⟩ := u_known hts' (xp_cl_in hc) (hts' _ (xp_inst hc))
      exact ⟨(cC, iS), fun C' T' N' h => by cases h; exact hk⟩
  have har : ∀ ty : FieldType, ∃ cA : ClassId, ty = .int ∨ ty = .boolean ∨ ty = .long → ArrOfT s cA ty ∧ s.vm.findClass ("[" ++ ty.toString) = some cA := by
    intro ty
    by_cases hty : ty = .int ∨ ty = .boolean ∨ ty = .long
    · have hw : (Cond.arrayClass ty).before #[Value.ref b] s = true := by
        rcases hty with rfl | rfl | rfl
        · exact hts' _ (xk_w_mem xk_arr_int)
        · exact hts' _ (xk_w_mem xk_arr_boolean)
        · exact hts' _ (xk_w_mem xk_arr_long)
      obtain ⟨cA, kA, comp, hfind, hk, hkind⟩ := Cond.arrayClass_spec hw
      exact ⟨cA, fun _ => ⟨fun n z => ⟨fun k h => (by cases h), kA, hk, comp, hkind⟩, hfind⟩⟩
    · exact ⟨0, fun h => absurd h hty⟩
  have K : xs_K (fun ci => (Classical.choose (hkn ci)).1, fun ci => (Classical.choose (hkn ci)).2) (fun ty => Classical.choose (har ty)) scr s := by
    refine ⟨⟨fun ci q hq => ?_, fun k q h => by simp at h⟩, fun ty hty => Classical.choose_spec (har ty) hty, s2, fun w hw => xp_ne_of w hw (hts w (List.mem_filter.mp hw).1)⟩
    obtain ⟨C, T, N⟩ := q
    exact Classical.choose_spec (hkn ci) C T N hq
  generalize ((fun ci => (Classical.choose (hkn ci)).1, fun ci => (Classical.choose (hkn ci)).2) : va_G) = D at K
  generalize (fun ty => Classical.choose (har ty)) = aT at K
  have R0 : xs_R D aT s.heap.size scr (xw_hp0 b L xs s.heap.size) s.heap := by
    refine ⟨rfl, Nat.le_refl _, fun a x ha => ?_⟩
    have ha : (if a = b then some (.inr (.inr (L, xs))) else none : Option xm_E) = some x := ha
    split at ha
    · rename_i hab
      cases ha
      subst hab
      exact ⟨hbl, s1, s3, s4, s5⟩
    · cases ha
  obtain ⟨hp', hcall, hc, hsl⟩ := main b L s.heap.size xs hbl hL
  have hcall : xm_out 192 (0, xm_ent 4 [.ref b], [], xw_hp0 b L xs s.heap.size) = some (some (.int 1), hp') := hcall
  obtain ⟨n, hn⟩ := xm_out_iff.mp hcall
  rw [lg_entry_eq]
  obtain ⟨m1, m2, hS⟩ := xs_sound (l := l) (D := D) (aT := aT) (B := s.heap.size) (scr := scr) n 192 xM192 0 _ [] _ _ hp' rfl hn
  have C : xs_C xM192 p s m #[Value.ref b] meth c room_1 := ⟨hx, hb, hml, rfl, hown, hts', (fun h => by cases h), Nat.le_of_ble_eq_true rfl, Nat.le_of_ble_eq_true rfl⟩
  have q1 : (xw_hp0 b L xs s.heap.size).2.1 = s.heap.size := rfl
  have q2 : (xw_hp0 b L xs s.heap.size).2.2 = 0 := rfl
  refine hS p e room_1 s m #[Value.ref b] below meth c s.heap [] 0 0 _ Z (hp'.2.1 - s.heap.size) hp'.2.2 C K (xs_entry [.ref b] (Nat.le_of_ble_eq_true rfl)) R0 (fun q h => by cases h) (by omega) (by omega) (by show _ ≤ 600000; omega) (by show _ ≤ 7302250; omega) ?_
  intro pc' i sk' ls' H' locs' hd hret hR' hq'
  refine va_forget hq' ?_
  refine W.widen (k := 600000) (n := 7302250) (by omega) (by omega) ?_
  have hd := xw_dec hd
  have hret : xm_ret (some .boolean) i sk' = some (some (.int 1)) := hret
  unfold xm_ret at hret
  (repeat' split at hret) <;> first | (cases hret; exact ret pc' ls' H' hd) | (cases hret; done) | (rename_i heq; cases heq; done) | skip
end
section
theorem xw_main (b L B : Nat) (xs : Nat → Int32) (hb : b < B) (hL : L ≤ 3072) : ∃ hp', xm_call 192 [.ref b] (xw_hp0 b L xs B) = some (some (.int 1), hp') ∧ hp'.2.1 ≤ B + 600000 ∧ hp'.2.2 ≤ 7302250 := sorry
end
section
/-! THE CLAIM OUT OF ONE WALK OF THE LAW'S BODY. Your part is whole_start (and what it stands on); all else here is the same for every law, but numbers. -/
def R_law : String := "PackageModulesLaw"
def lw_P (b : Addr) (xs : List Int32) (args : Array Value) (s : State) : Prop := args = #[.ref b] ∧ s.IntsAt b xs ∧ xs.length ≤ 3072 ∧ (Jvm.Cond.and given_1 narrow_1).before args s = true
def lw_Q (_ : Array Value) (s : State) (o : Outcome) (t : State) : Prop := o = .returned (some (.int 1)) ∧ Framed s o t [] 600000 7302250
def lw_Z (below : List Frame) (a : Array Value) (s : State) : State → Prop := fun t => ∃ o, t.status = .running ∧ Ended t below o ∧ lw_Q a s o t
/-- the law's own end, with 1 on the stack, nothing written that was there before, its room as the claim has it -/
theorem lw_ret {p : Program} {l : Launch} {e : Env} {s : State} {m : MethodId} {below : List Frame} {meth : Method} {c : Code} {b : Nat} (hx : p.tables.exec = Jvm.exec) (hb : c.code = code) (hr : meth.sig.returnType = ret) (hlocks : meth.locks = false) {pc : Nat} {H : Heap} {ls : Array Slot} (hdg : decode code pc = .ok (.ireturn, 1)) : W p l e room_1 s m #[Value.ref b] below meth c H [] 600000 7302250 (lw_Z below #[Value.ref b] s) (F0 m pc ls [.int 1]) := by
  intro T hT X
  obtain ⟨fs, hret, hrun, hended, hW, hframe⟩ := X.leave (v := some (.int 1)) (hlocks := hlocks) (fun h => by rw [hr] at h; cases h)
  have hmeth' : T.vm.method? m = some meth := X.method'
  refine ⟨T.setFrames fs, ?_, .returned (some (.int 1)), hrun, hended, rfl, ⟨_, rfl⟩, hW, hframe⟩
  jvm_step X.here [X.here.top, hx, hb, hdg, hmeth', hr, ret, narrow_b1]
  (try refine ⟨rfl, ?_⟩); (try refine ⟨rfl, ?_⟩)
  first | (intro acts; rw [hret _ acts rfl rfl rfl]) | rw [hret _ _ rfl rfl rfl]
  exact Steps.refl _
/-- what holds at the law's entry: the machine, the code, the tables' words (any of lw_tbl by 'hts w (by decide +kernel)'), the script of L ints xs at the cell b, what the Statement gives of the start (any of its parts by flat_of_before) -/
def lw_At (p : Program) (s : State) (m : MethodId) (meth : Method) (c : Code) (b L : Nat) (xs : Nat → Int32) : Prop :=
  p.tables.exec = Jvm.exec ∧ c.code = code ∧ meth.sig.returnType = ret ∧ c.maxLocals = 4 ∧ s.vm.findClass R_law = some m.cls ∧ (∀ w ∈ lw_tbl, w.before #[Value.ref b] s = true) ∧ va_X b L xs s s.heap ∧ b < s.heap.size ∧ meth.locks = false ∧ (Jvm.Cond.and given_1 narrow_1).before #[Value.ref b] s = true
-- ===== YOUR PART BEGINS =====
/-- YOUR PART: from the entry, for every script of at most 3072 ints, the law comes to its end with true -/
theorem whole_start {p : Program} {e : Env} {s : State} {m : MethodId} {below : List Frame} {meth : Method} {c : Code} (l : Launch) {b L : Nat} {xs : Nat → Int32} (hL : L ≤ 3072) (C0 : lw_At p s m meth c b L xs) : W p l e room_1 s m #[Value.ref b] below meth c s.heap [] 0 0 (lw_Z below #[Value.ref b] s) (entryFrame m ([Value.ref b] : List Value).toArray 4) := by
  obtain ⟨hx, hb, hr, hml, hown, hts, hX, hbl, hlocks, hgv⟩ := id C0
  exact xw_start xw_main l hL hx hb hml hown hts hX hbl (fun pc ls H hd => lw_ret hx hb hr hlocks hd)
-- ===== YOUR PART ENDS =====
set_option maxHeartbeats 4000000 in
theorem lw_walk (l : Launch) (b : Addr) (xs : List Int32) : MetFree l x (headSpec (Jvm.Cond.code x code maxLocals ret :: tables_1) room_1) (lw_P b xs) (fun _ _ _ _ _ => True) lw_Q := by
  refine MetFree.of_bodyS (code := code) (maxLocals := maxLocals) (ret := ret) (by decide) ?_ ?_
  · intro args s m h hn
    obtain ⟨meth, c, h1, h2, h3, h4, h5, h6, -, -⟩ := Cond.code_spec hn (atoms_spec (ws := Jvm.Cond.code x code maxLocals ret :: tables_1) h _ List.mem_cons_self)
    exact ⟨meth, c, h1, h2, h3, h4, h5, h6⟩
  · intro p e s m args below meth c s₁ B hml0 hP _
    obtain ⟨rfl, hx, hbd, hgv⟩ := hP
    obtain ⟨scr, harrAt, hlist, hof, hsmall⟩ := hx
    obtain ⟨hcb, hkn, -, -⟩ := State.arrayAt?_spec harrAt
    have hown : s.vm.findClass R_law = some m.cls := findClass_of_methodNamed B.named
    have hts0 : ∀ c ∈ (Jvm.Cond.code x code maxLocals ret :: tables_1), c.before #[Value.ref b] s = true := atoms_spec (ws := Jvm.Cond.code x code maxLocals ret :: tables_1) B.pre
    have hts : ∀ w ∈ lw_tbl, w.before #[Value.ref b] s = true := k2_hts_sels lw_privs (fun w hw => hts0 w (List.mem_cons_of_mem _ hw)) lw_privs_ok
    have hml : c.maxLocals = 4 := B.maxLocals_eq (hts0 _ List.mem_cons_self)
    have X₀ : Stand p l e room_1 s m #[Value.ref b] below meth c s₁ [] 0 0 := Stand.of_body B
    have hh0 : s₁.heap = s.heap := by rw [B.state]; rfl
    have hsz : scr.slots.size = xs.length := by rw [← Array.length_toList, hlist, List.length_map]
    have hval : ∀ j : Nat, j < xs.length → scr.slots[j]? = some (.int (xs.getD j 0)) := fun j hj => by
      rw [← Array.getElem?_toList, hlist]
      simp [hj]
    have hbl : b < s.heap.size := (Array.getElem?_eq_some_iff.mp hcb).1
    have hX : va_X b xs.length (fun j => xs.getD j 0) s s.heap := ⟨scr, hcb, hof, hkn, hsz, hval⟩
    have K : W p l e room_1 s m #[Value.ref b] below meth c s₁.heap [] 0 0 (lw_Z below #[Value.ref b] s) (entryFrame m ([Value.ref b] : List Value).toArray 4) := by
      rw [hh0]
      exact whole_start l hbd ⟨B.exec, B.bytes, B.returns, hml, hown, hts, hX, hbl, B.notSynchronized, hgv⟩
    obtain ⟨t, a1, o, b1, b2, b3⟩ := K s₁ rfl X₀
    exact ⟨t, o, a1, b1, b2, b3⟩
theorem lw_pre_spec {args : Array Value} {s : State} (h : (Jvm.Cond.and given_1 narrow_1).before args s = true) (hr : rest_1_c.before args s = true) : ∃ (b : Addr) (xs : List Int32), lw_P b xs args s := by
  have hs := flat_of_before _ h
  have hq := flat_of_before _ hr
  have hc : (Cond.count 1).before args s = true := hs _ (by decide +kernel)
  have harr : (Cond.arrayOf (.arg 0) .int).before args s = true := hs _ (by decide +kernel)
  have hle : (Cond.le (.length (.arg 0)) (.int 3072)).before args s = true := hs _ (by decide +kernel)
  have hlen : (Cond.isInt (.length (.arg 0))).before args s = true := hq _ (by decide +kernel)
  have hall : (Cond.all (.arg 0) (.isInt (.elem (.arg 0) (.index 0)))).before args s = true := hq _ (by decide +kernel)
  obtain ⟨b, xs, hb, hx⟩ := State.ints_of_pre rfl harr hlen hall
  have hsm : xs.length < 2 ^ 31 := hx.choose_spec.2.2.2
  have hev : (Term.length (.arg 0)).eval args s none [] s = some (.int xs.length.toInt32) := hx.length_eval hb
  have hv := Cond.le_ints hev (show (Term.int 3072).eval args s none [] s = some (.int 3072) from rfl)
  have hd : xs.length.toInt32 ≤ 3072 := by
    simpa [Cond.before, Cond.holds, hv] using hle
  have hN : xs.length ≤ 3072 := (Int32.ofNat_le_ofNat hsm (by decide)).mp (show Int32.ofNat xs.length ≤ Int32.ofNat 3072 from hd)
  exact ⟨b, xs, Cond.one_arg hc (show args[0]? = some (.ref b) from hb), hx, hN, h⟩
theorem lw_comes (l : Launch) : Comes l x (Jvm.Cond.code x code maxLocals ret :: tables_1) room_1 (fun tb e args s => Calls_1 tb e args s ∧ rest_1 tb e args s ∧ Pre_1 tb e args s)
    (fun _ _ args s o t => lw_Q args s o t) := by
  intro p e ha hc hk s m args below hf hfit hheap happ hpre
  obtain ⟨b, xs, hP⟩ := lw_pre_spec hpre.2.2 hpre.2.1
  obtain ⟨k, o, h1, h2, h3, hQ⟩ := lw_walk l b xs p e ha hc hk s m args below hf ((Spec.applies_iff_loose hf).mp happ).1 hP trivial
  exact ⟨k, o, h1, h2, h3, hQ⟩
theorem lw_frame {s t : State} {o : Outcome} {args : Array Value} (h : Framed s o t [] 600000 7302250) :
    Framed s o t (fieldLocs frame_1_writes args s ++ arrayLocs frame_1_arrays args s ++ staticLocs frame_1_statics s) 600000 7302250 := h
theorem lw_limb (L : Cond) (hL : ∀ (args : Array Value) (s t : State), L.after args s (.returned (some (.int 1))) t = true) :
    ArmFor flags0 classFile x code maxLocals ret World_1 tables_1 room_1 Calls_1 rest_1 Pre_1
      (fun tb e a s o t => postC L tb e a s o t ∧ Framed s o t (fieldLocs frame_1_writes a s ++ arrayLocs frame_1_arrays a s ++ staticLocs frame_1_statics s) 600000 7302250) := by
  intro l _ _ _ p e ha hc hk s m args below hf hfit hheap happ hpre
  obtain ⟨k, o, h1, h2, h3, rfl, hF⟩ := lw_comes l p e ha hc hk s m args below hf hfit hheap happ hpre
  exact ⟨k, _, h1, h2, h3, hL args s _, lw_frame hF⟩
theorem i_vc : Claimed_1_1 ∧ Claimed_1_2 := ⟨lw_limb limb_1_1 (fun args s t => by simp [limb_1_1, Cond.after, Cond.holds, Cond.value]), lw_limb limb_1_2 (fun args s t => Cond.after_iff.mpr (by
  first | (rw [show limb_1_2 = Cond.eq .result (.int 1) from rfl, Cond.eq_ints (x := 1) (y := 1) rfl rfl]; simp; done) | (simp [limb_1_2, Cond.value, Term.eval]; done)))⟩
end
