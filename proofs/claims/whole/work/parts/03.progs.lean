abbrev xm_M : Type := MethodName × ByteArray × Nat × Option FieldType × Nat × Nat × Nat × Bool
def xp_cl : List vw_C := [(RX0, TX0, 3), (RX1, TX1, 6), (RX2, TX2, 5), (RX3, TX3, 5), (RX4, TX4, 4), (RX5, TX5, 6), (RX6, TX6, 6), (RX7, TX7, 7), (RX8, TX8, 34)]
/-- a class's name by its number -/
def xp_on : List String := [RX0, RX1, RX2, RX3, RX4, RX5, RX6, RX7, RX8, RJ6, RJ9, RJ7, RL]
abbrev xM0 : xm_M := (yX0_isFull, cX0_isFull, 1, some .boolean, 0, 0, 0, false)
abbrev xM1 : xm_M := (yX0_knownTo, cX0_knownTo, 5, some .int, 0, 0, 0, false)
abbrev xM2 : xm_M := (yX1_add, cX1_add, 6, some .int, 1, 0, 0, false)
abbrev xM3 : xm_M := (yX1_find, cX1_find, 5, some .int, 1, 0, 0, false)
abbrev xM4 : xm_M := (yX1_typeOf, cX1_typeOf, 2, some .int, 1, 0, 0, false)
abbrev xM5 : xm_M := (yX1_isOpen, cX1_isOpen, 2, some .boolean, 1, 0, 0, false)
abbrev xM6 : xm_M := (yX1_givenBy, cX1_givenBy, 2, some .int, 1, 0, 0, false)
abbrev xM7 : xm_M := (yX2_add, cX2_add, 1, some .int, 2, 0, 0, false)
abbrev xM8 : xm_M := (yX2_join, cX2_join, 7, none, 2, 0, 0, false)
abbrev xM9 : xm_M := (yX3_add, cX3_add, 3, some .int, 3, 0, 0, false)
abbrev xM10 : xm_M := (yX3_find, cX3_find, 4, some .int, 3, 0, 0, false)
abbrev xM11 : xm_M := (yX3_ownerOf, cX3_ownerOf, 2, some .int, 3, 0, 0, false)
abbrev xM12 : xm_M := (yX3_nameOf, cX3_nameOf, 2, some .int, 3, 0, 0, false)
abbrev xM13 : xm_M := (yX3_bitOf, cX3_bitOf, 1, some .int, 3, 0, 0, false)
abbrev xM14 : xm_M := (yX4_isUsed, cX4_isUsed, 3, some .boolean, 4, 0, 0, false)
abbrev xM15 : xm_M := (yX4_use, cX4_use, 3, none, 4, 0, 0, false)
abbrev xM16 : xm_M := (yX4_isProvided, cX4_isProvided, 4, some .boolean, 4, 0, 0, false)
abbrev xM17 : xm_M := (yX4_serviceAt, cX4_serviceAt, 2, some .int, 4, 0, 0, false)
abbrev xM18 : xm_M := (yX4_typeAt, cX4_typeAt, 2, some .int, 4, 0, 0, false)
abbrev xM19 : xm_M := (yX5_add, cX5_add, 6, some .int, 5, 0, 0, false)
abbrev xM20 : xm_M := (yX5_find, cX5_find, 4, some .int, 5, 0, 0, false)
abbrev xM21 : xm_M := (yX5_anyIn, cX5_anyIn, 3, some .boolean, 5, 0, 0, false)
abbrev xM22 : xm_M := (yX5_packOf, cX5_packOf, 2, some .int, 5, 0, 0, false)
abbrev xM23 : xm_M := (yX5_nameOf, cX5_nameOf, 2, some .int, 5, 0, 0, false)
abbrev xM24 : xm_M := (yX5_kindOf, cX5_kindOf, 2, some .int, 5, 0, 0, false)
abbrev xM25 : xm_M := (yX5_parentOf, cX5_parentOf, 2, some .int, 5, 0, 0, false)
abbrev xM26 : xm_M := (yX5_isOpen, cX5_isOpen, 2, some .boolean, 5, 0, 0, false)
abbrev xM27 : xm_M := (yX5_hasMaker, cX5_hasMaker, 2, some .boolean, 5, 0, 0, false)
abbrev xM28 : xm_M := (yX5_isSubtype, cX5_isSubtype, 5, some .boolean, 5, 0, 0, false)
abbrev xM29 : xm_M := (yX6_add, cX6_add, 2, some .int, 6, 0, 0, false)
abbrev xM30 : xm_M := (yX6_packOf, cX6_packOf, 2, some .int, 6, 0, 0, false)
abbrev xM31 : xm_M := (yX6_importsOf, cX6_importsOf, 2, some .int, 6, 0, 0, false)
abbrev xM32 : xm_M := (yX6_isFull, cX6_isFull, 2, some .boolean, 6, 0, 0, false)
abbrev xM33 : xm_M := (yX6_kindAt, cX6_kindAt, 3, some .int, 6, 0, 0, false)
abbrev xM34 : xm_M := (yX6_whatAt, cX6_whatAt, 3, some .int, 6, 0, 0, false)
abbrev xM35 : xm_M := (yX6_nameAt, cX6_nameAt, 3, some .int, 6, 0, 0, false)
abbrev xM36 : xm_M := (yX7_count, cX7_count, 2, some .int, 7, 0, 0, false)
abbrev xM37 : xm_M := (yX7_within, cX7_within, 2, some .boolean, 7, 0, 0, false)
abbrev xM38 : xm_M := (yX7_hasBit, cX7_hasBit, 2, some .boolean, 7, 0, 0, false)
abbrev xM39 : xm_M := (yX7_broken, cX7_broken, 1, some .int, 7, 0, 0, false)
abbrev xM40 : xm_M := (yX7_asAnswer, cX7_asAnswer, 1, some .int, 7, 0, 0, false)
abbrev xM41 : xm_M := (yX8_in, cX8_in, 3, some .boolean, 8, 0, 0, false)
abbrev xM42 : xm_M := (yX8_broken, cX8_broken, 1, some .int, 8, 0, 0, false)
abbrev xM43 : xm_M := (yX8_module, cX8_module, 1, some .int, 8, 0, 0, false)
abbrev xM44 : xm_M := (yX8_packOf, cX8_packOf, 5, some .int, 8, 0, 0, false)
abbrev xM45 : xm_M := (yX8_typeOf, cX8_typeOf, 5, some .int, 8, 0, 0, false)
abbrev xM46 : xm_M := (yX8_ownMember, cX8_ownMember, 6, some .int, 8, 0, 0, false)
abbrev xM47 : xm_M := (yX8_isOpen, cX8_isOpen, 2, some .boolean, 8, 0, 0, false)
abbrev xM48 : xm_M := (yX8_moduleOf, cX8_moduleOf, 2, some .int, 8, 0, 0, false)
abbrev xM49 : xm_M := (yX8_isSubtype, cX8_isSubtype, 4, some .boolean, 8, 0, 0, false)
abbrev xM50 : xm_M := (yX8_clear, cX8_clear, 2, none, 8, 0, 0, false)
abbrev xM51 : xm_M := (yX8_isEdge, cX8_isEdge, 6, some .boolean, 8, 0, 0, false)
abbrev xM52 : xm_M := (yX8_isExported, cX8_isExported, 3, some .boolean, 8, 0, 0, false)
abbrev xM53 : xm_M := (yX8_isProviding, cX8_isProviding, 5, some .boolean, 8, 0, 0, false)
abbrev xM54 : xm_M := (yX8_isUsed, cX8_isUsed, 4, some .boolean, 8, 0, 0, false)
abbrev xM55 : xm_M := (yX8_home, cX8_home, 2, some .int, 8, 0, 0, false)
abbrev xM56 : xm_M := (yX8_loaderOf, cX8_loaderOf, 4, some .int, 8, 0, 0, false)
abbrev xM57 : xm_M := (yX8_count, cX8_count, 2, some .int, 8, 0, 0, false)
abbrev xM58 : xm_M := (yJ6_bitCount_0f7a4, cJ6_bitCount_0f7a4, 1, some .int, 9, 0, 0, false)
abbrev xM59 : xm_M := (yX0_init, cX0_init, 1, none, 0, 1, 20, true)
abbrev xM60 : xm_M := (yX0_holds, cX0_holds, 2, some .boolean, 0, 1, 21, false)
abbrev xM61 : xm_M := (yX0_add, cX0_add, 3, some .int, 0, 1, 20, false)
abbrev xM62 : xm_M := (yX0_homeOf, cX0_homeOf, 5, some .int, 0, 1, 21, false)
abbrev xM63 : xm_M := (yX1_init, cX1_init, 1, none, 1, 1, 20, true)
abbrev xM64 : xm_M := (yX2_init, cX2_init, 1, none, 2, 1, 20, true)
abbrev xM65 : xm_M := (yX2_holds, cX2_holds, 2, some .boolean, 2, 1, 21, false)
abbrev xM66 : xm_M := (yX2_needsAlready, cX2_needsAlready, 3, some .boolean, 2, 1, 21, false)
abbrev xM67 : xm_M := (yX2_closed, cX2_closed, 7, some .int, 2, 1, 21, false)
abbrev xM68 : xm_M := (yX3_init, cX3_init, 1, none, 3, 1, 20, true)
abbrev xM69 : xm_M := (yX3_holds, cX3_holds, 2, some .boolean, 3, 1, 21, false)
abbrev xM70 : xm_M := (yX3_isTold, cX3_isTold, 4, some .boolean, 3, 1, 20, false)
abbrev xM71 : xm_M := (yX3_tell, cX3_tell, 4, none, 3, 1, 20, false)
abbrev xM72 : xm_M := (yX3_isExportedTo, cX3_isExportedTo, 3, some .boolean, 3, 1, 20, false)
abbrev xM73 : xm_M := (yX3_isOpenedTo, cX3_isOpenedTo, 3, some .boolean, 3, 1, 20, false)
abbrev xM74 : xm_M := (yX4_init, cX4_init, 1, none, 4, 1, 20, true)
abbrev xM75 : xm_M := (yX4_usedBy, cX4_usedBy, 5, some .long, 4, 1, 21, false)
abbrev xM76 : xm_M := (yX5_init, cX5_init, 1, none, 5, 1, 20, true)
abbrev xM77 : xm_M := (yX5_holds, cX5_holds, 2, some .boolean, 5, 1, 21, false)
abbrev xM78 : xm_M := (yX6_init, cX6_init, 1, none, 6, 1, 20, true)
abbrev xM79 : xm_M := (yX6_holds, cX6_holds, 2, some .boolean, 6, 1, 21, false)
abbrev xM80 : xm_M := (yX6_addImport, cX6_addImport, 6, some .int, 6, 1, 21, false)
abbrev xM81 : xm_M := (yX6_hasImport, cX6_hasImport, 6, some .boolean, 6, 1, 22, false)
abbrev xM82 : xm_M := (yX7_module, cX7_module, 1, some .int, 7, 1, 20, false)
abbrev xM83 : xm_M := (yX7_isName, cX7_isName, 1, some .boolean, 7, 1, 21, false)
abbrev xM84 : xm_M := (yX7_ownerOfType, cX7_ownerOfType, 2, some .int, 7, 1, 21, false)
abbrev xM85 : xm_M := (yX7_ownerOfUnit, cX7_ownerOfUnit, 2, some .int, 7, 1, 21, false)
abbrev xM86 : xm_M := (yX7_nearestMember, cX7_nearestMember, 7, some .int, 7, 1, 24, false)
abbrev xM87 : xm_M := (yX7_singlyImportedType, cX7_singlyImportedType, 5, some .int, 7, 1, 22, false)
abbrev xM88 : xm_M := (yX7_giverRule, cX7_giverRule, 3, some .int, 7, 1, 24, false)
abbrev xM89 : xm_M := (yX7_makerRule, cX7_makerRule, 3, some .int, 7, 1, 24, false)
abbrev xM90 : xm_M := (yX8_init, cX8_init, 1, none, 8, 1, 20, true)
abbrev xM91 : xm_M := (yX8_isModule, cX8_isModule, 2, some .boolean, 8, 1, 22, false)
abbrev xM92 : xm_M := (yX8_isPack, cX8_isPack, 2, some .boolean, 8, 1, 22, false)
abbrev xM93 : xm_M := (yX8_isType, cX8_isType, 2, some .boolean, 8, 1, 22, false)
abbrev xM94 : xm_M := (yX8_isUnit, cX8_isUnit, 2, some .boolean, 8, 1, 22, false)
abbrev xM95 : xm_M := (yX8_isName, cX8_isName, 1, some .boolean, 8, 1, 22, false)
abbrev xM96 : xm_M := (yX8_goesOn, cX8_goesOn, 7, some .boolean, 8, 1, 25, false)
abbrev xM97 : xm_M := (yX8_seesPack, cX8_seesPack, 3, some .boolean, 8, 1, 22, false)
abbrev xM98 : xm_M := (yX8_binds, cX8_binds, 5, some .boolean, 8, 1, 24, false)
abbrev xM99 : xm_M := (yX8_usable, cX8_usable, 7, some .int, 8, 1, 25, false)
abbrev xM100 : xm_M := (yX8_isLayer, cX8_isLayer, 2, some .boolean, 8, 1, 22, false)
abbrev xM101 : xm_M := (yJ7_copyOf_59c91, cJ7_copyOf_59c91, 3, some (.array .int), 11, 1, 26, false)
abbrev xM102 : xm_M := (yX2_reaches, cX2_reaches, 3, some .boolean, 2, 2, 47, false)
abbrev xM103 : xm_M := (yX2_readBy, cX2_readBy, 4, some .int, 2, 2, 47, false)
abbrev xM104 : xm_M := (yX2_neededAtRun, cX2_neededAtRun, 2, some .int, 2, 2, 47, false)
abbrev xM105 : xm_M := (yX3_isSeenBy, cX3_isSeenBy, 4, some .boolean, 3, 2, 42, false)
abbrev xM106 : xm_M := (yX4_provide, cX4_provide, 3, none, 4, 2, 48, false)
abbrev xM107 : xm_M := (yX7_init, cX7_init, 1, none, 7, 2, 40, true)
abbrev xM108 : xm_M := (yX7_pack, cX7_pack, 3, some .int, 7, 2, 42, false)
abbrev xM109 : xm_M := (yX7_exports, cX7_exports, 4, some .int, 7, 2, 43, false)
abbrev xM110 : xm_M := (yX7_looks, cX7_looks, 3, some .int, 7, 2, 42, false)
abbrev xM111 : xm_M := (yX7_unit, cX7_unit, 2, some .int, 7, 2, 42, false)
abbrev xM112 : xm_M := (yX7_loader, cX7_loader, 3, some .int, 7, 2, 45, false)
abbrev xM113 : xm_M := (yX7_isTypeOrNone, cX7_isTypeOrNone, 2, some .boolean, 7, 2, 42, false)
abbrev xM114 : xm_M := (yX7_isImport, cX7_isImport, 5, some .boolean, 7, 2, 42, false)
abbrev xM115 : xm_M := (yX7_importsRival, cX7_importsRival, 4, some .boolean, 7, 2, 46, false)
abbrev xM116 : xm_M := (yX7_usableMember, cX7_usableMember, 7, some .int, 7, 2, 50, false)
abbrev xM117 : xm_M := (yX7_isWidelyImported, cX7_isWidelyImported, 3, some .boolean, 7, 2, 47, false)
abbrev xM118 : xm_M := (yX7_providersFor, cX7_providersFor, 6, some .int, 7, 2, 45, false)
abbrev xM119 : xm_M := (yX7_providerAt, cX7_providerAt, 8, some .int, 7, 2, 42, false)
abbrev xM120 : xm_M := (yX8_pack, cX8_pack, 3, some .int, 8, 2, 43, false)
abbrev xM121 : xm_M := (yX8_type, cX8_type, 6, some .int, 8, 2, 43, false)
abbrev xM122 : xm_M := (yX8_member, cX8_member, 6, some .int, 8, 2, 43, false)
abbrev xM123 : xm_M := (yX8_read, cX8_read, 4, none, 8, 2, 51, false)
abbrev xM124 : xm_M := (yX8_requires, cX8_requires, 5, some .int, 8, 2, 51, false)
abbrev xM125 : xm_M := (yX8_exports, cX8_exports, 6, some .int, 8, 2, 43, false)
abbrev xM126 : xm_M := (yX8_seesType, cX8_seesType, 3, some .boolean, 8, 2, 44, false)
abbrev xM127 : xm_M := (yX8_looks, cX8_looks, 3, some .int, 8, 2, 43, false)
abbrev xM128 : xm_M := (yX8_graphOf, cX8_graphOf, 4, none, 8, 2, 51, false)
abbrev xM129 : xm_M := (yX8_unit, cX8_unit, 2, some .int, 8, 2, 43, false)
abbrev xM130 : xm_M := (yX8_byImports, cX8_byImports, 8, some .int, 8, 2, 51, false)
abbrev xM131 : xm_M := (yX8_loader, cX8_loader, 3, some .int, 8, 2, 43, false)
abbrev xM132 : xm_M := (yX7_type, cX7_type, 6, some .int, 7, 3, 63, false)
abbrev xM133 : xm_M := (yX7_member, cX7_member, 6, some .int, 7, 3, 63, false)
abbrev xM134 : xm_M := (yX7_requires, cX7_requires, 4, some .int, 7, 3, 69, false)
abbrev xM135 : xm_M := (yX7_reads, cX7_reads, 4, some .int, 7, 3, 70, false)
abbrev xM136 : xm_M := (yX7_isPackSeen, cX7_isPackSeen, 3, some .boolean, 7, 3, 70, false)
abbrev xM137 : xm_M := (yX7_leastSplitName, cX7_leastSplitName, 7, some .int, 7, 3, 70, false)
abbrev xM138 : xm_M := (yX7_isPackNameSeen, cX7_isPackNameSeen, 5, some .boolean, 7, 3, 70, false)
abbrev xM139 : xm_M := (yX7_hasUsableMember, cX7_hasUsableMember, 5, some .boolean, 7, 3, 76, false)
abbrev xM140 : xm_M := (yX7_memberByImport, cX7_memberByImport, 6, some .int, 7, 3, 76, false)
abbrev xM141 : xm_M := (yX7_graphOf, cX7_graphOf, 6, some .int, 7, 3, 70, false)
abbrev xM142 : xm_M := (yX7_foundPack, cX7_foundPack, 8, some .int, 7, 3, 70, false)
abbrev xM143 : xm_M := (yX8_reads, cX8_reads, 4, some .int, 8, 3, 74, false)
abbrev xM144 : xm_M := (yX8_sees, cX8_sees, 4, some .int, 8, 3, 74, false)
abbrev xM145 : xm_M := (yX8_splitOf, cX8_splitOf, 5, some .int, 8, 3, 74, false)
abbrev xM146 : xm_M := (yX8_uses, cX8_uses, 3, some .int, 8, 3, 74, false)
abbrev xM147 : xm_M := (yX8_provideRule, cX8_provideRule, 5, some .int, 8, 3, 74, false)
abbrev xM148 : xm_M := (yX8_graph, cX8_graph, 5, some .int, 8, 3, 74, false)
abbrev xM149 : xm_M := (yX8_has, cX8_has, 4, some .int, 8, 3, 74, false)
abbrev xM150 : xm_M := (yX8_provider, cX8_provider, 7, some .int, 8, 3, 74, false)
abbrev xM151 : xm_M := (yX8_importRule, cX8_importRule, 10, some .int, 8, 3, 74, false)
abbrev xM152 : xm_M := (yX8_byPacks, cX8_byPacks, 8, some .int, 8, 3, 74, false)
abbrev xM153 : xm_M := (yX8_memberOf, cX8_memberOf, 5, some .int, 8, 3, 78, false)
abbrev xM154 : xm_M := (yX8_finds, cX8_finds, 9, some .int, 8, 3, 74, false)
abbrev xM155 : xm_M := (yX7_split, cX7_split, 2, some .int, 7, 4, 96, false)
abbrev xM156 : xm_M := (yX7_graph, cX7_graph, 3, some .int, 7, 4, 95, false)
abbrev xM157 : xm_M := (yX7_has, cX7_has, 4, some .int, 7, 4, 95, false)
abbrev xM158 : xm_M := (yX7_provider, cX7_provider, 4, some .int, 7, 4, 95, false)
abbrev xM159 : xm_M := (yX7_finds, cX7_finds, 8, some .int, 7, 4, 97, false)
abbrev xM160 : xm_M := (yX7_isTypeSeen, cX7_isTypeSeen, 3, some .boolean, 7, 4, 92, false)
abbrev xM161 : xm_M := (yX7_anySplit, cX7_anySplit, 3, some .boolean, 7, 4, 96, false)
abbrev xM162 : xm_M := (yX7_importedMember, cX7_importedMember, 8, some .int, 7, 4, 101, false)
abbrev xM163 : xm_M := (yX8_split, cX8_split, 2, some .int, 8, 4, 98, false)
abbrev xM164 : xm_M := (yX8_provides, cX8_provides, 6, some .int, 8, 4, 98, false)
abbrev xM165 : xm_M := (yX8_imports, cX8_imports, 8, some .int, 8, 4, 103, false)
abbrev xM166 : xm_M := (yX8_meaning, cX8_meaning, 4, some .int, 8, 4, 101, false)
abbrev xM167 : xm_M := (yX8_layer, cX8_layer, 7, some .int, 8, 4, 98, false)
abbrev xM168 : xm_M := (yX7_uses, cX7_uses, 3, some .int, 7, 5, 114, false)
abbrev xM169 : xm_M := (yX7_sees, cX7_sees, 4, some .int, 7, 5, 114, false)
abbrev xM170 : xm_M := (yX7_memberOf, cX7_memberOf, 5, some .int, 7, 5, 128, false)
abbrev xM171 : xm_M := (yX7_layer, cX7_layer, 5, some .int, 7, 5, 118, false)
abbrev xM172 : xm_M := (yX7_importRule, cX7_importRule, 6, some .int, 7, 5, 114, false)
abbrev xM173 : xm_M := (yX7_widelyImportedType, cX7_widelyImportedType, 6, some .int, 7, 5, 114, false)
abbrev xM174 : xm_M := (yX7_provideRule, cX7_provideRule, 6, some .int, 7, 5, 114, false)
abbrev xM175 : xm_M := (yX7_provides, cX7_provides, 5, some .int, 7, 6, 139, false)
abbrev xM176 : xm_M := (yX7_imports, cX7_imports, 6, some .int, 7, 6, 139, false)
abbrev xM177 : xm_M := (yX7_meaning, cX7_meaning, 5, some .int, 7, 6, 139, false)
abbrev xM192 : xm_M := (yL_law, cL_law, 4, some .boolean, 12, 7, 164, false)
def xp_mi0 : List xm_M := [xM0, xM1, xM2, xM3, xM4, xM5, xM6, xM7, xM8, xM9, xM10, xM11, xM12, xM13, xM14, xM15]
def xp_mi1 : List xm_M := [xM16, xM17, xM18, xM19, xM20, xM21, xM22, xM23, xM24, xM25, xM26, xM27, xM28, xM29, xM30, xM31]
def xp_mi2 : List xm_M := [xM32, xM33, xM34, xM35, xM36, xM37, xM38, xM39, xM40, xM41, xM42, xM43, xM44, xM45, xM46, xM47]
def xp_mi3 : List xm_M := [xM48, xM49, xM50, xM51, xM52, xM53, xM54, xM55, xM56, xM57, xM58, xM59, xM60, xM61, xM62, xM63]
def xp_mi4 : List xm_M := [xM64, xM65, xM66, xM67, xM68, xM69, xM70, xM71, xM72, xM73, xM74, xM75, xM76, xM77, xM78, xM79]
def xp_mi5 : List xm_M := [xM80, xM81, xM82, xM83, xM84, xM85, xM86, xM87, xM88, xM89, xM90, xM91, xM92, xM93, xM94, xM95]
def xp_mi6 : List xm_M := [xM96, xM97, xM98, xM99, xM100, xM101, xM102, xM103, xM104, xM105, xM106, xM107, xM108, xM109, xM110, xM111]
def xp_mi7 : List xm_M := [xM112, xM113, xM114, xM115, xM116, xM117, xM118, xM119, xM120, xM121, xM122, xM123, xM124, xM125, xM126, xM127]
def xp_mi8 : List xm_M := [xM128, xM129, xM130, xM131, xM132, xM133, xM134, xM135, xM136, xM137, xM138, xM139, xM140, xM141, xM142, xM143]
def xp_mi9 : List xm_M := [xM144, xM145, xM146, xM147, xM148, xM149, xM150, xM151, xM152, xM153, xM154, xM155, xM156, xM157, xM158, xM159]
def xp_mi10 : List xm_M := [xM160, xM161, xM162, xM163, xM164, xM165, xM166, xM167, xM168, xM169, xM170, xM171, xM172, xM173, xM174, xM175]
def xp_mi11 : List xm_M := [xM176, xM177]
def xp_mi12 : List xm_M := [xM192]
def xp_miT : List (List xm_M) := [xp_mi0, xp_mi1, xp_mi2, xp_mi3, xp_mi4, xp_mi5, xp_mi6, xp_mi7, xp_mi8, xp_mi9, xp_mi10, xp_mi11, xp_mi12]
def xp_mi (j : Nat) : Option xm_M := match xp_miT[j / 16]? with
  | some l => l[j % 16]?
  | none => none
def xp_at {α : Type} (l : List (Nat × α)) (i : Nat) : Option α := match l with
  | [] => none
  | (k, v) :: r => if k = i then some v else xp_at r i
def xp_get {α : Type} (T : List (List (Nat × α × Nat))) (oc idx : Nat) : Option α := match T[oc]? with
  | some l => (match xp_at l idx with
    | some v => some v.1
    | none => none)
  | none => none
theorem xp_at_mem {α : Type} {l : List (Nat × α)} {i : Nat} {v : α} (h : xp_at l i = some v) : (i, v) ∈ l := by
  induction l with
  | nil => simp [xp_at] at h
  | cons q r ih =>
    obtain ⟨k, w⟩ := q
    unfold xp_at at h
    split at h
    · rename_i hk
      cases h; subst hk; exact List.mem_cons_self
    · exact List.mem_cons_of_mem _ (ih h)
def xp_flT : List (List (Nat × (Nat × Nat × Bool × FieldType) × Nat)) := [
  [(9, (0, 1, true, .array .int), 234), (15, (0, 2, true, .array .int), 235), (18, (0, 0, false, .int), 232)],
  [(9, (1, 1, true, .array .int), 160), (15, (1, 2, true, .array .int), 161), (18, (1, 3, true, .array .int), 162), (21, (1, 4, true, .array .boolean), 163), (25, (1, 5, true, .array .int), 164), (28, (1, 0, false, .int), 158)],
  [(9, (2, 1, true, .array .int), 87), (15, (2, 2, true, .array .int), 88), (18, (2, 3, true, .array .int), 89), (21, (2, 4, true, .array .int), 90), (24, (2, 0, false, .int), 85)],
  [(9, (3, 1, true, .array .int), 111), (15, (3, 2, true, .array .int), 112), (18, (3, 3, true, .array .int), 113), (21, (3, 4, true, .array .int), 114), (24, (3, 0, false, .int), 109)],
  [(9, (4, 1, true, .array .long), 213), (15, (4, 2, false, .array .int), 214), (19, (4, 3, false, .array .int), 215), (26, (4, 0, false, .int), 211)],
  [(9, (5, 1, true, .array .int), 134), (15, (5, 2, true, .array .int), 135), (18, (5, 3, true, .array .int), 136), (21, (5, 4, true, .array .int), 137), (24, (5, 5, true, .array .int), 138), (27, (5, 0, false, .int), 132)],
  [(9, (6, 1, true, .array .int), 187), (15, (6, 2, true, .array .int), 188), (18, (6, 3, true, .array .int), 189), (21, (6, 4, true, .array .int), 190), (24, (6, 5, true, .array .int), 191), (27, (6, 0, false, .int), 185)],
  [(10, (7, 0, true, .object "PackageModules$Modules"), 243), (19, (7, 1, true, .object "PackageModules$Packs"), 244), (26, (7, 2, true, .object "PackageModules$Types"), 245), (33, (7, 3, true, .object "PackageModules$Members"), 246), (40, (7, 4, true, .object "PackageModules$Units"), 247), (47, (7, 5, true, .object "PackageModules$Services"), 248), (54, (7, 6, true, .object "PackageModules$Layers"), 249), (218, (2, 0, false, .int), 86), (222, (3, 0, false, .int), 110), (223, (5, 0, false, .int), 133), (224, (1, 0, false, .int), 159), (225, (6, 0, false, .int), 186), (226, (0, 0, false, .int), 233), (316, (4, 0, false, .int), 212)],
  [(7, (8, 1, true, .array .int), 747), (13, (8, 3, true, .array .int), 749), (16, (8, 4, true, .array .int), 750), (19, (8, 5, true, .array .boolean), 751), (23, (8, 6, true, .array .boolean), 752), (26, (8, 8, true, .array .int), 754), (29, (8, 9, true, .array .int), 755), (32, (8, 10, true, .array .int), 756), (35, (8, 11, true, .array .int), 757), (38, (8, 12, true, .array .int), 758), (41, (8, 14, true, .array .int), 760), (44, (8, 15, true, .array .int), 761), (47, (8, 16, true, .array .int), 762), (50, (8, 17, true, .array .boolean), 763), (53, (8, 18, true, .array .int), 764), (56, (8, 20, true, .array .int), 766), (59, (8, 21, true, .array .int), 767), (62, (8, 22, true, .array .int), 768), (65, (8, 23, true, .array .int), 769), (68, (8, 24, true, .array .int), 770), (71, (8, 25, true, .array .boolean), 771), (74, (8, 27, true, .array .int), 773), (77, (8, 28, true, .array .int), 774), (80, (8, 29, true, .array .int), 775), (83, (8, 31, true, .array .int), 777), (86, (8, 32, true, .array .boolean), 778), (89, (8, 33, true, .array .boolean), 779), (92, (8, 0, false, .int), 746), (100, (8, 2, false, .int), 748), (103, (8, 7, false, .int), 753), (106, (8, 19, false, .int), 765), (109, (8, 13, false, .int), 759), (180, (8, 26, false, .int), 772), (215, (8, 30, false, .int), 776)],
  [],
  [],
  [],
  []]
def xp_fl (oc idx : Nat) : Option (Nat × Nat × Bool × FieldType) := xp_get xp_flT oc idx
def xp_msT : List (List (Nat × (Nat × Nat) × Nat)) := [
  [(22, (37, 2), 700), (30, (38, 2), 726)],
  [],
  [(28, (37, 2), 281), (32, (38, 2), 346)],
  [(28, (37, 2), 304), (32, (13, 1), 372), (36, (38, 2), 415)],
  [(22, (38, 2), 665), (30, (101, 2), 472)],
  [(31, (37, 2), 313)],
  [(31, (37, 2), 536)],
  [(66, (83, 1), 284), (76, (37, 2), 287), (97, (39, 1), 349), (142, (38, 2), 492), (145, (40, 1), 493), (190, (58, 1), 674)],
  [(96, (41, 3), 861), (116, (95, 1), 864), (147, (42, 1), 911)],
  [],
  [],
  [],
  []]
def xp_ms (oc idx : Nat) : Option (Nat × Nat) := xp_get xp_msT oc idx
def xp_mvT : List (List (Nat × (Nat × Nat) × Nat)) := [
  [(26, (0, 0), 717)],
  [],
  [(35, (67, 2), 342)],
  [(39, (72, 2), 416)],
  [],
  [],
  [(35, (32, 1), 619), (39, (33, 2), 609), (43, (34, 2), 610), (46, (35, 2), 611)],
  [(58, (7, 0), 269), (62, (65, 1), 277), (69, (10, 2), 288), (73, (9, 2), 292), (75, (69, 1), 300), (80, (113, 1), 305), (83, (20, 2), 314), (84, (19, 5), 318), (87, (77, 1), 309), (88, (3, 3), 326), (91, (2, 5), 330), (94, (102, 2), 338), (101, (66, 2), 352), (104, (8, 3), 356), (108, (21, 1), 364), (111, (70, 3), 368), (115, (11, 1), 375), (118, (71, 3), 379), (122, (160, 2), 387), (125, (14, 2), 420), (128, (15, 2), 424), (132, (174, 3), 432), (135, (106, 2), 468), (138, (103, 2), 407), (149, (136, 2), 403), (152, (73, 2), 504), (155, (137, 1), 512), (158, (29, 1), 524), (160, (79, 1), 532), (161, (114, 3), 537), (165, (32, 1), 541), (168, (172, 4), 545), (172, (80, 4), 615), (175, (87, 2), 569), (178, (30, 1), 553), (181, (173, 2), 624), (184, (162, 4), 636), (187, (141, 2), 649), (195, (119, 3), 688), (198, (60, 1), 696), (199, (0, 0), 701), (202, (1, 1), 705), (205, (161, 1), 709), (208, (61, 2), 713), (209, (62, 2), 722), (212, (142, 3), 731), (215, (26, 1), 399), (227, (22, 1), 395), (228, (105, 3), 411), (231, (84, 1), 391), (234, (12, 1), 516), (237, (85, 1), 549), (240, (138, 2), 557), (243, (115, 2), 561), (246, (139, 3), 585), (249, (81, 4), 605), (253, (23, 1), 565), (254, (116, 4), 589), (257, (86, 3), 593), (260, (4, 1), 601), (263, (5, 1), 436), (264, (25, 1), 597), (267, (31, 1), 573), (270, (33, 2), 577), (273, (34, 2), 581), (276, (117, 2), 628), (279, (140, 5), 640), (282, (35, 2), 644), (285, (88, 2), 440), (288, (89, 2), 452), (291, (16, 2), 464), (294, (6, 1), 444), (297, (28, 2), 448), (300, (24, 1), 456), (303, (27, 1), 460), (306, (104, 1), 653), (309, (118, 1), 657), (312, (75, 1), 661), (317, (17, 1), 666), (320, (18, 1), 670), (323, (72, 2), 735)],
  [(112, (91, 1), 857), (119, (44, 2), 867), (123, (92, 1), 875), (126, (93, 1), 879), (129, (45, 2), 883), (132, (46, 3), 891), (136, (51, 4), 907), (140, (50, 0), 899), (143, (96, 3), 903), (151, (52, 2), 938), (155, (97, 2), 934), (158, (47, 1), 942), (161, (48, 1), 946), (164, (123, 2), 922), (168, (126, 2), 930), (171, (145, 1), 958), (174, (49, 2), 974), (177, (147, 3), 970), (183, (54, 1), 990), (186, (53, 2), 994), (189, (98, 0), 986), (193, (128, 2), 982), (196, (55, 1), 1022), (199, (99, 4), 1026), (203, (94, 1), 1014), (206, (151, 4), 1018), (209, (152, 2), 1034), (212, (130, 4), 1042), (218, (100, 1), 1050), (221, (56, 2), 1054)],
  [],
  [],
  [],
  [(13, (82, 0), 265), (17, (43, 0), 849), (18, (108, 2), 273), (22, (120, 2), 853), (23, (132, 5), 296), (27, (121, 5), 871), (28, (133, 5), 322), (32, (122, 5), 887), (33, (134, 3), 334), (37, (124, 3), 895), (38, (109, 3), 360), (42, (125, 3), 914), (43, (168, 2), 383), (46, (146, 2), 962), (47, (175, 3), 428), (50, (164, 3), 966), (51, (135, 3), 488), (54, (143, 3), 918), (55, (169, 3), 496), (58, (144, 3), 926), (59, (110, 2), 500), (62, (127, 2), 950), (63, (155, 1), 508), (67, (163, 1), 954), (68, (111, 1), 520), (71, (129, 1), 1006), (72, (176, 4), 528), (76, (165, 4), 1010), (77, (177, 2), 620), (80, (166, 2), 1030), (81, (170, 3), 632), (84, (153, 3), 1038), (85, (156, 2), 645), (89, (148, 2), 978), (90, (157, 3), 680), (94, (149, 3), 998), (95, (158, 3), 684), (98, (150, 3), 1002), (99, (171, 3), 692), (102, (167, 3), 1046), (103, (112, 2), 718), (106, (131, 2), 1058), (107, (159, 4), 727), (110, (154, 4), 1062), (111, (36, 1), 736), (114, (57, 1), 1066)]]
def xp_mv (oc idx : Nat) : Option (Nat × Nat) := xp_get xp_mvT oc idx
def xp_mpT : List (List (Nat × (Nat × Nat) × Nat)) := [
  [],
  [],
  [],
  [],
  [],
  [],
  [],
  [(9, (64, 0), 81), (18, (68, 0), 105), (25, (76, 0), 128), (32, (63, 0), 154), (39, (78, 0), 181), (46, (74, 0), 207), (53, (59, 0), 228)],
  [],
  [],
  [],
  [],
  [(9, (107, 0), 73), (12, (90, 0), 742)]]
def xp_mp (oc idx : Nat) : Option (Nat × Nat) := xp_get xp_mpT oc idx
def xp_nwT : List (List (Nat × (Nat × List Value) × Nat)) := [
  [],
  [],
  [],
  [],
  [],
  [],
  [],
  [(7, (2, [.int 0, .null, .null, .null, .null]), 79), (16, (3, [.int 0, .null, .null, .null, .null]), 103), (23, (5, [.int 0, .null, .null, .null, .null, .null]), 126), (30, (1, [.int 0, .null, .null, .null, .null, .null]), 152), (37, (6, [.int 0, .null, .null, .null, .null, .null]), 179), (44, (4, [.int 0, .null, .null, .null]), 205), (51, (0, [.int 0, .null, .null]), 226)],
  [],
  [],
  [],
  [],
  [(7, (7, [.null, .null, .null, .null, .null, .null, .null]), 71), (10, (8, [.int 0, .null, .int 0, .null, .null, .null, .null, .int 0, .null, .null, .null, .null, .null, .int 0, .null, .null, .null, .null, .null, .int 0, .null, .null, .null, .null, .null, .null, .int 0, .null, .null, .null, .int 0, .null, .null, .null]), 740)]]
def xp_nw (oc idx : Nat) : Option (Nat × List Value) := xp_get xp_nwT oc idx
def xp_cnT : List (List (Nat × (Int32) × Nat)) := [
  [],
  [],
  [],
  [],
  [],
  [],
  [],
  [],
  [],
  [(265, 1431655765, 677), (266, 858993459, 678), (267, 252645135, 679)],
  [],
  [],
  []]
def xp_cn (oc idx : Nat) : Option (Int32) := xp_get xp_cnT oc idx
def xp_oiL : List (Nat × Nat) := [(0, 3), (1, 3), (2, 3), (3, 3), (4, 3), (5, 3), (6, 3), (7, 1), (8, 1)]
def xp_oi (oc idx : Nat) : Bool := decide ((oc, idx) ∈ xp_oiL)
def xp_acL : List (Nat × Nat) := [(11, 150)]
def xp_ac (oc idx : Nat) : Bool := decide ((oc, idx) ∈ xp_acL)
def xp_mmL : List (Nat × Nat) := [(11, 304)]
def xp_mm (oc idx : Nat) : Bool := decide ((oc, idx) ∈ xp_mmL)
