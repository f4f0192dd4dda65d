/-- the words that stay true whatever is resolved -/
def lw_tg : List Cond := lw_tbl.filter goodWord
set_option maxRecDepth 20000 in
theorem tw_0 : Cond.selects RJx4a65c yJx4a65c_add_72be8 yJx4a65c_add_72be8 ∈ lw_tg := List.mem_filter.mpr ⟨List.mem_append_left _ (List.mem_of_getElem? (i := 0) rfl), rfl⟩
set_option maxRecDepth 20000 in
theorem tw_1 : Cond.selects RJx4a65c yJx4a65c_grow_d5877 yJx4a65c_grow_d5877 ∈ lw_tg := List.mem_filter.mpr ⟨List.mem_append_left _ (List.mem_of_getElem? (i := 1) rfl), rfl⟩
set_option maxRecDepth 20000 in
theorem tw_2 : Cond.selects RJx4a65c yJx4a65c_grow_92f84 yJx4a65c_grow_92f84 ∈ lw_tg := List.mem_filter.mpr ⟨List.mem_append_left _ (List.mem_of_getElem? (i := 2) rfl), rfl⟩
set_option maxRecDepth 20000 in
theorem tw_3 : Cond.selects RX10 yX10_gangOf yX10_gangOf ∈ lw_tg := List.mem_filter.mpr ⟨List.mem_append_left _ (List.mem_of_getElem? (i := 3) rfl), rfl⟩
set_option maxRecDepth 20000 in
theorem tw_4 : Cond.selects RX10 yX10_gardenOf yX10_gardenOf ∈ lw_tg := List.mem_filter.mpr ⟨List.mem_append_left _ (List.mem_of_getElem? (i := 4) rfl), rfl⟩
set_option maxRecDepth 20000 in
theorem tw_5 : Cond.selects RX10 yX10_kilnOf yX10_kilnOf ∈ lw_tg := List.mem_filter.mpr ⟨List.mem_append_left _ (List.mem_of_getElem? (i := 5) rfl), rfl⟩
set_option maxRecDepth 20000 in
theorem tw_6 : Cond.selects RX10 yX10_passHour yX10_passHour ∈ lw_tg := List.mem_filter.mpr ⟨List.mem_append_left _ (List.mem_of_getElem? (i := 6) rfl), rfl⟩
set_option maxRecDepth 20000 in
theorem tw_7 : Cond.selects RX10 yX10_pickHour yX10_pickHour ∈ lw_tg := List.mem_filter.mpr ⟨List.mem_append_left _ (List.mem_of_getElem? (i := 7) rfl), rfl⟩
set_option maxRecDepth 20000 in
theorem tw_8 : Cond.selects RX10 yX10_dryHour yX10_dryHour ∈ lw_tg := List.mem_filter.mpr ⟨List.mem_append_left _ (List.mem_of_getElem? (i := 8) rfl), rfl⟩
set_option maxRecDepth 20000 in
theorem tw_9 : Cond.selects RX10 yX10_unload yX10_unload ∈ lw_tg := List.mem_filter.mpr ⟨List.mem_append_left _ (List.mem_of_getElem? (i := 9) rfl), rfl⟩
set_option maxRecDepth 20000 in
theorem tw_10 : Cond.selects RX10 yX10_loseHour yX10_loseHour ∈ lw_tg := List.mem_filter.mpr ⟨List.mem_append_left _ (List.mem_of_getElem? (i := 10) rfl), rfl⟩
set_option maxRecDepth 20000 in
theorem tw_11 : Cond.selects RX10 yX10_fillHour yX10_fillHour ∈ lw_tg := List.mem_filter.mpr ⟨List.mem_append_left _ (List.mem_of_getElem? (i := 11) rfl), rfl⟩
set_option maxRecDepth 20000 in
theorem tw_12 : Cond.selects RX10 yX10_fill yX10_fill ∈ lw_tg := List.mem_filter.mpr ⟨List.mem_append_left _ (List.mem_of_getElem? (i := 12) rfl), rfl⟩
set_option maxRecDepth 20000 in
theorem tw_13 : Cond.selects RX10 yX10_inKilnsOf yX10_inKilnsOf ∈ lw_tg := List.mem_filter.mpr ⟨List.mem_append_left _ (List.mem_of_getElem? (i := 13) rfl), rfl⟩
set_option maxRecDepth 20000 in
theorem tw_14 : Cond.selects RX10 yX10_chargedInAll yX10_chargedInAll ∈ lw_tg := List.mem_filter.mpr ⟨List.mem_append_left _ (List.mem_of_getElem? (i := 14) rfl), rfl⟩
set_option maxRecDepth 20000 in
theorem tw_15 : Cond.selects RX10 yX10_lostInAll yX10_lostInAll ∈ lw_tg := List.mem_filter.mpr ⟨List.mem_append_left _ (List.mem_of_getElem? (i := 15) rfl), rfl⟩
set_option maxRecDepth 20000 in
theorem tw_16 : Cond.selects RX10 yX10_payInAll yX10_payInAll ∈ lw_tg := List.mem_filter.mpr ⟨List.mem_append_left _ (List.mem_of_getElem? (i := 16) rfl), rfl⟩
set_option maxRecDepth 20000 in
theorem tw_17 : Cond.selects RX11 yX11_isGang yX11_isGang ∈ lw_tg := List.mem_filter.mpr ⟨List.mem_append_left _ (List.mem_of_getElem? (i := 17) rfl), rfl⟩
set_option maxRecDepth 20000 in
theorem tw_18 : Cond.selects RX11 yX11_isGarden yX11_isGarden ∈ lw_tg := List.mem_filter.mpr ⟨List.mem_append_left _ (List.mem_of_getElem? (i := 18) rfl), rfl⟩
set_option maxRecDepth 20000 in
theorem tw_19 : Cond.selects RX11 yX11_isKiln yX11_isKiln ∈ lw_tg := List.mem_filter.mpr ⟨List.mem_append_left _ (List.mem_of_getElem? (i := 19) rfl), rfl⟩
set_option maxRecDepth 20000 in
theorem tw_20 : Cond.selects RX11 yX11_oneHour yX11_oneHour ∈ lw_tg := List.mem_filter.mpr ⟨List.mem_append_left _ (List.mem_of_getElem? (i := 20) rfl), rfl⟩
set_option maxRecDepth 20000 in
theorem tw_21 : Cond.selects RX11 yX11_picks yX11_picks ∈ lw_tg := List.mem_filter.mpr ⟨List.mem_append_left _ (List.mem_of_getElem? (i := 21) rfl), rfl⟩
set_option maxRecDepth 20000 in
theorem tw_22 : Cond.selects RX11 yX11_isRipe yX11_isRipe ∈ lw_tg := List.mem_filter.mpr ⟨List.mem_append_left _ (List.mem_of_getElem? (i := 22) rfl), rfl⟩
set_option maxRecDepth 20000 in
theorem tw_23 : Cond.selects RX11 yX11_priceAt yX11_priceAt ∈ lw_tg := List.mem_filter.mpr ⟨List.mem_append_left _ (List.mem_of_getElem? (i := 23) rfl), rfl⟩
set_option maxRecDepth 20000 in
theorem tw_24 : Cond.selects RX11 yX11_dries yX11_dries ∈ lw_tg := List.mem_filter.mpr ⟨List.mem_append_left _ (List.mem_of_getElem? (i := 24) rfl), rfl⟩
set_option maxRecDepth 20000 in
theorem tw_25 : Cond.selects RX11 yX11_presses yX11_presses ∈ lw_tg := List.mem_filter.mpr ⟨List.mem_append_left _ (List.mem_of_getElem? (i := 25) rfl), rfl⟩
set_option maxRecDepth 20000 in
theorem tw_26 : Cond.selects RX11 yX11_spoils yX11_spoils ∈ lw_tg := List.mem_filter.mpr ⟨List.mem_append_left _ (List.mem_of_getElem? (i := 26) rfl), rfl⟩
set_option maxRecDepth 20000 in
theorem tw_27 : Cond.selects RX11 yX11_takes yX11_takes ∈ lw_tg := List.mem_filter.mpr ⟨List.mem_append_left _ (List.mem_of_getElem? (i := 27) rfl), rfl⟩
set_option maxRecDepth 20000 in
theorem tw_28 : Cond.selects RX11 yX11_greenOf yX11_greenOf ∈ lw_tg := List.mem_filter.mpr ⟨List.mem_append_left _ (List.mem_of_getElem? (i := 28) rfl), rfl⟩
set_option maxRecDepth 20000 in
theorem tw_29 : Cond.selects RX11 yX11_inKilns yX11_inKilns ∈ lw_tg := List.mem_filter.mpr ⟨List.mem_append_left _ (List.mem_of_getElem? (i := 29) rfl), rfl⟩
set_option maxRecDepth 20000 in
theorem tw_30 : Cond.selects RX11 yX11_ledPockets yX11_ledPockets ∈ lw_tg := List.mem_filter.mpr ⟨List.mem_append_left _ (List.mem_of_getElem? (i := 30) rfl), rfl⟩
set_option maxRecDepth 20000 in
theorem tw_31 : Cond.selects RX11 yX11_dutyOn yX11_dutyOn ∈ lw_tg := List.mem_filter.mpr ⟨List.mem_append_left _ (List.mem_of_getElem? (i := 31) rfl), rfl⟩
set_option maxRecDepth 20000 in
theorem tw_32 : Cond.selects RX11 yX11_picksBy yX11_picksBy ∈ lw_tg := List.mem_filter.mpr ⟨List.mem_append_left _ (List.mem_of_getElem? (i := 32) rfl), rfl⟩
set_option maxRecDepth 20000 in
theorem tw_33 : Cond.initialized RL ∈ lw_tg := List.mem_filter.mpr ⟨List.mem_append_right _ (List.mem_of_getElem? (i := 0) rfl), rfl⟩
set_option maxRecDepth 20000 in
theorem tw_34 : Cond.initialized RX10 ∈ lw_tg := List.mem_filter.mpr ⟨List.mem_append_right _ (List.mem_of_getElem? (i := 1) rfl), rfl⟩
set_option maxRecDepth 20000 in
theorem tw_35 : Cond.initialized RJxa1e45 ∈ lw_tg := List.mem_filter.mpr ⟨List.mem_append_right _ (List.mem_of_getElem? (i := 2) rfl), rfl⟩
set_option maxRecDepth 20000 in
theorem tw_36 : Cond.initialized RJxc12de ∈ lw_tg := List.mem_filter.mpr ⟨List.mem_append_right _ (List.mem_of_getElem? (i := 3) rfl), rfl⟩
set_option maxRecDepth 20000 in
theorem tw_37 : Cond.initialized RJx4a65c ∈ lw_tg := List.mem_filter.mpr ⟨List.mem_append_right _ (List.mem_of_getElem? (i := 4) rfl), rfl⟩
set_option maxRecDepth 20000 in
theorem tw_38 : Cond.initialized RX5 ∈ lw_tg := List.mem_filter.mpr ⟨List.mem_append_right _ (List.mem_of_getElem? (i := 5) rfl), rfl⟩
set_option maxRecDepth 20000 in
theorem tw_39 : Cond.initialized RX9 ∈ lw_tg := List.mem_filter.mpr ⟨List.mem_append_right _ (List.mem_of_getElem? (i := 6) rfl), rfl⟩
set_option maxRecDepth 20000 in
theorem tw_40 : Cond.initialized RX7 ∈ lw_tg := List.mem_filter.mpr ⟨List.mem_append_right _ (List.mem_of_getElem? (i := 7) rfl), rfl⟩
set_option maxRecDepth 20000 in
theorem tw_41 : Cond.initialized RX0 ∈ lw_tg := List.mem_filter.mpr ⟨List.mem_append_right _ (List.mem_of_getElem? (i := 8) rfl), rfl⟩
set_option maxRecDepth 20000 in
theorem tw_42 : Cond.initialized RX11 ∈ lw_tg := List.mem_filter.mpr ⟨List.mem_append_right _ (List.mem_of_getElem? (i := 9) rfl), rfl⟩
set_option maxRecDepth 20000 in
theorem tw_43 : Cond.initialized RX4 ∈ lw_tg := List.mem_filter.mpr ⟨List.mem_append_right _ (List.mem_of_getElem? (i := 10) rfl), rfl⟩
set_option maxRecDepth 20000 in
theorem tw_44 : Cond.initialized RJ8 ∈ lw_tg := List.mem_filter.mpr ⟨List.mem_append_right _ (List.mem_of_getElem? (i := 11) rfl), rfl⟩
set_option maxRecDepth 20000 in
theorem tw_45 : Cond.initialized RJ9 ∈ lw_tg := List.mem_filter.mpr ⟨List.mem_append_right _ (List.mem_of_getElem? (i := 12) rfl), rfl⟩
set_option maxRecDepth 20000 in
theorem tw_46 : Cond.initialized RJ7 ∈ lw_tg := List.mem_filter.mpr ⟨List.mem_append_right _ (List.mem_of_getElem? (i := 13) rfl), rfl⟩
set_option maxRecDepth 20000 in
theorem tw_47 : Cond.initialized RJ10 ∈ lw_tg := List.mem_filter.mpr ⟨List.mem_append_right _ (List.mem_of_getElem? (i := 14) rfl), rfl⟩
set_option maxRecDepth 20000 in
theorem tw_48 : Cond.initialized RX3 ∈ lw_tg := List.mem_filter.mpr ⟨List.mem_append_right _ (List.mem_of_getElem? (i := 15) rfl), rfl⟩
set_option maxRecDepth 20000 in
theorem tw_49 : Cond.initialized RJ15 ∈ lw_tg := List.mem_filter.mpr ⟨List.mem_append_right _ (List.mem_of_getElem? (i := 16) rfl), rfl⟩
set_option maxRecDepth 20000 in
theorem tw_50 : Cond.initialized RJ3 ∈ lw_tg := List.mem_filter.mpr ⟨List.mem_append_right _ (List.mem_of_getElem? (i := 17) rfl), rfl⟩
set_option maxRecDepth 20000 in
theorem tw_51 : Cond.initialized RX6 ∈ lw_tg := List.mem_filter.mpr ⟨List.mem_append_right _ (List.mem_of_getElem? (i := 18) rfl), rfl⟩
set_option maxRecDepth 20000 in
theorem tw_52 : Cond.initialized RX8 ∈ lw_tg := List.mem_filter.mpr ⟨List.mem_append_right _ (List.mem_of_getElem? (i := 19) rfl), rfl⟩
set_option maxRecDepth 20000 in
theorem tw_53 : Cond.initialized RX2 ∈ lw_tg := List.mem_filter.mpr ⟨List.mem_append_right _ (List.mem_of_getElem? (i := 20) rfl), rfl⟩
set_option maxRecDepth 20000 in
theorem tw_54 : Cond.initialized RX1 ∈ lw_tg := List.mem_filter.mpr ⟨List.mem_append_right _ (List.mem_of_getElem? (i := 21) rfl), rfl⟩
set_option maxRecDepth 20000 in
theorem tw_55 : Cond.classLink RL 7 RX10 ∈ lw_tg := List.mem_filter.mpr ⟨List.mem_append_right _ (List.mem_of_getElem? (i := 22) rfl), rfl⟩
set_option maxRecDepth 20000 in
theorem tw_56 : Cond.instantiable RX10 11 ∈ lw_tg := List.mem_filter.mpr ⟨List.mem_append_right _ (List.mem_of_getElem? (i := 23) rfl), rfl⟩
set_option maxRecDepth 20000 in
theorem tw_57 : Cond.methodLink RL 9 yX10_init ∈ lw_tg := List.mem_filter.mpr ⟨List.mem_append_right _ (List.mem_of_getElem? (i := 24) rfl), rfl⟩
set_option maxRecDepth 20000 in
theorem tw_58 : Cond.instanceMethod yX10_init ∈ lw_tg := List.mem_filter.mpr ⟨List.mem_append_right _ (List.mem_of_getElem? (i := 25) rfl), rfl⟩
set_option maxRecDepth 20000 in
theorem tw_59 : Cond.code yX10_init cX10_init 1 none ∈ lw_tg := List.mem_filter.mpr ⟨List.mem_append_right _ (List.mem_of_getElem? (i := 26) rfl), rfl⟩
set_option maxRecDepth 20000 in
theorem tw_60 : Cond.methodLink RX10 1 objectInit ∈ lw_tg := List.mem_filter.mpr ⟨List.mem_append_right _ (List.mem_of_getElem? (i := 27) rfl), rfl⟩
set_option maxRecDepth 20000 in
theorem tw_61 : Cond.instanceMethod objectInit ∈ lw_tg := List.mem_filter.mpr ⟨List.mem_append_right _ (List.mem_of_getElem? (i := 28) rfl), rfl⟩
set_option maxRecDepth 20000 in
theorem tw_62 : Cond.code objectInit ⟨#[0xb1]⟩ 1 none ∈ lw_tg := List.mem_filter.mpr ⟨List.mem_append_right _ (List.mem_of_getElem? (i := 29) rfl), rfl⟩
set_option maxRecDepth 20000 in
theorem tw_63 : Cond.classLink RX10 7 RJx4a65c ∈ lw_tg := List.mem_filter.mpr ⟨List.mem_append_right _ (List.mem_of_getElem? (i := 30) rfl), rfl⟩
set_option maxRecDepth 20000 in
theorem tw_64 : Cond.instantiable RJx4a65c 3 ∈ lw_tg := List.mem_filter.mpr ⟨List.mem_append_right _ (List.mem_of_getElem? (i := 31) rfl), rfl⟩
set_option maxRecDepth 20000 in
theorem tw_65 : Cond.methodLink RX10 9 yJx4a65c_init_da8c8 ∈ lw_tg := List.mem_filter.mpr ⟨List.mem_append_right _ (List.mem_of_getElem? (i := 32) rfl), rfl⟩
set_option maxRecDepth 20000 in
theorem tw_66 : Cond.instanceMethod yJx4a65c_init_da8c8 ∈ lw_tg := List.mem_filter.mpr ⟨List.mem_append_right _ (List.mem_of_getElem? (i := 33) rfl), rfl⟩
set_option maxRecDepth 20000 in
theorem tw_67 : Cond.code yJx4a65c_init_da8c8 cJx4a65c_init_da8c8 1 none ∈ lw_tg := List.mem_filter.mpr ⟨List.mem_append_right _ (List.mem_of_getElem? (i := 34) rfl), rfl⟩
set_option maxRecDepth 20000 in
theorem tw_68 : Cond.methodLink RJx4a65c 1 yJxc12de_init_da8c8 ∈ lw_tg := List.mem_filter.mpr ⟨List.mem_append_right _ (List.mem_of_getElem? (i := 35) rfl), rfl⟩
set_option maxRecDepth 20000 in
theorem tw_69 : Cond.instanceMethod yJxc12de_init_da8c8 ∈ lw_tg := List.mem_filter.mpr ⟨List.mem_append_right _ (List.mem_of_getElem? (i := 36) rfl), rfl⟩
set_option maxRecDepth 20000 in
theorem tw_70 : Cond.code yJxc12de_init_da8c8 cJxc12de_init_da8c8 1 none ∈ lw_tg := List.mem_filter.mpr ⟨List.mem_append_right _ (List.mem_of_getElem? (i := 37) rfl), rfl⟩
set_option maxRecDepth 20000 in
theorem tw_71 : Cond.methodLink RJxc12de 1 yJxa1e45_init_da8c8 ∈ lw_tg := List.mem_filter.mpr ⟨List.mem_append_right _ (List.mem_of_getElem? (i := 38) rfl), rfl⟩
set_option maxRecDepth 20000 in
theorem tw_72 : Cond.instanceMethod yJxa1e45_init_da8c8 ∈ lw_tg := List.mem_filter.mpr ⟨List.mem_append_right _ (List.mem_of_getElem? (i := 39) rfl), rfl⟩
set_option maxRecDepth 20000 in
theorem tw_73 : Cond.code yJxa1e45_init_da8c8 cJxa1e45_init_da8c8 1 none ∈ lw_tg := List.mem_filter.mpr ⟨List.mem_append_right _ (List.mem_of_getElem? (i := 40) rfl), rfl⟩
set_option maxRecDepth 20000 in
theorem tw_74 : Cond.methodLink RJxa1e45 1 objectInit ∈ lw_tg := List.mem_filter.mpr ⟨List.mem_append_right _ (List.mem_of_getElem? (i := 41) rfl), rfl⟩
set_option maxRecDepth 20000 in
theorem tw_75 : Cond.fieldLink RJx4a65c 39 "java/util/ArrayList" "DEFAULTCAPACITY_EMPTY_ELEMENTDATA" "[Ljava/lang/Object;" ∈ lw_tg := List.mem_filter.mpr ⟨List.mem_append_right _ (List.mem_of_getElem? (i := 42) rfl), rfl⟩
set_option maxRecDepth 20000 in
theorem tw_76 : Cond.laysStatic "java/util/ArrayList" "DEFAULTCAPACITY_EMPTY_ELEMENTDATA" "[Ljava/lang/Object;" ∈ lw_tbl := List.mem_append_right _ (List.mem_of_getElem? (i := 43) rfl)
set_option maxRecDepth 20000 in
theorem tw_77 : Cond.fieldLink RJx4a65c 9 "java/util/ArrayList" "elementData" "[Ljava/lang/Object;" ∈ lw_tg := List.mem_filter.mpr ⟨List.mem_append_right _ (List.mem_of_getElem? (i := 44) rfl), rfl⟩
set_option maxRecDepth 20000 in
theorem tw_78 : Cond.fieldLink RJx4a65c 48 "java/util/ArrayList" "size" "I" ∈ lw_tg := List.mem_filter.mpr ⟨List.mem_append_right _ (List.mem_of_getElem? (i := 45) rfl), rfl⟩
set_option maxRecDepth 20000 in
theorem tw_79 : Cond.fieldLink RJxc12de 7 "java/util/AbstractList" "modCount" "I" ∈ lw_tg := List.mem_filter.mpr ⟨List.mem_append_right _ (List.mem_of_getElem? (i := 46) rfl), rfl⟩
set_option maxRecDepth 20000 in
theorem tw_80 : Cond.fieldLink RJx4a65c 63 "java/util/ArrayList" "modCount" "I" ∈ lw_tg := List.mem_filter.mpr ⟨List.mem_append_right _ (List.mem_of_getElem? (i := 47) rfl), rfl⟩
set_option maxRecDepth 20000 in
theorem tw_81 : Cond.sameField "java/util/ArrayList" "java/util/AbstractList" "modCount" "I" ∈ lw_tg := List.mem_filter.mpr ⟨List.mem_append_right _ (List.mem_of_getElem? (i := 48) rfl), rfl⟩
set_option maxRecDepth 20000 in
theorem tw_82 : Cond.lays RJx4a65c "java/util/ArrayList" "elementData" "[Ljava/lang/Object;" ∈ lw_tg := List.mem_filter.mpr ⟨List.mem_append_right _ (List.mem_of_getElem? (i := 49) rfl), rfl⟩
set_option maxRecDepth 20000 in
theorem tw_84 : Cond.lays RJx4a65c "java/util/ArrayList" "size" "I" ∈ lw_tg := List.mem_filter.mpr ⟨List.mem_append_right _ (List.mem_of_getElem? (i := 51) rfl), rfl⟩
set_option maxRecDepth 20000 in
theorem tw_86 : Cond.lays RJx4a65c "java/util/AbstractList" "modCount" "I" ∈ lw_tg := List.mem_filter.mpr ⟨List.mem_append_right _ (List.mem_of_getElem? (i := 53) rfl), rfl⟩
set_option maxRecDepth 20000 in
theorem tw_88 : Cond.superclass "java/util/ArrayList" "java/util/AbstractList" ∈ lw_tg := List.mem_filter.mpr ⟨List.mem_append_right _ (List.mem_of_getElem? (i := 55) rfl), rfl⟩
set_option maxRecDepth 20000 in
theorem tw_89 : Cond.classLink RX10 22 RX5 ∈ lw_tg := List.mem_filter.mpr ⟨List.mem_append_right _ (List.mem_of_getElem? (i := 56) rfl), rfl⟩
set_option maxRecDepth 20000 in
theorem tw_90 : Cond.instantiable RX5 2 ∈ lw_tg := List.mem_filter.mpr ⟨List.mem_append_right _ (List.mem_of_getElem? (i := 57) rfl), rfl⟩
set_option maxRecDepth 20000 in
theorem tw_91 : Cond.methodLink RX10 24 yX5_init ∈ lw_tg := List.mem_filter.mpr ⟨List.mem_append_right _ (List.mem_of_getElem? (i := 58) rfl), rfl⟩
set_option maxRecDepth 20000 in
theorem tw_92 : Cond.instanceMethod yX5_init ∈ lw_tg := List.mem_filter.mpr ⟨List.mem_append_right _ (List.mem_of_getElem? (i := 59) rfl), rfl⟩
set_option maxRecDepth 20000 in
theorem tw_93 : Cond.code yX5_init cX5_init 1 none ∈ lw_tg := List.mem_filter.mpr ⟨List.mem_append_right _ (List.mem_of_getElem? (i := 60) rfl), rfl⟩
set_option maxRecDepth 20000 in
theorem tw_94 : Cond.methodLink RX5 3 objectInit ∈ lw_tg := List.mem_filter.mpr ⟨List.mem_append_right _ (List.mem_of_getElem? (i := 61) rfl), rfl⟩
set_option maxRecDepth 20000 in
theorem tw_95 : Cond.fieldLink RX5 11 "HopYard$GreenHops" "bushels" "[I" ∈ lw_tg := List.mem_filter.mpr ⟨List.mem_append_right _ (List.mem_of_getElem? (i := 62) rfl), rfl⟩
set_option maxRecDepth 20000 in
theorem tw_96 : Cond.fieldLink RX5 28 "HopYard$GreenHops" "inAll" "I" ∈ lw_tg := List.mem_filter.mpr ⟨List.mem_append_right _ (List.mem_of_getElem? (i := 63) rfl), rfl⟩
set_option maxRecDepth 20000 in
theorem tw_97 : Cond.fieldLink RX10 192 "HopYard$GreenHops" "inAll" "I" ∈ lw_tg := List.mem_filter.mpr ⟨List.mem_append_right _ (List.mem_of_getElem? (i := 64) rfl), rfl⟩
set_option maxRecDepth 20000 in
theorem tw_98 : Cond.laysFinal RX5 "HopYard$GreenHops" "bushels" "[I" ∈ lw_tg := List.mem_filter.mpr ⟨List.mem_append_right _ (List.mem_of_getElem? (i := 65) rfl), rfl⟩
set_option maxRecDepth 20000 in
theorem tw_100 : Cond.lays RX5 "HopYard$GreenHops" "inAll" "I" ∈ lw_tg := List.mem_filter.mpr ⟨List.mem_append_right _ (List.mem_of_getElem? (i := 67) rfl), rfl⟩
set_option maxRecDepth 20000 in
theorem tw_102 : Cond.superclass "HopYard$GreenHops" "java/lang/Object" ∈ lw_tg := List.mem_filter.mpr ⟨List.mem_append_right _ (List.mem_of_getElem? (i := 69) rfl), rfl⟩
set_option maxRecDepth 20000 in
theorem tw_103 : Cond.arrayClass FieldType.int ∈ lw_tg := List.mem_filter.mpr ⟨List.mem_append_right _ (List.mem_of_getElem? (i := 70) rfl), rfl⟩
set_option maxRecDepth 20000 in
theorem tw_104 : Cond.classLink RX10 29 RX9 ∈ lw_tg := List.mem_filter.mpr ⟨List.mem_append_right _ (List.mem_of_getElem? (i := 71) rfl), rfl⟩
set_option maxRecDepth 20000 in
theorem tw_105 : Cond.instantiable RX9 5 ∈ lw_tg := List.mem_filter.mpr ⟨List.mem_append_right _ (List.mem_of_getElem? (i := 72) rfl), rfl⟩
set_option maxRecDepth 20000 in
theorem tw_106 : Cond.methodLink RX10 31 yX9_init ∈ lw_tg := List.mem_filter.mpr ⟨List.mem_append_right _ (List.mem_of_getElem? (i := 73) rfl), rfl⟩
set_option maxRecDepth 20000 in
theorem tw_107 : Cond.instanceMethod yX9_init ∈ lw_tg := List.mem_filter.mpr ⟨List.mem_append_right _ (List.mem_of_getElem? (i := 74) rfl), rfl⟩
set_option maxRecDepth 20000 in
theorem tw_108 : Cond.code yX9_init cX9_init 1 none ∈ lw_tg := List.mem_filter.mpr ⟨List.mem_append_right _ (List.mem_of_getElem? (i := 75) rfl), rfl⟩
set_option maxRecDepth 20000 in
theorem tw_109 : Cond.methodLink RX9 3 objectInit ∈ lw_tg := List.mem_filter.mpr ⟨List.mem_append_right _ (List.mem_of_getElem? (i := 76) rfl), rfl⟩
set_option maxRecDepth 20000 in
theorem tw_110 : Cond.fieldLink RX9 9 "HopYard$Press" "gardens" "[I" ∈ lw_tg := List.mem_filter.mpr ⟨List.mem_append_right _ (List.mem_of_getElem? (i := 77) rfl), rfl⟩
set_option maxRecDepth 20000 in
theorem tw_111 : Cond.fieldLink RX10 171 "HopYard$Press" "gardens" "[I" ∈ lw_tg := List.mem_filter.mpr ⟨List.mem_append_right _ (List.mem_of_getElem? (i := 78) rfl), rfl⟩
set_option maxRecDepth 20000 in
theorem tw_112 : Cond.fieldLink RX9 15 "HopYard$Press" "days" "[I" ∈ lw_tg := List.mem_filter.mpr ⟨List.mem_append_right _ (List.mem_of_getElem? (i := 79) rfl), rfl⟩
set_option maxRecDepth 20000 in
theorem tw_113 : Cond.fieldLink RX10 174 "HopYard$Press" "days" "[I" ∈ lw_tg := List.mem_filter.mpr ⟨List.mem_append_right _ (List.mem_of_getElem? (i := 80) rfl), rfl⟩
set_option maxRecDepth 20000 in
theorem tw_114 : Cond.fieldLink RX9 18 "HopYard$Press" "pressed" "I" ∈ lw_tg := List.mem_filter.mpr ⟨List.mem_append_right _ (List.mem_of_getElem? (i := 81) rfl), rfl⟩
set_option maxRecDepth 20000 in
theorem tw_115 : Cond.fieldLink RX10 180 "HopYard$Press" "pressed" "I" ∈ lw_tg := List.mem_filter.mpr ⟨List.mem_append_right _ (List.mem_of_getElem? (i := 82) rfl), rfl⟩
set_option maxRecDepth 20000 in
theorem tw_116 : Cond.fieldLink RX9 31 "HopYard$Press" "loose" "I" ∈ lw_tg := List.mem_filter.mpr ⟨List.mem_append_right _ (List.mem_of_getElem? (i := 83) rfl), rfl⟩
set_option maxRecDepth 20000 in
theorem tw_117 : Cond.fieldLink RX10 183 "HopYard$Press" "loose" "I" ∈ lw_tg := List.mem_filter.mpr ⟨List.mem_append_right _ (List.mem_of_getElem? (i := 84) rfl), rfl⟩
set_option maxRecDepth 20000 in
theorem tw_118 : Cond.fieldLink RX9 28 "HopYard$Press" "looseGardens" "I" ∈ lw_tg := List.mem_filter.mpr ⟨List.mem_append_right _ (List.mem_of_getElem? (i := 85) rfl), rfl⟩
set_option maxRecDepth 20000 in
theorem tw_119 : Cond.laysFinal RX9 "HopYard$Press" "gardens" "[I" ∈ lw_tg := List.mem_filter.mpr ⟨List.mem_append_right _ (List.mem_of_getElem? (i := 86) rfl), rfl⟩
set_option maxRecDepth 20000 in
theorem tw_121 : Cond.laysFinal RX9 "HopYard$Press" "days" "[I" ∈ lw_tg := List.mem_filter.mpr ⟨List.mem_append_right _ (List.mem_of_getElem? (i := 88) rfl), rfl⟩
set_option maxRecDepth 20000 in
theorem tw_123 : Cond.lays RX9 "HopYard$Press" "pressed" "I" ∈ lw_tg := List.mem_filter.mpr ⟨List.mem_append_right _ (List.mem_of_getElem? (i := 90) rfl), rfl⟩
set_option maxRecDepth 20000 in
theorem tw_125 : Cond.lays RX9 "HopYard$Press" "loose" "I" ∈ lw_tg := List.mem_filter.mpr ⟨List.mem_append_right _ (List.mem_of_getElem? (i := 92) rfl), rfl⟩
set_option maxRecDepth 20000 in
theorem tw_127 : Cond.lays RX9 "HopYard$Press" "looseGardens" "I" ∈ lw_tg := List.mem_filter.mpr ⟨List.mem_append_right _ (List.mem_of_getElem? (i := 94) rfl), rfl⟩
set_option maxRecDepth 20000 in
theorem tw_129 : Cond.superclass "HopYard$Press" "java/lang/Object" ∈ lw_tg := List.mem_filter.mpr ⟨List.mem_append_right _ (List.mem_of_getElem? (i := 96) rfl), rfl⟩
set_option maxRecDepth 20000 in
theorem tw_130 : Cond.classLink RX10 36 RX7 ∈ lw_tg := List.mem_filter.mpr ⟨List.mem_append_right _ (List.mem_of_getElem? (i := 97) rfl), rfl⟩
set_option maxRecDepth 20000 in
theorem tw_131 : Cond.instantiable RX7 4 ∈ lw_tg := List.mem_filter.mpr ⟨List.mem_append_right _ (List.mem_of_getElem? (i := 98) rfl), rfl⟩
set_option maxRecDepth 20000 in
theorem tw_132 : Cond.methodLink RX10 38 yX7_init ∈ lw_tg := List.mem_filter.mpr ⟨List.mem_append_right _ (List.mem_of_getElem? (i := 99) rfl), rfl⟩
set_option maxRecDepth 20000 in
theorem tw_133 : Cond.instanceMethod yX7_init ∈ lw_tg := List.mem_filter.mpr ⟨List.mem_append_right _ (List.mem_of_getElem? (i := 100) rfl), rfl⟩
set_option maxRecDepth 20000 in
theorem tw_134 : Cond.code yX7_init cX7_init 2 none ∈ lw_tg := List.mem_filter.mpr ⟨List.mem_append_right _ (List.mem_of_getElem? (i := 101) rfl), rfl⟩
set_option maxRecDepth 20000 in
theorem tw_135 : Cond.methodLink RX7 3 objectInit ∈ lw_tg := List.mem_filter.mpr ⟨List.mem_append_right _ (List.mem_of_getElem? (i := 102) rfl), rfl⟩
set_option maxRecDepth 20000 in
theorem tw_136 : Cond.fieldLink RX7 15 "HopYard$Notices" "from" "[I" ∈ lw_tg := List.mem_filter.mpr ⟨List.mem_append_right _ (List.mem_of_getElem? (i := 103) rfl), rfl⟩
set_option maxRecDepth 20000 in
theorem tw_137 : Cond.fieldLink RX7 19 "HopYard$Notices" "number" "[I" ∈ lw_tg := List.mem_filter.mpr ⟨List.mem_append_right _ (List.mem_of_getElem? (i := 104) rfl), rfl⟩
set_option maxRecDepth 20000 in
theorem tw_138 : Cond.fieldLink RX7 9 "HopYard$Notices" "first" "I" ∈ lw_tg := List.mem_filter.mpr ⟨List.mem_append_right _ (List.mem_of_getElem? (i := 105) rfl), rfl⟩
set_option maxRecDepth 20000 in
theorem tw_139 : Cond.fieldLink RX7 22 "HopYard$Notices" "count" "I" ∈ lw_tg := List.mem_filter.mpr ⟨List.mem_append_right _ (List.mem_of_getElem? (i := 106) rfl), rfl⟩
set_option maxRecDepth 20000 in
theorem tw_140 : Cond.laysFinal RX7 "HopYard$Notices" "from" "[I" ∈ lw_tg := List.mem_filter.mpr ⟨List.mem_append_right _ (List.mem_of_getElem? (i := 107) rfl), rfl⟩
set_option maxRecDepth 20000 in
theorem tw_142 : Cond.laysFinal RX7 "HopYard$Notices" "number" "[I" ∈ lw_tg := List.mem_filter.mpr ⟨List.mem_append_right _ (List.mem_of_getElem? (i := 109) rfl), rfl⟩
set_option maxRecDepth 20000 in
theorem tw_144 : Cond.laysFinal RX7 "HopYard$Notices" "first" "I" ∈ lw_tg := List.mem_filter.mpr ⟨List.mem_append_right _ (List.mem_of_getElem? (i := 111) rfl), rfl⟩
set_option maxRecDepth 20000 in
theorem tw_146 : Cond.lays RX7 "HopYard$Notices" "count" "I" ∈ lw_tg := List.mem_filter.mpr ⟨List.mem_append_right _ (List.mem_of_getElem? (i := 113) rfl), rfl⟩
set_option maxRecDepth 20000 in
theorem tw_148 : Cond.superclass "HopYard$Notices" "java/lang/Object" ∈ lw_tg := List.mem_filter.mpr ⟨List.mem_append_right _ (List.mem_of_getElem? (i := 115) rfl), rfl⟩
set_option maxRecDepth 20000 in
theorem tw_149 : Cond.classLink RX10 48 RX0 ∈ lw_tg := List.mem_filter.mpr ⟨List.mem_append_right _ (List.mem_of_getElem? (i := 116) rfl), rfl⟩
set_option maxRecDepth 20000 in
theorem tw_150 : Cond.instantiable RX0 4 ∈ lw_tg := List.mem_filter.mpr ⟨List.mem_append_right _ (List.mem_of_getElem? (i := 117) rfl), rfl⟩
set_option maxRecDepth 20000 in
theorem tw_151 : Cond.methodLink RX10 50 yX0_init ∈ lw_tg := List.mem_filter.mpr ⟨List.mem_append_right _ (List.mem_of_getElem? (i := 118) rfl), rfl⟩
set_option maxRecDepth 20000 in
theorem tw_152 : Cond.instanceMethod yX0_init ∈ lw_tg := List.mem_filter.mpr ⟨List.mem_append_right _ (List.mem_of_getElem? (i := 119) rfl), rfl⟩
set_option maxRecDepth 20000 in
theorem tw_153 : Cond.code yX0_init cX0_init 1 none ∈ lw_tg := List.mem_filter.mpr ⟨List.mem_append_right _ (List.mem_of_getElem? (i := 120) rfl), rfl⟩
set_option maxRecDepth 20000 in
theorem tw_154 : Cond.methodLink RX0 3 objectInit ∈ lw_tg := List.mem_filter.mpr ⟨List.mem_append_right _ (List.mem_of_getElem? (i := 121) rfl), rfl⟩
set_option maxRecDepth 20000 in
theorem tw_155 : Cond.fieldLink RX0 11 "HopYard$Allotment" "rates" "[I" ∈ lw_tg := List.mem_filter.mpr ⟨List.mem_append_right _ (List.mem_of_getElem? (i := 122) rfl), rfl⟩
set_option maxRecDepth 20000 in
theorem tw_156 : Cond.fieldLink RX0 15 "HopYard$Allotment" "places" "[I" ∈ lw_tg := List.mem_filter.mpr ⟨List.mem_append_right _ (List.mem_of_getElem? (i := 123) rfl), rfl⟩
set_option maxRecDepth 20000 in
theorem tw_157 : Cond.fieldLink RX0 18 "HopYard$Allotment" "worth" "[I" ∈ lw_tg := List.mem_filter.mpr ⟨List.mem_append_right _ (List.mem_of_getElem? (i := 124) rfl), rfl⟩
set_option maxRecDepth 20000 in
theorem tw_158 : Cond.fieldLink RX0 21 "HopYard$Allotment" "sets" "I" ∈ lw_tg := List.mem_filter.mpr ⟨List.mem_append_right _ (List.mem_of_getElem? (i := 125) rfl), rfl⟩
set_option maxRecDepth 20000 in
theorem tw_159 : Cond.laysFinal RX0 "HopYard$Allotment" "rates" "[I" ∈ lw_tg := List.mem_filter.mpr ⟨List.mem_append_right _ (List.mem_of_getElem? (i := 126) rfl), rfl⟩
set_option maxRecDepth 20000 in
theorem tw_161 : Cond.laysFinal RX0 "HopYard$Allotment" "places" "[I" ∈ lw_tg := List.mem_filter.mpr ⟨List.mem_append_right _ (List.mem_of_getElem? (i := 128) rfl), rfl⟩
set_option maxRecDepth 20000 in
theorem tw_163 : Cond.laysFinal RX0 "HopYard$Allotment" "worth" "[I" ∈ lw_tg := List.mem_filter.mpr ⟨List.mem_append_right _ (List.mem_of_getElem? (i := 130) rfl), rfl⟩
set_option maxRecDepth 20000 in
theorem tw_165 : Cond.lays RX0 "HopYard$Allotment" "sets" "I" ∈ lw_tg := List.mem_filter.mpr ⟨List.mem_append_right _ (List.mem_of_getElem? (i := 132) rfl), rfl⟩
set_option maxRecDepth 20000 in
theorem tw_167 : Cond.superclass "HopYard$Allotment" "java/lang/Object" ∈ lw_tg := List.mem_filter.mpr ⟨List.mem_append_right _ (List.mem_of_getElem? (i := 134) rfl), rfl⟩
set_option maxRecDepth 20000 in
theorem tw_168 : Cond.fieldLink RX10 10 "HopYard" "gardens" "Ljava/util/ArrayList;" ∈ lw_tg := List.mem_filter.mpr ⟨List.mem_append_right _ (List.mem_of_getElem? (i := 135) rfl), rfl⟩
set_option maxRecDepth 20000 in
theorem tw_169 : Cond.fieldLink RX10 16 "HopYard" "gangs" "Ljava/util/ArrayList;" ∈ lw_tg := List.mem_filter.mpr ⟨List.mem_append_right _ (List.mem_of_getElem? (i := 136) rfl), rfl⟩
set_option maxRecDepth 20000 in
theorem tw_170 : Cond.fieldLink RX10 19 "HopYard" "kilns" "Ljava/util/ArrayList;" ∈ lw_tg := List.mem_filter.mpr ⟨List.mem_append_right _ (List.mem_of_getElem? (i := 137) rfl), rfl⟩
set_option maxRecDepth 20000 in
theorem tw_171 : Cond.fieldLink RX10 25 "HopYard" "greenHops" "LHopYard$GreenHops;" ∈ lw_tg := List.mem_filter.mpr ⟨List.mem_append_right _ (List.mem_of_getElem? (i := 138) rfl), rfl⟩
set_option maxRecDepth 20000 in
theorem tw_172 : Cond.fieldLink RX10 32 "HopYard" "press" "LHopYard$Press;" ∈ lw_tg := List.mem_filter.mpr ⟨List.mem_append_right _ (List.mem_of_getElem? (i := 139) rfl), rfl⟩
set_option maxRecDepth 20000 in
theorem tw_173 : Cond.fieldLink RX10 41 "HopYard" "prices" "LHopYard$Notices;" ∈ lw_tg := List.mem_filter.mpr ⟨List.mem_append_right _ (List.mem_of_getElem? (i := 140) rfl), rfl⟩
set_option maxRecDepth 20000 in
theorem tw_174 : Cond.fieldLink RX10 45 "HopYard" "duties" "LHopYard$Notices;" ∈ lw_tg := List.mem_filter.mpr ⟨List.mem_append_right _ (List.mem_of_getElem? (i := 141) rfl), rfl⟩
set_option maxRecDepth 20000 in
theorem tw_175 : Cond.fieldLink RX10 51 "HopYard" "allotment" "LHopYard$Allotment;" ∈ lw_tg := List.mem_filter.mpr ⟨List.mem_append_right _ (List.mem_of_getElem? (i := 142) rfl), rfl⟩
set_option maxRecDepth 20000 in
theorem tw_176 : Cond.fieldLink RX10 55 "HopYard" "now" "I" ∈ lw_tg := List.mem_filter.mpr ⟨List.mem_append_right _ (List.mem_of_getElem? (i := 143) rfl), rfl⟩
set_option maxRecDepth 20000 in
theorem tw_177 : Cond.fieldLink RX10 59 "HopYard" "wait" "I" ∈ lw_tg := List.mem_filter.mpr ⟨List.mem_append_right _ (List.mem_of_getElem? (i := 144) rfl), rfl⟩
set_option maxRecDepth 20000 in
theorem tw_178 : Cond.fieldLink RX10 62 "HopYard" "traced" "J" ∈ lw_tg := List.mem_filter.mpr ⟨List.mem_append_right _ (List.mem_of_getElem? (i := 145) rfl), rfl⟩
set_option maxRecDepth 20000 in
theorem tw_179 : Cond.laysFinal RX10 "HopYard" "gardens" "Ljava/util/ArrayList;" ∈ lw_tg := List.mem_filter.mpr ⟨List.mem_append_right _ (List.mem_of_getElem? (i := 146) rfl), rfl⟩
set_option maxRecDepth 20000 in
theorem tw_181 : Cond.laysFinal RX10 "HopYard" "gangs" "Ljava/util/ArrayList;" ∈ lw_tg := List.mem_filter.mpr ⟨List.mem_append_right _ (List.mem_of_getElem? (i := 148) rfl), rfl⟩
set_option maxRecDepth 20000 in
theorem tw_183 : Cond.laysFinal RX10 "HopYard" "kilns" "Ljava/util/ArrayList;" ∈ lw_tg := List.mem_filter.mpr ⟨List.mem_append_right _ (List.mem_of_getElem? (i := 150) rfl), rfl⟩
set_option maxRecDepth 20000 in
theorem tw_185 : Cond.laysFinal RX10 "HopYard" "greenHops" "LHopYard$GreenHops;" ∈ lw_tg := List.mem_filter.mpr ⟨List.mem_append_right _ (List.mem_of_getElem? (i := 152) rfl), rfl⟩
set_option maxRecDepth 20000 in
theorem tw_187 : Cond.laysFinal RX10 "HopYard" "press" "LHopYard$Press;" ∈ lw_tg := List.mem_filter.mpr ⟨List.mem_append_right _ (List.mem_of_getElem? (i := 154) rfl), rfl⟩
set_option maxRecDepth 20000 in
theorem tw_189 : Cond.laysFinal RX10 "HopYard" "prices" "LHopYard$Notices;" ∈ lw_tg := List.mem_filter.mpr ⟨List.mem_append_right _ (List.mem_of_getElem? (i := 156) rfl), rfl⟩
set_option maxRecDepth 20000 in
theorem tw_191 : Cond.laysFinal RX10 "HopYard" "duties" "LHopYard$Notices;" ∈ lw_tg := List.mem_filter.mpr ⟨List.mem_append_right _ (List.mem_of_getElem? (i := 158) rfl), rfl⟩
set_option maxRecDepth 20000 in
theorem tw_193 : Cond.laysFinal RX10 "HopYard" "allotment" "LHopYard$Allotment;" ∈ lw_tg := List.mem_filter.mpr ⟨List.mem_append_right _ (List.mem_of_getElem? (i := 160) rfl), rfl⟩
set_option maxRecDepth 20000 in
theorem tw_195 : Cond.lays RX10 "HopYard" "now" "I" ∈ lw_tg := List.mem_filter.mpr ⟨List.mem_append_right _ (List.mem_of_getElem? (i := 162) rfl), rfl⟩
set_option maxRecDepth 20000 in
theorem tw_197 : Cond.lays RX10 "HopYard" "wait" "I" ∈ lw_tg := List.mem_filter.mpr ⟨List.mem_append_right _ (List.mem_of_getElem? (i := 164) rfl), rfl⟩
set_option maxRecDepth 20000 in
theorem tw_199 : Cond.lays RX10 "HopYard" "traced" "J" ∈ lw_tg := List.mem_filter.mpr ⟨List.mem_append_right _ (List.mem_of_getElem? (i := 166) rfl), rfl⟩
set_option maxRecDepth 20000 in
theorem tw_201 : Cond.superclass "HopYard" "java/lang/Object" ∈ lw_tg := List.mem_filter.mpr ⟨List.mem_append_right _ (List.mem_of_getElem? (i := 168) rfl), rfl⟩
set_option maxRecDepth 20000 in
theorem tw_202 : Cond.methodLink RL 13 yX10_garden ∈ lw_tg := List.mem_filter.mpr ⟨List.mem_append_right _ (List.mem_of_getElem? (i := 169) rfl), rfl⟩
set_option maxRecDepth 20000 in
theorem tw_203 : Cond.instanceMethod yX10_garden ∈ lw_tg := List.mem_filter.mpr ⟨List.mem_append_right _ (List.mem_of_getElem? (i := 170) rfl), rfl⟩
set_option maxRecDepth 20000 in
theorem tw_204 : Cond.selects RX10 yX10_garden yX10_garden ∈ lw_tg := List.mem_filter.mpr ⟨List.mem_append_right _ (List.mem_of_getElem? (i := 171) rfl), rfl⟩
set_option maxRecDepth 20000 in
theorem tw_205 : Cond.code yX10_garden cX10_garden 4 (some FieldType.int) ∈ lw_tg := List.mem_filter.mpr ⟨List.mem_append_right _ (List.mem_of_getElem? (i := 172) rfl), rfl⟩
set_option maxRecDepth 20000 in
theorem tw_206 : Cond.methodLink RX10 66 yX10_within ∈ lw_tg := List.mem_filter.mpr ⟨List.mem_append_right _ (List.mem_of_getElem? (i := 173) rfl), rfl⟩
set_option maxRecDepth 20000 in
theorem tw_207 : Cond.static yX10_within ∈ lw_tg := List.mem_filter.mpr ⟨List.mem_append_right _ (List.mem_of_getElem? (i := 174) rfl), rfl⟩
set_option maxRecDepth 20000 in
theorem tw_208 : Cond.code yX10_within cX10_within 3 (some FieldType.boolean) ∈ lw_tg := List.mem_filter.mpr ⟨List.mem_append_right _ (List.mem_of_getElem? (i := 175) rfl), rfl⟩
set_option maxRecDepth 20000 in
theorem tw_209 : Cond.methodLink RX10 70 yJx4a65c_size_8abf5 ∈ lw_tg := List.mem_filter.mpr ⟨List.mem_append_right _ (List.mem_of_getElem? (i := 176) rfl), rfl⟩
set_option maxRecDepth 20000 in
theorem tw_210 : Cond.instanceMethod yJx4a65c_size_8abf5 ∈ lw_tg := List.mem_filter.mpr ⟨List.mem_append_right _ (List.mem_of_getElem? (i := 177) rfl), rfl⟩
set_option maxRecDepth 20000 in
theorem tw_211 : Cond.selects RJx4a65c yJx4a65c_size_8abf5 yJx4a65c_size_8abf5 ∈ lw_tg := List.mem_filter.mpr ⟨List.mem_append_right _ (List.mem_of_getElem? (i := 178) rfl), rfl⟩
set_option maxRecDepth 20000 in
theorem tw_212 : Cond.code yJx4a65c_size_8abf5 cJx4a65c_size_8abf5 1 (some FieldType.int) ∈ lw_tg := List.mem_filter.mpr ⟨List.mem_append_right _ (List.mem_of_getElem? (i := 179) rfl), rfl⟩
set_option maxRecDepth 20000 in
theorem tw_213 : Cond.classLink RX10 74 RX4 ∈ lw_tg := List.mem_filter.mpr ⟨List.mem_append_right _ (List.mem_of_getElem? (i := 180) rfl), rfl⟩
set_option maxRecDepth 20000 in
theorem tw_214 : Cond.instantiable RX4 6 ∈ lw_tg := List.mem_filter.mpr ⟨List.mem_append_right _ (List.mem_of_getElem? (i := 181) rfl), rfl⟩
set_option maxRecDepth 20000 in
theorem tw_215 : Cond.methodLink RX10 76 yX4_init ∈ lw_tg := List.mem_filter.mpr ⟨List.mem_append_right _ (List.mem_of_getElem? (i := 182) rfl), rfl⟩
set_option maxRecDepth 20000 in
theorem tw_216 : Cond.instanceMethod yX4_init ∈ lw_tg := List.mem_filter.mpr ⟨List.mem_append_right _ (List.mem_of_getElem? (i := 183) rfl), rfl⟩
set_option maxRecDepth 20000 in
theorem tw_217 : Cond.code yX4_init cX4_init 4 none ∈ lw_tg := List.mem_filter.mpr ⟨List.mem_append_right _ (List.mem_of_getElem? (i := 184) rfl), rfl⟩
set_option maxRecDepth 20000 in
theorem tw_218 : Cond.methodLink RX4 1 objectInit ∈ lw_tg := List.mem_filter.mpr ⟨List.mem_append_right _ (List.mem_of_getElem? (i := 185) rfl), rfl⟩
set_option maxRecDepth 20000 in
theorem tw_219 : Cond.fieldLink RX4 7 "HopYard$Garden" "from" "I" ∈ lw_tg := List.mem_filter.mpr ⟨List.mem_append_right _ (List.mem_of_getElem? (i := 186) rfl), rfl⟩
set_option maxRecDepth 20000 in
theorem tw_220 : Cond.fieldLink RX4 13 "HopYard$Garden" "to" "I" ∈ lw_tg := List.mem_filter.mpr ⟨List.mem_append_right _ (List.mem_of_getElem? (i := 187) rfl), rfl⟩
set_option maxRecDepth 20000 in
theorem tw_221 : Cond.fieldLink RX4 16 "HopYard$Garden" "left" "I" ∈ lw_tg := List.mem_filter.mpr ⟨List.mem_append_right _ (List.mem_of_getElem? (i := 188) rfl), rfl⟩
set_option maxRecDepth 20000 in
theorem tw_222 : Cond.fieldLink RX10 131 "HopYard$Garden" "left" "I" ∈ lw_tg := List.mem_filter.mpr ⟨List.mem_append_right _ (List.mem_of_getElem? (i := 189) rfl), rfl⟩
set_option maxRecDepth 20000 in
theorem tw_223 : Cond.fieldLink RX4 31 "HopYard$Garden" "picked" "I" ∈ lw_tg := List.mem_filter.mpr ⟨List.mem_append_right _ (List.mem_of_getElem? (i := 190) rfl), rfl⟩
set_option maxRecDepth 20000 in
theorem tw_224 : Cond.fieldLink RX10 134 "HopYard$Garden" "picked" "I" ∈ lw_tg := List.mem_filter.mpr ⟨List.mem_append_right _ (List.mem_of_getElem? (i := 191) rfl), rfl⟩
set_option maxRecDepth 20000 in
theorem tw_225 : Cond.fieldLink RX10 143 "HopYard$Garden" "lost" "I" ∈ lw_tg := List.mem_filter.mpr ⟨List.mem_append_right _ (List.mem_of_getElem? (i := 192) rfl), rfl⟩
set_option maxRecDepth 20000 in
theorem tw_226 : Cond.fieldLink RX10 146 "HopYard$Garden" "dried" "I" ∈ lw_tg := List.mem_filter.mpr ⟨List.mem_append_right _ (List.mem_of_getElem? (i := 193) rfl), rfl⟩
set_option maxRecDepth 20000 in
theorem tw_227 : Cond.laysFinal RX4 "HopYard$Garden" "from" "I" ∈ lw_tg := List.mem_filter.mpr ⟨List.mem_append_right _ (List.mem_of_getElem? (i := 194) rfl), rfl⟩
set_option maxRecDepth 20000 in
theorem tw_229 : Cond.laysFinal RX4 "HopYard$Garden" "to" "I" ∈ lw_tg := List.mem_filter.mpr ⟨List.mem_append_right _ (List.mem_of_getElem? (i := 196) rfl), rfl⟩
set_option maxRecDepth 20000 in
theorem tw_231 : Cond.lays RX4 "HopYard$Garden" "left" "I" ∈ lw_tg := List.mem_filter.mpr ⟨List.mem_append_right _ (List.mem_of_getElem? (i := 198) rfl), rfl⟩
set_option maxRecDepth 20000 in
theorem tw_233 : Cond.lays RX4 "HopYard$Garden" "picked" "I" ∈ lw_tg := List.mem_filter.mpr ⟨List.mem_append_right _ (List.mem_of_getElem? (i := 200) rfl), rfl⟩
set_option maxRecDepth 20000 in
theorem tw_235 : Cond.lays RX4 "HopYard$Garden" "lost" "I" ∈ lw_tg := List.mem_filter.mpr ⟨List.mem_append_right _ (List.mem_of_getElem? (i := 202) rfl), rfl⟩
set_option maxRecDepth 20000 in
theorem tw_237 : Cond.lays RX4 "HopYard$Garden" "dried" "I" ∈ lw_tg := List.mem_filter.mpr ⟨List.mem_append_right _ (List.mem_of_getElem? (i := 204) rfl), rfl⟩
set_option maxRecDepth 20000 in
theorem tw_239 : Cond.superclass "HopYard$Garden" "java/lang/Object" ∈ lw_tg := List.mem_filter.mpr ⟨List.mem_append_right _ (List.mem_of_getElem? (i := 206) rfl), rfl⟩
set_option maxRecDepth 20000 in
theorem tw_240 : Cond.methodLink RX10 79 yJx4a65c_add_9ea2d ∈ lw_tg := List.mem_filter.mpr ⟨List.mem_append_right _ (List.mem_of_getElem? (i := 207) rfl), rfl⟩
set_option maxRecDepth 20000 in
theorem tw_241 : Cond.instanceMethod yJx4a65c_add_9ea2d ∈ lw_tg := List.mem_filter.mpr ⟨List.mem_append_right _ (List.mem_of_getElem? (i := 208) rfl), rfl⟩
set_option maxRecDepth 20000 in
theorem tw_242 : Cond.selects RJx4a65c yJx4a65c_add_9ea2d yJx4a65c_add_9ea2d ∈ lw_tg := List.mem_filter.mpr ⟨List.mem_append_right _ (List.mem_of_getElem? (i := 209) rfl), rfl⟩
set_option maxRecDepth 20000 in
theorem tw_243 : Cond.code yJx4a65c_add_9ea2d cJx4a65c_add_9ea2d 2 (some FieldType.boolean) ∈ lw_tg := List.mem_filter.mpr ⟨List.mem_append_right _ (List.mem_of_getElem? (i := 210) rfl), rfl⟩
set_option maxRecDepth 20000 in
theorem tw_244 : Cond.methodLink RJx4a65c 131 yJx4a65c_add_72be8 ∈ lw_tg := List.mem_filter.mpr ⟨List.mem_append_right _ (List.mem_of_getElem? (i := 211) rfl), rfl⟩
set_option maxRecDepth 20000 in
theorem tw_245 : Cond.privateMethod yJx4a65c_add_72be8 ∈ lw_tbl := List.mem_append_right _ (List.mem_of_getElem? (i := 212) rfl)
set_option maxRecDepth 20000 in
theorem tw_246 : Cond.instanceMethod yJx4a65c_add_72be8 ∈ lw_tg := List.mem_filter.mpr ⟨List.mem_append_right _ (List.mem_of_getElem? (i := 213) rfl), rfl⟩
set_option maxRecDepth 20000 in
theorem tw_247 : Cond.code yJx4a65c_add_72be8 cJx4a65c_add_72be8 4 none ∈ lw_tg := List.mem_filter.mpr ⟨List.mem_append_right _ (List.mem_of_getElem? (i := 214) rfl), rfl⟩
set_option maxRecDepth 20000 in
theorem tw_248 : Cond.methodLink RJx4a65c 129 yJx4a65c_grow_d5877 ∈ lw_tg := List.mem_filter.mpr ⟨List.mem_append_right _ (List.mem_of_getElem? (i := 215) rfl), rfl⟩
set_option maxRecDepth 20000 in
theorem tw_249 : Cond.privateMethod yJx4a65c_grow_d5877 ∈ lw_tbl := List.mem_append_right _ (List.mem_of_getElem? (i := 216) rfl)
set_option maxRecDepth 20000 in
theorem tw_250 : Cond.instanceMethod yJx4a65c_grow_d5877 ∈ lw_tg := List.mem_filter.mpr ⟨List.mem_append_right _ (List.mem_of_getElem? (i := 217) rfl), rfl⟩
set_option maxRecDepth 20000 in
theorem tw_251 : Cond.code yJx4a65c_grow_d5877 cJx4a65c_grow_d5877 1 (some (FieldType.array (FieldType.object "java/lang/Object"))) ∈ lw_tg := List.mem_filter.mpr ⟨List.mem_append_right _ (List.mem_of_getElem? (i := 218) rfl), rfl⟩
set_option maxRecDepth 20000 in
theorem tw_252 : Cond.methodLink RJx4a65c 69 yJx4a65c_grow_92f84 ∈ lw_tg := List.mem_filter.mpr ⟨List.mem_append_right _ (List.mem_of_getElem? (i := 219) rfl), rfl⟩
set_option maxRecDepth 20000 in
theorem tw_253 : Cond.privateMethod yJx4a65c_grow_92f84 ∈ lw_tbl := List.mem_append_right _ (List.mem_of_getElem? (i := 220) rfl)
set_option maxRecDepth 20000 in
theorem tw_254 : Cond.instanceMethod yJx4a65c_grow_92f84 ∈ lw_tg := List.mem_filter.mpr ⟨List.mem_append_right _ (List.mem_of_getElem? (i := 221) rfl), rfl⟩
set_option maxRecDepth 20000 in
theorem tw_255 : Cond.code yJx4a65c_grow_92f84 cJx4a65c_grow_92f84 4 (some (FieldType.array (FieldType.object "java/lang/Object"))) ∈ lw_tg := List.mem_filter.mpr ⟨List.mem_append_right _ (List.mem_of_getElem? (i := 222) rfl), rfl⟩
set_option maxRecDepth 20000 in
theorem tw_256 : Cond.methodLink RJx4a65c 73 yJ8_newLength_cabcc ∈ lw_tg := List.mem_filter.mpr ⟨List.mem_append_right _ (List.mem_of_getElem? (i := 223) rfl), rfl⟩
set_option maxRecDepth 20000 in
theorem tw_257 : Cond.static yJ8_newLength_cabcc ∈ lw_tg := List.mem_filter.mpr ⟨List.mem_append_right _ (List.mem_of_getElem? (i := 224) rfl), rfl⟩
set_option maxRecDepth 20000 in
theorem tw_258 : Cond.code yJ8_newLength_cabcc cJ8_newLength_cabcc 4 (some FieldType.int) ∈ lw_tg := List.mem_filter.mpr ⟨List.mem_append_right _ (List.mem_of_getElem? (i := 225) rfl), rfl⟩
set_option maxRecDepth 20000 in
theorem tw_259 : Cond.methodLink RJ8 194 yJ9_max_7cf53 ∈ lw_tg := List.mem_filter.mpr ⟨List.mem_append_right _ (List.mem_of_getElem? (i := 226) rfl), rfl⟩
set_option maxRecDepth 20000 in
theorem tw_260 : Cond.static yJ9_max_7cf53 ∈ lw_tg := List.mem_filter.mpr ⟨List.mem_append_right _ (List.mem_of_getElem? (i := 227) rfl), rfl⟩
set_option maxRecDepth 20000 in
theorem tw_261 : Cond.code yJ9_max_7cf53 cJ9_max_7cf53 2 (some FieldType.int) ∈ lw_tg := List.mem_filter.mpr ⟨List.mem_append_right _ (List.mem_of_getElem? (i := 228) rfl), rfl⟩
set_option maxRecDepth 20000 in
theorem tw_262 : Cond.constant "jdk/internal/util/ArraysSupport" 200 (2147483639 : Int32) ∈ lw_tg := List.mem_filter.mpr ⟨List.mem_append_right _ (List.mem_of_getElem? (i := 229) rfl), rfl⟩
set_option maxRecDepth 20000 in
theorem tw_263 : Cond.methodLink RJ8 201 yJ8_hugeLength_7cf53 ∈ lw_tg := List.mem_filter.mpr ⟨List.mem_append_right _ (List.mem_of_getElem? (i := 230) rfl), rfl⟩
set_option maxRecDepth 20000 in
theorem tw_264 : Cond.static yJ8_hugeLength_7cf53 ∈ lw_tg := List.mem_filter.mpr ⟨List.mem_append_right _ (List.mem_of_getElem? (i := 231) rfl), rfl⟩
set_option maxRecDepth 20000 in
theorem tw_265 : Cond.code yJ8_hugeLength_7cf53 cJ8_hugeLength_7cf53 3 (some FieldType.int) ∈ lw_tg := List.mem_filter.mpr ⟨List.mem_append_right _ (List.mem_of_getElem? (i := 232) rfl), rfl⟩
set_option maxRecDepth 20000 in
theorem tw_266 : Cond.methodLink RJx4a65c 66 yJ7_copyOf_1904c ∈ lw_tg := List.mem_filter.mpr ⟨List.mem_append_right _ (List.mem_of_getElem? (i := 233) rfl), rfl⟩
set_option maxRecDepth 20000 in
theorem tw_267 : Cond.static yJ7_copyOf_1904c ∈ lw_tg := List.mem_filter.mpr ⟨List.mem_append_right _ (List.mem_of_getElem? (i := 234) rfl), rfl⟩
set_option maxRecDepth 20000 in
theorem tw_268 : Cond.code yJ7_copyOf_1904c cJ7_copyOf_1904c 2 (some (FieldType.array (FieldType.object "java/lang/Object"))) ∈ lw_tg := List.mem_filter.mpr ⟨List.mem_append_right _ (List.mem_of_getElem? (i := 235) rfl), rfl⟩
set_option maxRecDepth 20000 in
theorem tw_269 : Cond.methodLink RJ7 86 ⟨"java/lang/Object", "getClass", "()Ljava/lang/Class;"⟩ ∈ lw_tg := List.mem_filter.mpr ⟨List.mem_append_right _ (List.mem_of_getElem? (i := 236) rfl), rfl⟩
set_option maxRecDepth 20000 in
theorem tw_270 : Cond.instanceMethod ⟨"java/lang/Object", "getClass", "()Ljava/lang/Class;"⟩ ∈ lw_tg := List.mem_filter.mpr ⟨List.mem_append_right _ (List.mem_of_getElem? (i := 237) rfl), rfl⟩
set_option maxRecDepth 20000 in
theorem tw_271 : Cond.sameMethod "java/lang/Object" "java/lang/Object" "getClass" "()Ljava/lang/Class;" ∈ lw_tg := List.mem_filter.mpr ⟨List.mem_append_right _ (List.mem_of_getElem? (i := 238) rfl), rfl⟩
set_option maxRecDepth 20000 in
theorem tw_272 : Cond.selects RX10 ⟨"java/lang/Object", "getClass", "()Ljava/lang/Class;"⟩ ⟨"java/lang/Object", "getClass", "()Ljava/lang/Class;"⟩ ∈ lw_tg := List.mem_filter.mpr ⟨List.mem_append_right _ (List.mem_of_getElem? (i := 239) rfl), rfl⟩
set_option maxRecDepth 20000 in
theorem tw_273 : Cond.selects RX0 ⟨"java/lang/Object", "getClass", "()Ljava/lang/Class;"⟩ ⟨"java/lang/Object", "getClass", "()Ljava/lang/Class;"⟩ ∈ lw_tg := List.mem_filter.mpr ⟨List.mem_append_right _ (List.mem_of_getElem? (i := 240) rfl), rfl⟩
set_option maxRecDepth 20000 in
theorem tw_274 : Cond.selects RX1 ⟨"java/lang/Object", "getClass", "()Ljava/lang/Class;"⟩ ⟨"java/lang/Object", "getClass", "()Ljava/lang/Class;"⟩ ∈ lw_tg := List.mem_filter.mpr ⟨List.mem_append_right _ (List.mem_of_getElem? (i := 241) rfl), rfl⟩
set_option maxRecDepth 20000 in
theorem tw_275 : Cond.selects RX2 ⟨"java/lang/Object", "getClass", "()Ljava/lang/Class;"⟩ ⟨"java/lang/Object", "getClass", "()Ljava/lang/Class;"⟩ ∈ lw_tg := List.mem_filter.mpr ⟨List.mem_append_right _ (List.mem_of_getElem? (i := 242) rfl), rfl⟩
set_option maxRecDepth 20000 in
theorem tw_276 : Cond.selects RX3 ⟨"java/lang/Object", "getClass", "()Ljava/lang/Class;"⟩ ⟨"java/lang/Object", "getClass", "()Ljava/lang/Class;"⟩ ∈ lw_tg := List.mem_filter.mpr ⟨List.mem_append_right _ (List.mem_of_getElem? (i := 243) rfl), rfl⟩
set_option maxRecDepth 20000 in
theorem tw_277 : Cond.selects RX4 ⟨"java/lang/Object", "getClass", "()Ljava/lang/Class;"⟩ ⟨"java/lang/Object", "getClass", "()Ljava/lang/Class;"⟩ ∈ lw_tg := List.mem_filter.mpr ⟨List.mem_append_right _ (List.mem_of_getElem? (i := 244) rfl), rfl⟩
set_option maxRecDepth 20000 in
theorem tw_278 : Cond.selects RX5 ⟨"java/lang/Object", "getClass", "()Ljava/lang/Class;"⟩ ⟨"java/lang/Object", "getClass", "()Ljava/lang/Class;"⟩ ∈ lw_tg := List.mem_filter.mpr ⟨List.mem_append_right _ (List.mem_of_getElem? (i := 245) rfl), rfl⟩
set_option maxRecDepth 20000 in
theorem tw_279 : Cond.selects RX6 ⟨"java/lang/Object", "getClass", "()Ljava/lang/Class;"⟩ ⟨"java/lang/Object", "getClass", "()Ljava/lang/Class;"⟩ ∈ lw_tg := List.mem_filter.mpr ⟨List.mem_append_right _ (List.mem_of_getElem? (i := 246) rfl), rfl⟩
set_option maxRecDepth 20000 in
theorem tw_280 : Cond.selects RX7 ⟨"java/lang/Object", "getClass", "()Ljava/lang/Class;"⟩ ⟨"java/lang/Object", "getClass", "()Ljava/lang/Class;"⟩ ∈ lw_tg := List.mem_filter.mpr ⟨List.mem_append_right _ (List.mem_of_getElem? (i := 247) rfl), rfl⟩
set_option maxRecDepth 20000 in
theorem tw_281 : Cond.selects RX8 ⟨"java/lang/Object", "getClass", "()Ljava/lang/Class;"⟩ ⟨"java/lang/Object", "getClass", "()Ljava/lang/Class;"⟩ ∈ lw_tg := List.mem_filter.mpr ⟨List.mem_append_right _ (List.mem_of_getElem? (i := 248) rfl), rfl⟩
set_option maxRecDepth 20000 in
theorem tw_282 : Cond.selects RX9 ⟨"java/lang/Object", "getClass", "()Ljava/lang/Class;"⟩ ⟨"java/lang/Object", "getClass", "()Ljava/lang/Class;"⟩ ∈ lw_tg := List.mem_filter.mpr ⟨List.mem_append_right _ (List.mem_of_getElem? (i := 249) rfl), rfl⟩
set_option maxRecDepth 20000 in
theorem tw_283 : Cond.selects RX11 ⟨"java/lang/Object", "getClass", "()Ljava/lang/Class;"⟩ ⟨"java/lang/Object", "getClass", "()Ljava/lang/Class;"⟩ ∈ lw_tg := List.mem_filter.mpr ⟨List.mem_append_right _ (List.mem_of_getElem? (i := 250) rfl), rfl⟩
set_option maxRecDepth 20000 in
theorem tw_284 : Cond.selects RJx4a65c ⟨"java/lang/Object", "getClass", "()Ljava/lang/Class;"⟩ ⟨"java/lang/Object", "getClass", "()Ljava/lang/Class;"⟩ ∈ lw_tg := List.mem_filter.mpr ⟨List.mem_append_right _ (List.mem_of_getElem? (i := 251) rfl), rfl⟩
set_option maxRecDepth 20000 in
theorem tw_285 : Cond.native ⟨"java/lang/Object", "getClass", "()Ljava/lang/Class;"⟩ ∈ lw_tg := List.mem_filter.mpr ⟨List.mem_append_right _ (List.mem_of_getElem? (i := 252) rfl), rfl⟩
set_option maxRecDepth 20000 in
theorem tw_286 : Cond.methodLink RJ7 300 yJ7_copyOf_6403c ∈ lw_tg := List.mem_filter.mpr ⟨List.mem_append_right _ (List.mem_of_getElem? (i := 253) rfl), rfl⟩
set_option maxRecDepth 20000 in
theorem tw_287 : Cond.static yJ7_copyOf_6403c ∈ lw_tg := List.mem_filter.mpr ⟨List.mem_append_right _ (List.mem_of_getElem? (i := 254) rfl), rfl⟩
set_option maxRecDepth 20000 in
theorem tw_288 : Cond.code yJ7_copyOf_6403c cJ7_copyOf_6403c 4 (some (FieldType.array (FieldType.object "java/lang/Object"))) ∈ lw_tg := List.mem_filter.mpr ⟨List.mem_append_right _ (List.mem_of_getElem? (i := 255) rfl), rfl⟩
set_option maxRecDepth 20000 in
theorem tw_289 : Cond.classLink RJ7 110 "[Ljava/lang/Object;" ∈ lw_tg := List.mem_filter.mpr ⟨List.mem_append_right _ (List.mem_of_getElem? (i := 256) rfl), rfl⟩
set_option maxRecDepth 20000 in
theorem tw_290 : Cond.arrayOver (FieldType.object "java/lang/Object") ∈ lw_tbl := List.mem_append_right _ (List.mem_of_getElem? (i := 257) rfl)
set_option maxRecDepth 20000 in
theorem tw_291 : Cond.classLink RJ7 2 "java/lang/Object" ∈ lw_tg := List.mem_filter.mpr ⟨List.mem_append_right _ (List.mem_of_getElem? (i := 258) rfl), rfl⟩
set_option maxRecDepth 20000 in
theorem tw_292 : Cond.methodLink RJ7 304 yJ9_min_7cf53 ∈ lw_tg := List.mem_filter.mpr ⟨List.mem_append_right _ (List.mem_of_getElem? (i := 259) rfl), rfl⟩
set_option maxRecDepth 20000 in
theorem tw_293 : Cond.static yJ9_min_7cf53 ∈ lw_tg := List.mem_filter.mpr ⟨List.mem_append_right _ (List.mem_of_getElem? (i := 260) rfl), rfl⟩
set_option maxRecDepth 20000 in
theorem tw_294 : Cond.code yJ9_min_7cf53 cJ9_min_7cf53 2 (some FieldType.int) ∈ lw_tg := List.mem_filter.mpr ⟨List.mem_append_right _ (List.mem_of_getElem? (i := 261) rfl), rfl⟩
set_option maxRecDepth 20000 in
theorem tw_295 : Cond.methodLink RJ7 150 ⟨"java/lang/System", "arraycopy", "(Ljava/lang/Object;ILjava/lang/Object;II)V"⟩ ∈ lw_tg := List.mem_filter.mpr ⟨List.mem_append_right _ (List.mem_of_getElem? (i := 262) rfl), rfl⟩
set_option maxRecDepth 20000 in
theorem tw_296 : Cond.static ⟨"java/lang/System", "arraycopy", "(Ljava/lang/Object;ILjava/lang/Object;II)V"⟩ ∈ lw_tg := List.mem_filter.mpr ⟨List.mem_append_right _ (List.mem_of_getElem? (i := 263) rfl), rfl⟩
set_option maxRecDepth 20000 in
theorem tw_297 : Cond.native ⟨"java/lang/System", "arraycopy", "(Ljava/lang/Object;ILjava/lang/Object;II)V"⟩ ∈ lw_tg := List.mem_filter.mpr ⟨List.mem_append_right _ (List.mem_of_getElem? (i := 264) rfl), rfl⟩
set_option maxRecDepth 20000 in
theorem tw_298 : Cond.methodLink RJx4a65c 79 yJ9_max_7cf53 ∈ lw_tg := List.mem_filter.mpr ⟨List.mem_append_right _ (List.mem_of_getElem? (i := 265) rfl), rfl⟩
set_option maxRecDepth 20000 in
theorem tw_299 : Cond.classLink RJx4a65c 7 "java/lang/Object" ∈ lw_tg := List.mem_filter.mpr ⟨List.mem_append_right _ (List.mem_of_getElem? (i := 266) rfl), rfl⟩
set_option maxRecDepth 20000 in
theorem tw_300 : Cond.methodLink RL 18 yX10_gang ∈ lw_tg := List.mem_filter.mpr ⟨List.mem_append_right _ (List.mem_of_getElem? (i := 267) rfl), rfl⟩
set_option maxRecDepth 20000 in
theorem tw_301 : Cond.instanceMethod yX10_gang ∈ lw_tg := List.mem_filter.mpr ⟨List.mem_append_right _ (List.mem_of_getElem? (i := 268) rfl), rfl⟩
set_option maxRecDepth 20000 in
theorem tw_302 : Cond.selects RX10 yX10_gang yX10_gang ∈ lw_tg := List.mem_filter.mpr ⟨List.mem_append_right _ (List.mem_of_getElem? (i := 269) rfl), rfl⟩
set_option maxRecDepth 20000 in
theorem tw_303 : Cond.code yX10_gang cX10_gang 3 (some FieldType.int) ∈ lw_tg := List.mem_filter.mpr ⟨List.mem_append_right _ (List.mem_of_getElem? (i := 270) rfl), rfl⟩
set_option maxRecDepth 20000 in
theorem tw_304 : Cond.classLink RX10 83 RX3 ∈ lw_tg := List.mem_filter.mpr ⟨List.mem_append_right _ (List.mem_of_getElem? (i := 271) rfl), rfl⟩
set_option maxRecDepth 20000 in
theorem tw_305 : Cond.instantiable RX3 6 ∈ lw_tg := List.mem_filter.mpr ⟨List.mem_append_right _ (List.mem_of_getElem? (i := 272) rfl), rfl⟩
set_option maxRecDepth 20000 in
theorem tw_306 : Cond.methodLink RX10 85 yX3_init ∈ lw_tg := List.mem_filter.mpr ⟨List.mem_append_right _ (List.mem_of_getElem? (i := 273) rfl), rfl⟩
set_option maxRecDepth 20000 in
theorem tw_307 : Cond.instanceMethod yX3_init ∈ lw_tg := List.mem_filter.mpr ⟨List.mem_append_right _ (List.mem_of_getElem? (i := 274) rfl), rfl⟩
set_option maxRecDepth 20000 in
theorem tw_308 : Cond.code yX3_init cX3_init 3 none ∈ lw_tg := List.mem_filter.mpr ⟨List.mem_append_right _ (List.mem_of_getElem? (i := 275) rfl), rfl⟩
set_option maxRecDepth 20000 in
theorem tw_309 : Cond.methodLink RX3 3 objectInit ∈ lw_tg := List.mem_filter.mpr ⟨List.mem_append_right _ (List.mem_of_getElem? (i := 276) rfl), rfl⟩
set_option maxRecDepth 20000 in
theorem tw_310 : Cond.fieldLink RX3 9 "HopYard$Gang" "rate" "I" ∈ lw_tg := List.mem_filter.mpr ⟨List.mem_append_right _ (List.mem_of_getElem? (i := 277) rfl), rfl⟩
set_option maxRecDepth 20000 in
theorem tw_311 : Cond.fieldLink RX0 37 "HopYard$Gang" "rate" "I" ∈ lw_tg := List.mem_filter.mpr ⟨List.mem_append_right _ (List.mem_of_getElem? (i := 278) rfl), rfl⟩
set_option maxRecDepth 20000 in
theorem tw_312 : Cond.fieldLink RX10 237 "HopYard$Gang" "rate" "I" ∈ lw_tg := List.mem_filter.mpr ⟨List.mem_append_right _ (List.mem_of_getElem? (i := 279) rfl), rfl⟩
set_option maxRecDepth 20000 in
theorem tw_313 : Cond.fieldLink RX3 15 "HopYard$Gang" "measure" "I" ∈ lw_tg := List.mem_filter.mpr ⟨List.mem_append_right _ (List.mem_of_getElem? (i := 280) rfl), rfl⟩
set_option maxRecDepth 20000 in
theorem tw_314 : Cond.fieldLink RX3 18 "HopYard$Gang" "at" "I" ∈ lw_tg := List.mem_filter.mpr ⟨List.mem_append_right _ (List.mem_of_getElem? (i := 281) rfl), rfl⟩
set_option maxRecDepth 20000 in
theorem tw_315 : Cond.fieldLink RX10 96 "HopYard$Gang" "at" "I" ∈ lw_tg := List.mem_filter.mpr ⟨List.mem_append_right _ (List.mem_of_getElem? (i := 282) rfl), rfl⟩
set_option maxRecDepth 20000 in
theorem tw_316 : Cond.fieldLink RX3 21 "HopYard$Gang" "picked" "I" ∈ lw_tg := List.mem_filter.mpr ⟨List.mem_append_right _ (List.mem_of_getElem? (i := 283) rfl), rfl⟩
set_option maxRecDepth 20000 in
theorem tw_317 : Cond.fieldLink RX10 149 "HopYard$Gang" "picked" "I" ∈ lw_tg := List.mem_filter.mpr ⟨List.mem_append_right _ (List.mem_of_getElem? (i := 284) rfl), rfl⟩
set_option maxRecDepth 20000 in
theorem tw_318 : Cond.fieldLink RX3 24 "HopYard$Gang" "told" "I" ∈ lw_tg := List.mem_filter.mpr ⟨List.mem_append_right _ (List.mem_of_getElem? (i := 285) rfl), rfl⟩
set_option maxRecDepth 20000 in
theorem tw_319 : Cond.fieldLink RX10 150 "HopYard$Gang" "told" "I" ∈ lw_tg := List.mem_filter.mpr ⟨List.mem_append_right _ (List.mem_of_getElem? (i := 286) rfl), rfl⟩
set_option maxRecDepth 20000 in
theorem tw_320 : Cond.fieldLink RX3 27 "HopYard$Gang" "pay" "I" ∈ lw_tg := List.mem_filter.mpr ⟨List.mem_append_right _ (List.mem_of_getElem? (i := 287) rfl), rfl⟩
set_option maxRecDepth 20000 in
theorem tw_321 : Cond.fieldLink RX10 153 "HopYard$Gang" "pay" "I" ∈ lw_tg := List.mem_filter.mpr ⟨List.mem_append_right _ (List.mem_of_getElem? (i := 288) rfl), rfl⟩
set_option maxRecDepth 20000 in
theorem tw_322 : Cond.laysFinal RX3 "HopYard$Gang" "rate" "I" ∈ lw_tg := List.mem_filter.mpr ⟨List.mem_append_right _ (List.mem_of_getElem? (i := 289) rfl), rfl⟩
set_option maxRecDepth 20000 in
theorem tw_324 : Cond.laysFinal RX3 "HopYard$Gang" "measure" "I" ∈ lw_tg := List.mem_filter.mpr ⟨List.mem_append_right _ (List.mem_of_getElem? (i := 291) rfl), rfl⟩
set_option maxRecDepth 20000 in
theorem tw_326 : Cond.lays RX3 "HopYard$Gang" "at" "I" ∈ lw_tg := List.mem_filter.mpr ⟨List.mem_append_right _ (List.mem_of_getElem? (i := 293) rfl), rfl⟩
set_option maxRecDepth 20000 in
theorem tw_328 : Cond.lays RX3 "HopYard$Gang" "picked" "I" ∈ lw_tg := List.mem_filter.mpr ⟨List.mem_append_right _ (List.mem_of_getElem? (i := 295) rfl), rfl⟩
set_option maxRecDepth 20000 in
theorem tw_330 : Cond.lays RX3 "HopYard$Gang" "told" "I" ∈ lw_tg := List.mem_filter.mpr ⟨List.mem_append_right _ (List.mem_of_getElem? (i := 297) rfl), rfl⟩
set_option maxRecDepth 20000 in
theorem tw_332 : Cond.lays RX3 "HopYard$Gang" "pay" "I" ∈ lw_tg := List.mem_filter.mpr ⟨List.mem_append_right _ (List.mem_of_getElem? (i := 299) rfl), rfl⟩
set_option maxRecDepth 20000 in
theorem tw_334 : Cond.superclass "HopYard$Gang" "java/lang/Object" ∈ lw_tg := List.mem_filter.mpr ⟨List.mem_append_right _ (List.mem_of_getElem? (i := 301) rfl), rfl⟩
set_option maxRecDepth 20000 in
theorem tw_335 : Cond.methodLink RL 23 yX10_sends ∈ lw_tg := List.mem_filter.mpr ⟨List.mem_append_right _ (List.mem_of_getElem? (i := 302) rfl), rfl⟩
set_option maxRecDepth 20000 in
theorem tw_336 : Cond.instanceMethod yX10_sends ∈ lw_tg := List.mem_filter.mpr ⟨List.mem_append_right _ (List.mem_of_getElem? (i := 303) rfl), rfl⟩
set_option maxRecDepth 20000 in
theorem tw_337 : Cond.selects RX10 yX10_sends yX10_sends ∈ lw_tg := List.mem_filter.mpr ⟨List.mem_append_right _ (List.mem_of_getElem? (i := 304) rfl), rfl⟩
set_option maxRecDepth 20000 in
theorem tw_338 : Cond.code yX10_sends cX10_sends 5 (some FieldType.int) ∈ lw_tg := List.mem_filter.mpr ⟨List.mem_append_right _ (List.mem_of_getElem? (i := 305) rfl), rfl⟩
set_option maxRecDepth 20000 in
theorem tw_339 : Cond.methodLink RX10 88 yX10_gangOf ∈ lw_tg := List.mem_filter.mpr ⟨List.mem_append_right _ (List.mem_of_getElem? (i := 306) rfl), rfl⟩
set_option maxRecDepth 20000 in
theorem tw_340 : Cond.privateMethod yX10_gangOf ∈ lw_tbl := List.mem_append_right _ (List.mem_of_getElem? (i := 307) rfl)
set_option maxRecDepth 20000 in
theorem tw_341 : Cond.instanceMethod yX10_gangOf ∈ lw_tg := List.mem_filter.mpr ⟨List.mem_append_right _ (List.mem_of_getElem? (i := 308) rfl), rfl⟩
set_option maxRecDepth 20000 in
theorem tw_342 : Cond.code yX10_gangOf cX10_gangOf 2 (some (FieldType.object "HopYard$Gang")) ∈ lw_tg := List.mem_filter.mpr ⟨List.mem_append_right _ (List.mem_of_getElem? (i := 309) rfl), rfl⟩
set_option maxRecDepth 20000 in
theorem tw_343 : Cond.methodLink RX10 202 yJx4a65c_get_915e3 ∈ lw_tg := List.mem_filter.mpr ⟨List.mem_append_right _ (List.mem_of_getElem? (i := 310) rfl), rfl⟩
set_option maxRecDepth 20000 in
theorem tw_344 : Cond.instanceMethod yJx4a65c_get_915e3 ∈ lw_tg := List.mem_filter.mpr ⟨List.mem_append_right _ (List.mem_of_getElem? (i := 311) rfl), rfl⟩
set_option maxRecDepth 20000 in
theorem tw_345 : Cond.selects RJx4a65c yJx4a65c_get_915e3 yJx4a65c_get_915e3 ∈ lw_tg := List.mem_filter.mpr ⟨List.mem_append_right _ (List.mem_of_getElem? (i := 312) rfl), rfl⟩
set_option maxRecDepth 20000 in
theorem tw_346 : Cond.code yJx4a65c_get_915e3 cJx4a65c_get_915e3 2 (some (FieldType.object "java/lang/Object")) ∈ lw_tg := List.mem_filter.mpr ⟨List.mem_append_right _ (List.mem_of_getElem? (i := 313) rfl), rfl⟩
set_option maxRecDepth 20000 in
theorem tw_347 : Cond.methodLink RJx4a65c 118 yJ15_checkIndex_7cf53 ∈ lw_tg := List.mem_filter.mpr ⟨List.mem_append_right _ (List.mem_of_getElem? (i := 314) rfl), rfl⟩
set_option maxRecDepth 20000 in
theorem tw_348 : Cond.static yJ15_checkIndex_7cf53 ∈ lw_tg := List.mem_filter.mpr ⟨List.mem_append_right _ (List.mem_of_getElem? (i := 315) rfl), rfl⟩
set_option maxRecDepth 20000 in
theorem tw_349 : Cond.code yJ15_checkIndex_7cf53 cJ15_checkIndex_7cf53 2 (some FieldType.int) ∈ lw_tg := List.mem_filter.mpr ⟨List.mem_append_right _ (List.mem_of_getElem? (i := 316) rfl), rfl⟩
set_option maxRecDepth 20000 in
theorem tw_350 : Cond.methodLink RJ15 105 yJ3_checkIndex_8e157 ∈ lw_tg := List.mem_filter.mpr ⟨List.mem_append_right _ (List.mem_of_getElem? (i := 317) rfl), rfl⟩
set_option maxRecDepth 20000 in
theorem tw_351 : Cond.static yJ3_checkIndex_8e157 ∈ lw_tg := List.mem_filter.mpr ⟨List.mem_append_right _ (List.mem_of_getElem? (i := 318) rfl), rfl⟩
set_option maxRecDepth 20000 in
theorem tw_352 : Cond.code yJ3_checkIndex_8e157 cJ3_checkIndex_8e157 3 (some FieldType.int) ∈ lw_tg := List.mem_filter.mpr ⟨List.mem_append_right _ (List.mem_of_getElem? (i := 319) rfl), rfl⟩
set_option maxRecDepth 20000 in
theorem tw_353 : Cond.methodLink RJx4a65c 123 yJx4a65c_elementData_915e3 ∈ lw_tg := List.mem_filter.mpr ⟨List.mem_append_right _ (List.mem_of_getElem? (i := 320) rfl), rfl⟩
set_option maxRecDepth 20000 in
theorem tw_354 : Cond.instanceMethod yJx4a65c_elementData_915e3 ∈ lw_tg := List.mem_filter.mpr ⟨List.mem_append_right _ (List.mem_of_getElem? (i := 321) rfl), rfl⟩
set_option maxRecDepth 20000 in
theorem tw_355 : Cond.selects RJx4a65c yJx4a65c_elementData_915e3 yJx4a65c_elementData_915e3 ∈ lw_tg := List.mem_filter.mpr ⟨List.mem_append_right _ (List.mem_of_getElem? (i := 322) rfl), rfl⟩
set_option maxRecDepth 20000 in
theorem tw_356 : Cond.code yJx4a65c_elementData_915e3 cJx4a65c_elementData_915e3 2 (some (FieldType.object "java/lang/Object")) ∈ lw_tg := List.mem_filter.mpr ⟨List.mem_append_right _ (List.mem_of_getElem? (i := 323) rfl), rfl⟩
set_option maxRecDepth 20000 in
theorem tw_357 : Cond.methodLink RX10 92 yX10_gardenOf ∈ lw_tg := List.mem_filter.mpr ⟨List.mem_append_right _ (List.mem_of_getElem? (i := 324) rfl), rfl⟩
set_option maxRecDepth 20000 in
theorem tw_358 : Cond.privateMethod yX10_gardenOf ∈ lw_tbl := List.mem_append_right _ (List.mem_of_getElem? (i := 325) rfl)
set_option maxRecDepth 20000 in
theorem tw_359 : Cond.instanceMethod yX10_gardenOf ∈ lw_tg := List.mem_filter.mpr ⟨List.mem_append_right _ (List.mem_of_getElem? (i := 326) rfl), rfl⟩
set_option maxRecDepth 20000 in
theorem tw_360 : Cond.code yX10_gardenOf cX10_gardenOf 2 (some (FieldType.object "HopYard$Garden")) ∈ lw_tg := List.mem_filter.mpr ⟨List.mem_append_right _ (List.mem_of_getElem? (i := 327) rfl), rfl⟩
set_option maxRecDepth 20000 in
theorem tw_361 : Cond.methodLink RL 27 yX10_kiln ∈ lw_tg := List.mem_filter.mpr ⟨List.mem_append_right _ (List.mem_of_getElem? (i := 328) rfl), rfl⟩
set_option maxRecDepth 20000 in
theorem tw_362 : Cond.instanceMethod yX10_kiln ∈ lw_tg := List.mem_filter.mpr ⟨List.mem_append_right _ (List.mem_of_getElem? (i := 329) rfl), rfl⟩
set_option maxRecDepth 20000 in
theorem tw_363 : Cond.selects RX10 yX10_kiln yX10_kiln ∈ lw_tg := List.mem_filter.mpr ⟨List.mem_append_right _ (List.mem_of_getElem? (i := 330) rfl), rfl⟩
set_option maxRecDepth 20000 in
theorem tw_364 : Cond.code yX10_kiln cX10_kiln 3 (some FieldType.int) ∈ lw_tg := List.mem_filter.mpr ⟨List.mem_append_right _ (List.mem_of_getElem? (i := 331) rfl), rfl⟩
set_option maxRecDepth 20000 in
theorem tw_365 : Cond.classLink RX10 99 RX6 ∈ lw_tg := List.mem_filter.mpr ⟨List.mem_append_right _ (List.mem_of_getElem? (i := 332) rfl), rfl⟩
set_option maxRecDepth 20000 in
theorem tw_366 : Cond.instantiable RX6 8 ∈ lw_tg := List.mem_filter.mpr ⟨List.mem_append_right _ (List.mem_of_getElem? (i := 333) rfl), rfl⟩
set_option maxRecDepth 20000 in
theorem tw_367 : Cond.methodLink RX10 101 yX10_kindOf ∈ lw_tg := List.mem_filter.mpr ⟨List.mem_append_right _ (List.mem_of_getElem? (i := 334) rfl), rfl⟩
set_option maxRecDepth 20000 in
theorem tw_368 : Cond.static yX10_kindOf ∈ lw_tg := List.mem_filter.mpr ⟨List.mem_append_right _ (List.mem_of_getElem? (i := 335) rfl), rfl⟩
set_option maxRecDepth 20000 in
theorem tw_369 : Cond.code yX10_kindOf cX10_kindOf 1 (some (FieldType.object "HopYard$Plain")) ∈ lw_tg := List.mem_filter.mpr ⟨List.mem_append_right _ (List.mem_of_getElem? (i := 336) rfl), rfl⟩
set_option maxRecDepth 20000 in
theorem tw_370 : Cond.classLink RX10 284 RX2 ∈ lw_tg := List.mem_filter.mpr ⟨List.mem_append_right _ (List.mem_of_getElem? (i := 337) rfl), rfl⟩
set_option maxRecDepth 20000 in
theorem tw_371 : Cond.instantiable RX2 0 ∈ lw_tg := List.mem_filter.mpr ⟨List.mem_append_right _ (List.mem_of_getElem? (i := 338) rfl), rfl⟩
set_option maxRecDepth 20000 in
theorem tw_372 : Cond.methodLinkNest RX10 286 yX2_init "HopYard" ∈ lw_tbl := List.mem_append_right _ (List.mem_of_getElem? (i := 339) rfl)
set_option maxRecDepth 20000 in
theorem tw_373 : Cond.instanceMethod yX2_init ∈ lw_tg := List.mem_filter.mpr ⟨List.mem_append_right _ (List.mem_of_getElem? (i := 340) rfl), rfl⟩
set_option maxRecDepth 20000 in
theorem tw_374 : Cond.code yX2_init cX2_init 1 none ∈ lw_tg := List.mem_filter.mpr ⟨List.mem_append_right _ (List.mem_of_getElem? (i := 341) rfl), rfl⟩
set_option maxRecDepth 20000 in
theorem tw_375 : Cond.methodLinkNest RX2 1 yX8_init "HopYard" ∈ lw_tbl := List.mem_append_right _ (List.mem_of_getElem? (i := 342) rfl)
set_option maxRecDepth 20000 in
theorem tw_376 : Cond.instanceMethod yX8_init ∈ lw_tg := List.mem_filter.mpr ⟨List.mem_append_right _ (List.mem_of_getElem? (i := 343) rfl), rfl⟩
set_option maxRecDepth 20000 in
theorem tw_377 : Cond.code yX8_init cX8_init 1 none ∈ lw_tg := List.mem_filter.mpr ⟨List.mem_append_right _ (List.mem_of_getElem? (i := 344) rfl), rfl⟩
set_option maxRecDepth 20000 in
theorem tw_378 : Cond.methodLink RX8 1 objectInit ∈ lw_tg := List.mem_filter.mpr ⟨List.mem_append_right _ (List.mem_of_getElem? (i := 345) rfl), rfl⟩
set_option maxRecDepth 20000 in
theorem tw_379 : Cond.superclass "HopYard$Draught" "HopYard$Plain" ∈ lw_tg := List.mem_filter.mpr ⟨List.mem_append_right _ (List.mem_of_getElem? (i := 346) rfl), rfl⟩
set_option maxRecDepth 20000 in
theorem tw_380 : Cond.classLink RX10 287 RX1 ∈ lw_tg := List.mem_filter.mpr ⟨List.mem_append_right _ (List.mem_of_getElem? (i := 347) rfl), rfl⟩
set_option maxRecDepth 20000 in
theorem tw_381 : Cond.instantiable RX1 0 ∈ lw_tg := List.mem_filter.mpr ⟨List.mem_append_right _ (List.mem_of_getElem? (i := 348) rfl), rfl⟩
set_option maxRecDepth 20000 in
theorem tw_382 : Cond.methodLinkNest RX10 289 yX1_init "HopYard" ∈ lw_tbl := List.mem_append_right _ (List.mem_of_getElem? (i := 349) rfl)
set_option maxRecDepth 20000 in
theorem tw_383 : Cond.instanceMethod yX1_init ∈ lw_tg := List.mem_filter.mpr ⟨List.mem_append_right _ (List.mem_of_getElem? (i := 350) rfl), rfl⟩
set_option maxRecDepth 20000 in
theorem tw_384 : Cond.code yX1_init cX1_init 1 none ∈ lw_tg := List.mem_filter.mpr ⟨List.mem_append_right _ (List.mem_of_getElem? (i := 351) rfl), rfl⟩
set_option maxRecDepth 20000 in
theorem tw_385 : Cond.methodLinkNest RX1 1 yX2_init "HopYard" ∈ lw_tbl := List.mem_append_right _ (List.mem_of_getElem? (i := 352) rfl)
set_option maxRecDepth 20000 in
theorem tw_386 : Cond.superclass "HopYard$Doubled" "HopYard$Draught" ∈ lw_tg := List.mem_filter.mpr ⟨List.mem_append_right _ (List.mem_of_getElem? (i := 353) rfl), rfl⟩
set_option maxRecDepth 20000 in
theorem tw_387 : Cond.classLink RX10 120 RX8 ∈ lw_tg := List.mem_filter.mpr ⟨List.mem_append_right _ (List.mem_of_getElem? (i := 354) rfl), rfl⟩
set_option maxRecDepth 20000 in
theorem tw_388 : Cond.instantiable RX8 0 ∈ lw_tg := List.mem_filter.mpr ⟨List.mem_append_right _ (List.mem_of_getElem? (i := 355) rfl), rfl⟩
set_option maxRecDepth 20000 in
theorem tw_389 : Cond.methodLinkNest RX10 290 yX8_init "HopYard" ∈ lw_tbl := List.mem_append_right _ (List.mem_of_getElem? (i := 356) rfl)
set_option maxRecDepth 20000 in
theorem tw_390 : Cond.superclass "HopYard$Plain" "java/lang/Object" ∈ lw_tg := List.mem_filter.mpr ⟨List.mem_append_right _ (List.mem_of_getElem? (i := 357) rfl), rfl⟩
set_option maxRecDepth 20000 in
theorem tw_391 : Cond.methodLink RX10 105 yX6_init ∈ lw_tg := List.mem_filter.mpr ⟨List.mem_append_right _ (List.mem_of_getElem? (i := 358) rfl), rfl⟩
set_option maxRecDepth 20000 in
theorem tw_392 : Cond.instanceMethod yX6_init ∈ lw_tg := List.mem_filter.mpr ⟨List.mem_append_right _ (List.mem_of_getElem? (i := 359) rfl), rfl⟩
set_option maxRecDepth 20000 in
theorem tw_393 : Cond.code yX6_init cX6_init 3 none ∈ lw_tg := List.mem_filter.mpr ⟨List.mem_append_right _ (List.mem_of_getElem? (i := 360) rfl), rfl⟩
set_option maxRecDepth 20000 in
theorem tw_394 : Cond.methodLink RX6 3 objectInit ∈ lw_tg := List.mem_filter.mpr ⟨List.mem_append_right _ (List.mem_of_getElem? (i := 361) rfl), rfl⟩
set_option maxRecDepth 20000 in
theorem tw_395 : Cond.fieldLink RX6 9 "HopYard$Kiln" "kind" "LHopYard$Plain;" ∈ lw_tg := List.mem_filter.mpr ⟨List.mem_append_right _ (List.mem_of_getElem? (i := 362) rfl), rfl⟩
set_option maxRecDepth 20000 in
theorem tw_396 : Cond.fieldLink RX10 115 "HopYard$Kiln" "kind" "LHopYard$Plain;" ∈ lw_tg := List.mem_filter.mpr ⟨List.mem_append_right _ (List.mem_of_getElem? (i := 363) rfl), rfl⟩
set_option maxRecDepth 20000 in
theorem tw_397 : Cond.fieldLink RX6 15 "HopYard$Kiln" "room" "I" ∈ lw_tg := List.mem_filter.mpr ⟨List.mem_append_right _ (List.mem_of_getElem? (i := 364) rfl), rfl⟩
set_option maxRecDepth 20000 in
theorem tw_398 : Cond.fieldLink RX6 19 "HopYard$Kiln" "lotGarden" "[I" ∈ lw_tg := List.mem_filter.mpr ⟨List.mem_append_right _ (List.mem_of_getElem? (i := 365) rfl), rfl⟩
set_option maxRecDepth 20000 in
theorem tw_399 : Cond.fieldLink RX10 260 "HopYard$Kiln" "lotGarden" "[I" ∈ lw_tg := List.mem_filter.mpr ⟨List.mem_append_right _ (List.mem_of_getElem? (i := 366) rfl), rfl⟩
set_option maxRecDepth 20000 in
theorem tw_400 : Cond.fieldLink RX6 23 "HopYard$Kiln" "lotBushels" "[I" ∈ lw_tg := List.mem_filter.mpr ⟨List.mem_append_right _ (List.mem_of_getElem? (i := 367) rfl), rfl⟩
set_option maxRecDepth 20000 in
theorem tw_401 : Cond.fieldLink RX10 263 "HopYard$Kiln" "lotBushels" "[I" ∈ lw_tg := List.mem_filter.mpr ⟨List.mem_append_right _ (List.mem_of_getElem? (i := 368) rfl), rfl⟩
set_option maxRecDepth 20000 in
theorem tw_402 : Cond.fieldLink RX6 32 "HopYard$Kiln" "lots" "I" ∈ lw_tg := List.mem_filter.mpr ⟨List.mem_append_right _ (List.mem_of_getElem? (i := 369) rfl), rfl⟩
set_option maxRecDepth 20000 in
theorem tw_403 : Cond.fieldLink RX10 257 "HopYard$Kiln" "lots" "I" ∈ lw_tg := List.mem_filter.mpr ⟨List.mem_append_right _ (List.mem_of_getElem? (i := 370) rfl), rfl⟩
set_option maxRecDepth 20000 in
theorem tw_404 : Cond.fieldLink RX6 29 "HopYard$Kiln" "bushels" "I" ∈ lw_tg := List.mem_filter.mpr ⟨List.mem_append_right _ (List.mem_of_getElem? (i := 371) rfl), rfl⟩
set_option maxRecDepth 20000 in
theorem tw_405 : Cond.fieldLink RX10 156 "HopYard$Kiln" "bushels" "I" ∈ lw_tg := List.mem_filter.mpr ⟨List.mem_append_right _ (List.mem_of_getElem? (i := 372) rfl), rfl⟩
set_option maxRecDepth 20000 in
theorem tw_406 : Cond.fieldLink RX6 35 "HopYard$Kiln" "share" "I" ∈ lw_tg := List.mem_filter.mpr ⟨List.mem_append_right _ (List.mem_of_getElem? (i := 373) rfl), rfl⟩
set_option maxRecDepth 20000 in
theorem tw_407 : Cond.fieldLink RX10 159 "HopYard$Kiln" "share" "I" ∈ lw_tg := List.mem_filter.mpr ⟨List.mem_append_right _ (List.mem_of_getElem? (i := 374) rfl), rfl⟩
set_option maxRecDepth 20000 in
theorem tw_408 : Cond.fieldLink RX6 26 "HopYard$Kiln" "reading" "I" ∈ lw_tg := List.mem_filter.mpr ⟨List.mem_append_right _ (List.mem_of_getElem? (i := 375) rfl), rfl⟩
set_option maxRecDepth 20000 in
theorem tw_409 : Cond.fieldLink RX10 112 "HopYard$Kiln" "reading" "I" ∈ lw_tg := List.mem_filter.mpr ⟨List.mem_append_right _ (List.mem_of_getElem? (i := 376) rfl), rfl⟩
set_option maxRecDepth 20000 in
theorem tw_410 : Cond.laysFinal RX6 "HopYard$Kiln" "kind" "LHopYard$Plain;" ∈ lw_tg := List.mem_filter.mpr ⟨List.mem_append_right _ (List.mem_of_getElem? (i := 377) rfl), rfl⟩
set_option maxRecDepth 20000 in
theorem tw_412 : Cond.laysFinal RX6 "HopYard$Kiln" "room" "I" ∈ lw_tg := List.mem_filter.mpr ⟨List.mem_append_right _ (List.mem_of_getElem? (i := 379) rfl), rfl⟩
set_option maxRecDepth 20000 in
theorem tw_414 : Cond.laysFinal RX6 "HopYard$Kiln" "lotGarden" "[I" ∈ lw_tg := List.mem_filter.mpr ⟨List.mem_append_right _ (List.mem_of_getElem? (i := 381) rfl), rfl⟩
set_option maxRecDepth 20000 in
theorem tw_416 : Cond.laysFinal RX6 "HopYard$Kiln" "lotBushels" "[I" ∈ lw_tg := List.mem_filter.mpr ⟨List.mem_append_right _ (List.mem_of_getElem? (i := 383) rfl), rfl⟩
set_option maxRecDepth 20000 in
theorem tw_418 : Cond.lays RX6 "HopYard$Kiln" "lots" "I" ∈ lw_tg := List.mem_filter.mpr ⟨List.mem_append_right _ (List.mem_of_getElem? (i := 385) rfl), rfl⟩
set_option maxRecDepth 20000 in
theorem tw_420 : Cond.lays RX6 "HopYard$Kiln" "bushels" "I" ∈ lw_tg := List.mem_filter.mpr ⟨List.mem_append_right _ (List.mem_of_getElem? (i := 387) rfl), rfl⟩
set_option maxRecDepth 20000 in
theorem tw_422 : Cond.lays RX6 "HopYard$Kiln" "share" "I" ∈ lw_tg := List.mem_filter.mpr ⟨List.mem_append_right _ (List.mem_of_getElem? (i := 389) rfl), rfl⟩
set_option maxRecDepth 20000 in
theorem tw_424 : Cond.lays RX6 "HopYard$Kiln" "reading" "I" ∈ lw_tg := List.mem_filter.mpr ⟨List.mem_append_right _ (List.mem_of_getElem? (i := 391) rfl), rfl⟩
set_option maxRecDepth 20000 in
theorem tw_426 : Cond.superclass "HopYard$Kiln" "java/lang/Object" ∈ lw_tg := List.mem_filter.mpr ⟨List.mem_append_right _ (List.mem_of_getElem? (i := 393) rfl), rfl⟩
set_option maxRecDepth 20000 in
theorem tw_427 : Cond.methodLink RL 31 yX10_read ∈ lw_tg := List.mem_filter.mpr ⟨List.mem_append_right _ (List.mem_of_getElem? (i := 394) rfl), rfl⟩
set_option maxRecDepth 20000 in
theorem tw_428 : Cond.instanceMethod yX10_read ∈ lw_tg := List.mem_filter.mpr ⟨List.mem_append_right _ (List.mem_of_getElem? (i := 395) rfl), rfl⟩
set_option maxRecDepth 20000 in
theorem tw_429 : Cond.selects RX10 yX10_read yX10_read ∈ lw_tg := List.mem_filter.mpr ⟨List.mem_append_right _ (List.mem_of_getElem? (i := 396) rfl), rfl⟩
set_option maxRecDepth 20000 in
theorem tw_430 : Cond.code yX10_read cX10_read 5 (some FieldType.int) ∈ lw_tg := List.mem_filter.mpr ⟨List.mem_append_right _ (List.mem_of_getElem? (i := 397) rfl), rfl⟩
set_option maxRecDepth 20000 in
theorem tw_431 : Cond.methodLink RX10 108 yX10_kilnOf ∈ lw_tg := List.mem_filter.mpr ⟨List.mem_append_right _ (List.mem_of_getElem? (i := 398) rfl), rfl⟩
set_option maxRecDepth 20000 in
theorem tw_432 : Cond.privateMethod yX10_kilnOf ∈ lw_tbl := List.mem_append_right _ (List.mem_of_getElem? (i := 399) rfl)
set_option maxRecDepth 20000 in
theorem tw_433 : Cond.instanceMethod yX10_kilnOf ∈ lw_tg := List.mem_filter.mpr ⟨List.mem_append_right _ (List.mem_of_getElem? (i := 400) rfl), rfl⟩
set_option maxRecDepth 20000 in
theorem tw_434 : Cond.code yX10_kilnOf cX10_kilnOf 2 (some (FieldType.object "HopYard$Kiln")) ∈ lw_tg := List.mem_filter.mpr ⟨List.mem_append_right _ (List.mem_of_getElem? (i := 401) rfl), rfl⟩
set_option maxRecDepth 20000 in
theorem tw_435 : Cond.methodLink RL 35 yX10_drying ∈ lw_tg := List.mem_filter.mpr ⟨List.mem_append_right _ (List.mem_of_getElem? (i := 402) rfl), rfl⟩
set_option maxRecDepth 20000 in
theorem tw_436 : Cond.instanceMethod yX10_drying ∈ lw_tg := List.mem_filter.mpr ⟨List.mem_append_right _ (List.mem_of_getElem? (i := 403) rfl), rfl⟩
set_option maxRecDepth 20000 in
theorem tw_437 : Cond.selects RX10 yX10_drying yX10_drying ∈ lw_tg := List.mem_filter.mpr ⟨List.mem_append_right _ (List.mem_of_getElem? (i := 404) rfl), rfl⟩
set_option maxRecDepth 20000 in
theorem tw_438 : Cond.code yX10_drying cX10_drying 4 (some FieldType.int) ∈ lw_tg := List.mem_filter.mpr ⟨List.mem_append_right _ (List.mem_of_getElem? (i := 405) rfl), rfl⟩
set_option maxRecDepth 20000 in
theorem tw_439 : Cond.methodLink RX10 119 yX8_marks ∈ lw_tg := List.mem_filter.mpr ⟨List.mem_append_right _ (List.mem_of_getElem? (i := 406) rfl), rfl⟩
set_option maxRecDepth 20000 in
theorem tw_440 : Cond.instanceMethod yX8_marks ∈ lw_tg := List.mem_filter.mpr ⟨List.mem_append_right _ (List.mem_of_getElem? (i := 407) rfl), rfl⟩
set_option maxRecDepth 20000 in
theorem tw_441 : Cond.selects RX8 yX8_marks yX8_marks ∈ lw_tg := List.mem_filter.mpr ⟨List.mem_append_right _ (List.mem_of_getElem? (i := 408) rfl), rfl⟩
set_option maxRecDepth 20000 in
theorem tw_442 : Cond.sameMethod "HopYard$Plain" "HopYard$Plain" "marks" "()I" ∈ lw_tg := List.mem_filter.mpr ⟨List.mem_append_right _ (List.mem_of_getElem? (i := 409) rfl), rfl⟩
set_option maxRecDepth 20000 in
theorem tw_443 : Cond.selects RX1 yX8_marks yX1_marks ∈ lw_tg := List.mem_filter.mpr ⟨List.mem_append_right _ (List.mem_of_getElem? (i := 410) rfl), rfl⟩
set_option maxRecDepth 20000 in
theorem tw_444 : Cond.instanceMethod yX1_marks ∈ lw_tg := List.mem_filter.mpr ⟨List.mem_append_right _ (List.mem_of_getElem? (i := 411) rfl), rfl⟩
set_option maxRecDepth 20000 in
theorem tw_445 : Cond.code yX1_marks cX1_marks 1 (some FieldType.int) ∈ lw_tg := List.mem_filter.mpr ⟨List.mem_append_right _ (List.mem_of_getElem? (i := 412) rfl), rfl⟩
set_option maxRecDepth 20000 in
theorem tw_446 : Cond.methodLink RX1 17 yX2_marks ∈ lw_tg := List.mem_filter.mpr ⟨List.mem_append_right _ (List.mem_of_getElem? (i := 413) rfl), rfl⟩
set_option maxRecDepth 20000 in
theorem tw_447 : Cond.instanceMethod yX2_marks ∈ lw_tg := List.mem_filter.mpr ⟨List.mem_append_right _ (List.mem_of_getElem? (i := 414) rfl), rfl⟩
set_option maxRecDepth 20000 in
theorem tw_448 : Cond.code yX2_marks cX2_marks 1 (some FieldType.int) ∈ lw_tg := List.mem_filter.mpr ⟨List.mem_append_right _ (List.mem_of_getElem? (i := 415) rfl), rfl⟩
set_option maxRecDepth 20000 in
theorem tw_449 : Cond.methodLink RX2 11 yX8_marks ∈ lw_tg := List.mem_filter.mpr ⟨List.mem_append_right _ (List.mem_of_getElem? (i := 416) rfl), rfl⟩
set_option maxRecDepth 20000 in
theorem tw_450 : Cond.selects RX2 yX8_marks yX2_marks ∈ lw_tg := List.mem_filter.mpr ⟨List.mem_append_right _ (List.mem_of_getElem? (i := 417) rfl), rfl⟩
set_option maxRecDepth 20000 in
theorem tw_451 : Cond.code yX8_marks cX8_marks 1 (some FieldType.int) ∈ lw_tg := List.mem_filter.mpr ⟨List.mem_append_right _ (List.mem_of_getElem? (i := 418) rfl), rfl⟩
set_option maxRecDepth 20000 in
theorem tw_452 : Cond.methodLink RX10 124 yX8_dries ∈ lw_tg := List.mem_filter.mpr ⟨List.mem_append_right _ (List.mem_of_getElem? (i := 419) rfl), rfl⟩
set_option maxRecDepth 20000 in
theorem tw_453 : Cond.instanceMethod yX8_dries ∈ lw_tg := List.mem_filter.mpr ⟨List.mem_append_right _ (List.mem_of_getElem? (i := 420) rfl), rfl⟩
set_option maxRecDepth 20000 in
theorem tw_454 : Cond.selects RX8 yX8_dries yX8_dries ∈ lw_tg := List.mem_filter.mpr ⟨List.mem_append_right _ (List.mem_of_getElem? (i := 421) rfl), rfl⟩
set_option maxRecDepth 20000 in
theorem tw_455 : Cond.sameMethod "HopYard$Plain" "HopYard$Plain" "dries" "(I)I" ∈ lw_tg := List.mem_filter.mpr ⟨List.mem_append_right _ (List.mem_of_getElem? (i := 422) rfl), rfl⟩
set_option maxRecDepth 20000 in
theorem tw_456 : Cond.selects RX1 yX8_dries yX1_dries ∈ lw_tg := List.mem_filter.mpr ⟨List.mem_append_right _ (List.mem_of_getElem? (i := 423) rfl), rfl⟩
set_option maxRecDepth 20000 in
theorem tw_457 : Cond.instanceMethod yX1_dries ∈ lw_tg := List.mem_filter.mpr ⟨List.mem_append_right _ (List.mem_of_getElem? (i := 424) rfl), rfl⟩
set_option maxRecDepth 20000 in
theorem tw_458 : Cond.code yX1_dries cX1_dries 2 (some FieldType.int) ∈ lw_tg := List.mem_filter.mpr ⟨List.mem_append_right _ (List.mem_of_getElem? (i := 425) rfl), rfl⟩
set_option maxRecDepth 20000 in
theorem tw_459 : Cond.methodLink RX1 7 yX2_dries ∈ lw_tg := List.mem_filter.mpr ⟨List.mem_append_right _ (List.mem_of_getElem? (i := 426) rfl), rfl⟩
set_option maxRecDepth 20000 in
theorem tw_460 : Cond.instanceMethod yX2_dries ∈ lw_tg := List.mem_filter.mpr ⟨List.mem_append_right _ (List.mem_of_getElem? (i := 427) rfl), rfl⟩
set_option maxRecDepth 20000 in
theorem tw_461 : Cond.code yX2_dries cX2_dries 3 (some FieldType.int) ∈ lw_tg := List.mem_filter.mpr ⟨List.mem_append_right _ (List.mem_of_getElem? (i := 428) rfl), rfl⟩
set_option maxRecDepth 20000 in
theorem tw_462 : Cond.methodLink RX2 7 yX8_dries ∈ lw_tg := List.mem_filter.mpr ⟨List.mem_append_right _ (List.mem_of_getElem? (i := 429) rfl), rfl⟩
set_option maxRecDepth 20000 in
theorem tw_463 : Cond.methodLink RX1 11 yJ9_min_7cf53 ∈ lw_tg := List.mem_filter.mpr ⟨List.mem_append_right _ (List.mem_of_getElem? (i := 430) rfl), rfl⟩
set_option maxRecDepth 20000 in
theorem tw_464 : Cond.selects RX2 yX8_dries yX2_dries ∈ lw_tg := List.mem_filter.mpr ⟨List.mem_append_right _ (List.mem_of_getElem? (i := 431) rfl), rfl⟩
set_option maxRecDepth 20000 in
theorem tw_465 : Cond.code yX8_dries cX8_dries 2 (some FieldType.int) ∈ lw_tg := List.mem_filter.mpr ⟨List.mem_append_right _ (List.mem_of_getElem? (i := 432) rfl), rfl⟩
set_option maxRecDepth 20000 in
theorem tw_466 : Cond.methodLink RL 39 yX10_waits ∈ lw_tg := List.mem_filter.mpr ⟨List.mem_append_right _ (List.mem_of_getElem? (i := 433) rfl), rfl⟩
set_option maxRecDepth 20000 in
theorem tw_467 : Cond.instanceMethod yX10_waits ∈ lw_tg := List.mem_filter.mpr ⟨List.mem_append_right _ (List.mem_of_getElem? (i := 434) rfl), rfl⟩
set_option maxRecDepth 20000 in
theorem tw_468 : Cond.selects RX10 yX10_waits yX10_waits ∈ lw_tg := List.mem_filter.mpr ⟨List.mem_append_right _ (List.mem_of_getElem? (i := 435) rfl), rfl⟩
set_option maxRecDepth 20000 in
theorem tw_469 : Cond.code yX10_waits cX10_waits 3 (some FieldType.int) ∈ lw_tg := List.mem_filter.mpr ⟨List.mem_append_right _ (List.mem_of_getElem? (i := 436) rfl), rfl⟩
set_option maxRecDepth 20000 in
theorem tw_470 : Cond.methodLink RL 44 yX10_hours ∈ lw_tg := List.mem_filter.mpr ⟨List.mem_append_right _ (List.mem_of_getElem? (i := 437) rfl), rfl⟩
set_option maxRecDepth 20000 in
theorem tw_471 : Cond.instanceMethod yX10_hours ∈ lw_tg := List.mem_filter.mpr ⟨List.mem_append_right _ (List.mem_of_getElem? (i := 438) rfl), rfl⟩
set_option maxRecDepth 20000 in
theorem tw_472 : Cond.selects RX10 yX10_hours yX10_hours ∈ lw_tg := List.mem_filter.mpr ⟨List.mem_append_right _ (List.mem_of_getElem? (i := 439) rfl), rfl⟩
set_option maxRecDepth 20000 in
theorem tw_473 : Cond.code yX10_hours cX10_hours 3 (some FieldType.int) ∈ lw_tg := List.mem_filter.mpr ⟨List.mem_append_right _ (List.mem_of_getElem? (i := 440) rfl), rfl⟩
set_option maxRecDepth 20000 in
theorem tw_474 : Cond.methodLink RX10 128 yX10_passHour ∈ lw_tg := List.mem_filter.mpr ⟨List.mem_append_right _ (List.mem_of_getElem? (i := 441) rfl), rfl⟩
set_option maxRecDepth 20000 in
theorem tw_475 : Cond.privateMethod yX10_passHour ∈ lw_tbl := List.mem_append_right _ (List.mem_of_getElem? (i := 442) rfl)
set_option maxRecDepth 20000 in
theorem tw_476 : Cond.instanceMethod yX10_passHour ∈ lw_tg := List.mem_filter.mpr ⟨List.mem_append_right _ (List.mem_of_getElem? (i := 443) rfl), rfl⟩
set_option maxRecDepth 20000 in
theorem tw_477 : Cond.code yX10_passHour cX10_passHour 1 none ∈ lw_tg := List.mem_filter.mpr ⟨List.mem_append_right _ (List.mem_of_getElem? (i := 444) rfl), rfl⟩
set_option maxRecDepth 20000 in
theorem tw_478 : Cond.methodLink RX10 225 yX10_pickHour ∈ lw_tg := List.mem_filter.mpr ⟨List.mem_append_right _ (List.mem_of_getElem? (i := 445) rfl), rfl⟩
set_option maxRecDepth 20000 in
theorem tw_479 : Cond.privateMethod yX10_pickHour ∈ lw_tbl := List.mem_append_right _ (List.mem_of_getElem? (i := 446) rfl)
set_option maxRecDepth 20000 in
theorem tw_480 : Cond.instanceMethod yX10_pickHour ∈ lw_tg := List.mem_filter.mpr ⟨List.mem_append_right _ (List.mem_of_getElem? (i := 447) rfl), rfl⟩
set_option maxRecDepth 20000 in
theorem tw_481 : Cond.code yX10_pickHour cX10_pickHour 6 none ∈ lw_tg := List.mem_filter.mpr ⟨List.mem_append_right _ (List.mem_of_getElem? (i := 448) rfl), rfl⟩
set_option maxRecDepth 20000 in
theorem tw_482 : Cond.methodLink RX10 177 yX7_inForce ∈ lw_tg := List.mem_filter.mpr ⟨List.mem_append_right _ (List.mem_of_getElem? (i := 449) rfl), rfl⟩
set_option maxRecDepth 20000 in
theorem tw_483 : Cond.instanceMethod yX7_inForce ∈ lw_tg := List.mem_filter.mpr ⟨List.mem_append_right _ (List.mem_of_getElem? (i := 450) rfl), rfl⟩
set_option maxRecDepth 20000 in
theorem tw_484 : Cond.selects RX7 yX7_inForce yX7_inForce ∈ lw_tg := List.mem_filter.mpr ⟨List.mem_append_right _ (List.mem_of_getElem? (i := 451) rfl), rfl⟩
set_option maxRecDepth 20000 in
theorem tw_485 : Cond.code yX7_inForce cX7_inForce 5 (some FieldType.int) ∈ lw_tg := List.mem_filter.mpr ⟨List.mem_append_right _ (List.mem_of_getElem? (i := 452) rfl), rfl⟩
set_option maxRecDepth 20000 in
theorem tw_486 : Cond.methodLink RX10 213 yX4_isRipe ∈ lw_tg := List.mem_filter.mpr ⟨List.mem_append_right _ (List.mem_of_getElem? (i := 453) rfl), rfl⟩
set_option maxRecDepth 20000 in
theorem tw_487 : Cond.instanceMethod yX4_isRipe ∈ lw_tg := List.mem_filter.mpr ⟨List.mem_append_right _ (List.mem_of_getElem? (i := 454) rfl), rfl⟩
set_option maxRecDepth 20000 in
theorem tw_488 : Cond.selects RX4 yX4_isRipe yX4_isRipe ∈ lw_tg := List.mem_filter.mpr ⟨List.mem_append_right _ (List.mem_of_getElem? (i := 455) rfl), rfl⟩
set_option maxRecDepth 20000 in
theorem tw_489 : Cond.code yX4_isRipe cX4_isRipe 2 (some FieldType.boolean) ∈ lw_tg := List.mem_filter.mpr ⟨List.mem_append_right _ (List.mem_of_getElem? (i := 456) rfl), rfl⟩
set_option maxRecDepth 20000 in
theorem tw_490 : Cond.methodLinkNest RX4 19 yX10_within "HopYard" ∈ lw_tbl := List.mem_append_right _ (List.mem_of_getElem? (i := 457) rfl)
set_option maxRecDepth 20000 in
theorem tw_491 : Cond.methodLink RX10 240 yX4_yields ∈ lw_tg := List.mem_filter.mpr ⟨List.mem_append_right _ (List.mem_of_getElem? (i := 458) rfl), rfl⟩
set_option maxRecDepth 20000 in
theorem tw_492 : Cond.instanceMethod yX4_yields ∈ lw_tg := List.mem_filter.mpr ⟨List.mem_append_right _ (List.mem_of_getElem? (i := 459) rfl), rfl⟩
set_option maxRecDepth 20000 in
theorem tw_493 : Cond.selects RX4 yX4_yields yX4_yields ∈ lw_tg := List.mem_filter.mpr ⟨List.mem_append_right _ (List.mem_of_getElem? (i := 460) rfl), rfl⟩
set_option maxRecDepth 20000 in
theorem tw_494 : Cond.code yX4_yields cX4_yields 3 (some FieldType.int) ∈ lw_tg := List.mem_filter.mpr ⟨List.mem_append_right _ (List.mem_of_getElem? (i := 461) rfl), rfl⟩
set_option maxRecDepth 20000 in
theorem tw_495 : Cond.methodLink RX4 25 yJ9_min_7cf53 ∈ lw_tg := List.mem_filter.mpr ⟨List.mem_append_right _ (List.mem_of_getElem? (i := 462) rfl), rfl⟩
set_option maxRecDepth 20000 in
theorem tw_496 : Cond.methodLink RX10 243 yX3_enter ∈ lw_tg := List.mem_filter.mpr ⟨List.mem_append_right _ (List.mem_of_getElem? (i := 463) rfl), rfl⟩
set_option maxRecDepth 20000 in
theorem tw_497 : Cond.instanceMethod yX3_enter ∈ lw_tg := List.mem_filter.mpr ⟨List.mem_append_right _ (List.mem_of_getElem? (i := 464) rfl), rfl⟩
set_option maxRecDepth 20000 in
theorem tw_498 : Cond.selects RX3 yX3_enter yX3_enter ∈ lw_tg := List.mem_filter.mpr ⟨List.mem_append_right _ (List.mem_of_getElem? (i := 465) rfl), rfl⟩
set_option maxRecDepth 20000 in
theorem tw_499 : Cond.code yX3_enter cX3_enter 4 none ∈ lw_tg := List.mem_filter.mpr ⟨List.mem_append_right _ (List.mem_of_getElem? (i := 466) rfl), rfl⟩
set_option maxRecDepth 20000 in
theorem tw_500 : Cond.methodLink RX10 246 yX5_lay ∈ lw_tg := List.mem_filter.mpr ⟨List.mem_append_right _ (List.mem_of_getElem? (i := 467) rfl), rfl⟩
set_option maxRecDepth 20000 in
theorem tw_501 : Cond.instanceMethod yX5_lay ∈ lw_tg := List.mem_filter.mpr ⟨List.mem_append_right _ (List.mem_of_getElem? (i := 468) rfl), rfl⟩
set_option maxRecDepth 20000 in
theorem tw_502 : Cond.selects RX5 yX5_lay yX5_lay ∈ lw_tg := List.mem_filter.mpr ⟨List.mem_append_right _ (List.mem_of_getElem? (i := 469) rfl), rfl⟩
set_option maxRecDepth 20000 in
theorem tw_503 : Cond.code yX5_lay cX5_lay 4 none ∈ lw_tg := List.mem_filter.mpr ⟨List.mem_append_right _ (List.mem_of_getElem? (i := 470) rfl), rfl⟩
set_option maxRecDepth 20000 in
theorem tw_504 : Cond.methodLinkNest RX5 21 yX10_within "HopYard" ∈ lw_tbl := List.mem_append_right _ (List.mem_of_getElem? (i := 471) rfl)
set_option maxRecDepth 20000 in
theorem tw_505 : Cond.methodLink RX5 25 yX5_place ∈ lw_tg := List.mem_filter.mpr ⟨List.mem_append_right _ (List.mem_of_getElem? (i := 472) rfl), rfl⟩
set_option maxRecDepth 20000 in
theorem tw_506 : Cond.static yX5_place ∈ lw_tg := List.mem_filter.mpr ⟨List.mem_append_right _ (List.mem_of_getElem? (i := 473) rfl), rfl⟩
set_option maxRecDepth 20000 in
theorem tw_507 : Cond.code yX5_place cX5_place 2 (some FieldType.int) ∈ lw_tg := List.mem_filter.mpr ⟨List.mem_append_right _ (List.mem_of_getElem? (i := 474) rfl), rfl⟩
set_option maxRecDepth 20000 in
theorem tw_508 : Cond.methodLink RX5 15 yJ9_floorMod_7cf53 ∈ lw_tg := List.mem_filter.mpr ⟨List.mem_append_right _ (List.mem_of_getElem? (i := 475) rfl), rfl⟩
set_option maxRecDepth 20000 in
theorem tw_509 : Cond.static yJ9_floorMod_7cf53 ∈ lw_tg := List.mem_filter.mpr ⟨List.mem_append_right _ (List.mem_of_getElem? (i := 476) rfl), rfl⟩
set_option maxRecDepth 20000 in
theorem tw_510 : Cond.code yJ9_floorMod_7cf53 cJ9_floorMod_7cf53 3 (some FieldType.int) ∈ lw_tg := List.mem_filter.mpr ⟨List.mem_append_right _ (List.mem_of_getElem? (i := 477) rfl), rfl⟩
set_option maxRecDepth 20000 in
theorem tw_511 : Cond.methodLink RX10 228 yX10_dryHour ∈ lw_tg := List.mem_filter.mpr ⟨List.mem_append_right _ (List.mem_of_getElem? (i := 478) rfl), rfl⟩
set_option maxRecDepth 20000 in
theorem tw_512 : Cond.privateMethod yX10_dryHour ∈ lw_tbl := List.mem_append_right _ (List.mem_of_getElem? (i := 479) rfl)
set_option maxRecDepth 20000 in
theorem tw_513 : Cond.instanceMethod yX10_dryHour ∈ lw_tg := List.mem_filter.mpr ⟨List.mem_append_right _ (List.mem_of_getElem? (i := 480) rfl), rfl⟩
set_option maxRecDepth 20000 in
theorem tw_514 : Cond.code yX10_dryHour cX10_dryHour 3 none ∈ lw_tg := List.mem_filter.mpr ⟨List.mem_append_right _ (List.mem_of_getElem? (i := 481) rfl), rfl⟩
set_option maxRecDepth 20000 in
theorem tw_515 : Cond.methodLink RX10 249 yX6_isEmpty ∈ lw_tg := List.mem_filter.mpr ⟨List.mem_append_right _ (List.mem_of_getElem? (i := 482) rfl), rfl⟩
set_option maxRecDepth 20000 in
theorem tw_516 : Cond.instanceMethod yX6_isEmpty ∈ lw_tg := List.mem_filter.mpr ⟨List.mem_append_right _ (List.mem_of_getElem? (i := 483) rfl), rfl⟩
set_option maxRecDepth 20000 in
theorem tw_517 : Cond.selects RX6 yX6_isEmpty yX6_isEmpty ∈ lw_tg := List.mem_filter.mpr ⟨List.mem_append_right _ (List.mem_of_getElem? (i := 484) rfl), rfl⟩
set_option maxRecDepth 20000 in
theorem tw_518 : Cond.code yX6_isEmpty cX6_isEmpty 1 (some FieldType.boolean) ∈ lw_tg := List.mem_filter.mpr ⟨List.mem_append_right _ (List.mem_of_getElem? (i := 485) rfl), rfl⟩
set_option maxRecDepth 20000 in
theorem tw_519 : Cond.methodLink RX10 253 yX10_unload ∈ lw_tg := List.mem_filter.mpr ⟨List.mem_append_right _ (List.mem_of_getElem? (i := 486) rfl), rfl⟩
set_option maxRecDepth 20000 in
theorem tw_520 : Cond.privateMethod yX10_unload ∈ lw_tbl := List.mem_append_right _ (List.mem_of_getElem? (i := 487) rfl)
set_option maxRecDepth 20000 in
theorem tw_521 : Cond.instanceMethod yX10_unload ∈ lw_tg := List.mem_filter.mpr ⟨List.mem_append_right _ (List.mem_of_getElem? (i := 488) rfl), rfl⟩
set_option maxRecDepth 20000 in
theorem tw_522 : Cond.code yX10_unload cX10_unload 4 none ∈ lw_tg := List.mem_filter.mpr ⟨List.mem_append_right _ (List.mem_of_getElem? (i := 489) rfl), rfl⟩
set_option maxRecDepth 20000 in
theorem tw_523 : Cond.methodLink RX10 266 yX9_lay ∈ lw_tg := List.mem_filter.mpr ⟨List.mem_append_right _ (List.mem_of_getElem? (i := 490) rfl), rfl⟩
set_option maxRecDepth 20000 in
theorem tw_524 : Cond.instanceMethod yX9_lay ∈ lw_tg := List.mem_filter.mpr ⟨List.mem_append_right _ (List.mem_of_getElem? (i := 491) rfl), rfl⟩
set_option maxRecDepth 20000 in
theorem tw_525 : Cond.selects RX9 yX9_lay yX9_lay ∈ lw_tg := List.mem_filter.mpr ⟨List.mem_append_right _ (List.mem_of_getElem? (i := 492) rfl), rfl⟩
set_option maxRecDepth 20000 in
theorem tw_526 : Cond.code yX9_lay cX9_lay 4 none ∈ lw_tg := List.mem_filter.mpr ⟨List.mem_append_right _ (List.mem_of_getElem? (i := 493) rfl), rfl⟩
set_option maxRecDepth 20000 in
theorem tw_527 : Cond.methodLink RX9 34 yX9_pressOne ∈ lw_tg := List.mem_filter.mpr ⟨List.mem_append_right _ (List.mem_of_getElem? (i := 494) rfl), rfl⟩
set_option maxRecDepth 20000 in
theorem tw_528 : Cond.instanceMethod yX9_pressOne ∈ lw_tg := List.mem_filter.mpr ⟨List.mem_append_right _ (List.mem_of_getElem? (i := 495) rfl), rfl⟩
set_option maxRecDepth 20000 in
theorem tw_529 : Cond.selects RX9 yX9_pressOne yX9_pressOne ∈ lw_tg := List.mem_filter.mpr ⟨List.mem_append_right _ (List.mem_of_getElem? (i := 496) rfl), rfl⟩
set_option maxRecDepth 20000 in
theorem tw_530 : Cond.code yX9_pressOne cX9_pressOne 2 none ∈ lw_tg := List.mem_filter.mpr ⟨List.mem_append_right _ (List.mem_of_getElem? (i := 497) rfl), rfl⟩
set_option maxRecDepth 20000 in
theorem tw_531 : Cond.methodLink RX10 267 yX6_clear ∈ lw_tg := List.mem_filter.mpr ⟨List.mem_append_right _ (List.mem_of_getElem? (i := 498) rfl), rfl⟩
set_option maxRecDepth 20000 in
theorem tw_532 : Cond.instanceMethod yX6_clear ∈ lw_tg := List.mem_filter.mpr ⟨List.mem_append_right _ (List.mem_of_getElem? (i := 499) rfl), rfl⟩
set_option maxRecDepth 20000 in
theorem tw_533 : Cond.selects RX6 yX6_clear yX6_clear ∈ lw_tg := List.mem_filter.mpr ⟨List.mem_append_right _ (List.mem_of_getElem? (i := 500) rfl), rfl⟩
set_option maxRecDepth 20000 in
theorem tw_534 : Cond.code yX6_clear cX6_clear 1 none ∈ lw_tg := List.mem_filter.mpr ⟨List.mem_append_right _ (List.mem_of_getElem? (i := 501) rfl), rfl⟩
set_option maxRecDepth 20000 in
theorem tw_535 : Cond.methodLink RX10 231 yX10_loseHour ∈ lw_tg := List.mem_filter.mpr ⟨List.mem_append_right _ (List.mem_of_getElem? (i := 502) rfl), rfl⟩
set_option maxRecDepth 20000 in
theorem tw_536 : Cond.privateMethod yX10_loseHour ∈ lw_tbl := List.mem_append_right _ (List.mem_of_getElem? (i := 503) rfl)
set_option maxRecDepth 20000 in
theorem tw_537 : Cond.instanceMethod yX10_loseHour ∈ lw_tg := List.mem_filter.mpr ⟨List.mem_append_right _ (List.mem_of_getElem? (i := 504) rfl), rfl⟩
set_option maxRecDepth 20000 in
theorem tw_538 : Cond.code yX10_loseHour cX10_loseHour 3 none ∈ lw_tg := List.mem_filter.mpr ⟨List.mem_append_right _ (List.mem_of_getElem? (i := 505) rfl), rfl⟩
set_option maxRecDepth 20000 in
theorem tw_539 : Cond.methodLink RX10 270 yX5_give ∈ lw_tg := List.mem_filter.mpr ⟨List.mem_append_right _ (List.mem_of_getElem? (i := 506) rfl), rfl⟩
set_option maxRecDepth 20000 in
theorem tw_540 : Cond.instanceMethod yX5_give ∈ lw_tg := List.mem_filter.mpr ⟨List.mem_append_right _ (List.mem_of_getElem? (i := 507) rfl), rfl⟩
set_option maxRecDepth 20000 in
theorem tw_541 : Cond.selects RX5 yX5_give yX5_give ∈ lw_tg := List.mem_filter.mpr ⟨List.mem_append_right _ (List.mem_of_getElem? (i := 508) rfl), rfl⟩
set_option maxRecDepth 20000 in
theorem tw_542 : Cond.code yX5_give cX5_give 6 (some FieldType.int) ∈ lw_tg := List.mem_filter.mpr ⟨List.mem_append_right _ (List.mem_of_getElem? (i := 509) rfl), rfl⟩
set_option maxRecDepth 20000 in
theorem tw_543 : Cond.methodLink RX5 32 yJ9_min_7cf53 ∈ lw_tg := List.mem_filter.mpr ⟨List.mem_append_right _ (List.mem_of_getElem? (i := 510) rfl), rfl⟩
set_option maxRecDepth 20000 in
theorem tw_544 : Cond.methodLink RX10 234 yX10_fillHour ∈ lw_tg := List.mem_filter.mpr ⟨List.mem_append_right _ (List.mem_of_getElem? (i := 511) rfl), rfl⟩
set_option maxRecDepth 20000 in
theorem tw_545 : Cond.privateMethod yX10_fillHour ∈ lw_tbl := List.mem_append_right _ (List.mem_of_getElem? (i := 512) rfl)
set_option maxRecDepth 20000 in
theorem tw_546 : Cond.instanceMethod yX10_fillHour ∈ lw_tg := List.mem_filter.mpr ⟨List.mem_append_right _ (List.mem_of_getElem? (i := 513) rfl), rfl⟩
set_option maxRecDepth 20000 in
theorem tw_547 : Cond.code yX10_fillHour cX10_fillHour 3 none ∈ lw_tg := List.mem_filter.mpr ⟨List.mem_append_right _ (List.mem_of_getElem? (i := 514) rfl), rfl⟩
set_option maxRecDepth 20000 in
theorem tw_548 : Cond.methodLink RX10 274 yX10_fill ∈ lw_tg := List.mem_filter.mpr ⟨List.mem_append_right _ (List.mem_of_getElem? (i := 515) rfl), rfl⟩
set_option maxRecDepth 20000 in
theorem tw_549 : Cond.privateMethod yX10_fill ∈ lw_tbl := List.mem_append_right _ (List.mem_of_getElem? (i := 516) rfl)
set_option maxRecDepth 20000 in
theorem tw_550 : Cond.instanceMethod yX10_fill ∈ lw_tg := List.mem_filter.mpr ⟨List.mem_append_right _ (List.mem_of_getElem? (i := 517) rfl), rfl⟩
set_option maxRecDepth 20000 in
theorem tw_551 : Cond.code yX10_fill cX10_fill 4 none ∈ lw_tg := List.mem_filter.mpr ⟨List.mem_append_right _ (List.mem_of_getElem? (i := 518) rfl), rfl⟩
set_option maxRecDepth 20000 in
theorem tw_552 : Cond.methodLink RX10 277 yX6_free ∈ lw_tg := List.mem_filter.mpr ⟨List.mem_append_right _ (List.mem_of_getElem? (i := 519) rfl), rfl⟩
set_option maxRecDepth 20000 in
theorem tw_553 : Cond.instanceMethod yX6_free ∈ lw_tg := List.mem_filter.mpr ⟨List.mem_append_right _ (List.mem_of_getElem? (i := 520) rfl), rfl⟩
set_option maxRecDepth 20000 in
theorem tw_554 : Cond.selects RX6 yX6_free yX6_free ∈ lw_tg := List.mem_filter.mpr ⟨List.mem_append_right _ (List.mem_of_getElem? (i := 521) rfl), rfl⟩
set_option maxRecDepth 20000 in
theorem tw_555 : Cond.code yX6_free cX6_free 1 (some FieldType.int) ∈ lw_tg := List.mem_filter.mpr ⟨List.mem_append_right _ (List.mem_of_getElem? (i := 522) rfl), rfl⟩
set_option maxRecDepth 20000 in
theorem tw_556 : Cond.methodLink RX10 280 yX6_take ∈ lw_tg := List.mem_filter.mpr ⟨List.mem_append_right _ (List.mem_of_getElem? (i := 523) rfl), rfl⟩
set_option maxRecDepth 20000 in
theorem tw_557 : Cond.instanceMethod yX6_take ∈ lw_tg := List.mem_filter.mpr ⟨List.mem_append_right _ (List.mem_of_getElem? (i := 524) rfl), rfl⟩
set_option maxRecDepth 20000 in
theorem tw_558 : Cond.selects RX6 yX6_take yX6_take ∈ lw_tg := List.mem_filter.mpr ⟨List.mem_append_right _ (List.mem_of_getElem? (i := 525) rfl), rfl⟩
set_option maxRecDepth 20000 in
theorem tw_559 : Cond.code yX6_take cX6_take 3 none ∈ lw_tg := List.mem_filter.mpr ⟨List.mem_append_right _ (List.mem_of_getElem? (i := 526) rfl), rfl⟩
set_option maxRecDepth 20000 in
theorem tw_560 : Cond.methodLink RL 48 yX10_about ∈ lw_tg := List.mem_filter.mpr ⟨List.mem_append_right _ (List.mem_of_getElem? (i := 527) rfl), rfl⟩
set_option maxRecDepth 20000 in
theorem tw_561 : Cond.instanceMethod yX10_about ∈ lw_tg := List.mem_filter.mpr ⟨List.mem_append_right _ (List.mem_of_getElem? (i := 528) rfl), rfl⟩
set_option maxRecDepth 20000 in
theorem tw_562 : Cond.selects RX10 yX10_about yX10_about ∈ lw_tg := List.mem_filter.mpr ⟨List.mem_append_right _ (List.mem_of_getElem? (i := 529) rfl), rfl⟩
set_option maxRecDepth 20000 in
theorem tw_563 : Cond.code yX10_about cX10_about 4 (some FieldType.int) ∈ lw_tg := List.mem_filter.mpr ⟨List.mem_append_right _ (List.mem_of_getElem? (i := 530) rfl), rfl⟩
set_option maxRecDepth 20000 in
theorem tw_564 : Cond.methodLink RX10 137 yX5_ofGarden ∈ lw_tg := List.mem_filter.mpr ⟨List.mem_append_right _ (List.mem_of_getElem? (i := 531) rfl), rfl⟩
set_option maxRecDepth 20000 in
theorem tw_565 : Cond.instanceMethod yX5_ofGarden ∈ lw_tg := List.mem_filter.mpr ⟨List.mem_append_right _ (List.mem_of_getElem? (i := 532) rfl), rfl⟩
set_option maxRecDepth 20000 in
theorem tw_566 : Cond.selects RX5 yX5_ofGarden yX5_ofGarden ∈ lw_tg := List.mem_filter.mpr ⟨List.mem_append_right _ (List.mem_of_getElem? (i := 533) rfl), rfl⟩
set_option maxRecDepth 20000 in
theorem tw_567 : Cond.code yX5_ofGarden cX5_ofGarden 4 (some FieldType.int) ∈ lw_tg := List.mem_filter.mpr ⟨List.mem_append_right _ (List.mem_of_getElem? (i := 534) rfl), rfl⟩
set_option maxRecDepth 20000 in
theorem tw_568 : Cond.methodLink RX10 140 yX10_inKilnsOf ∈ lw_tg := List.mem_filter.mpr ⟨List.mem_append_right _ (List.mem_of_getElem? (i := 535) rfl), rfl⟩
set_option maxRecDepth 20000 in
theorem tw_569 : Cond.privateMethod yX10_inKilnsOf ∈ lw_tbl := List.mem_append_right _ (List.mem_of_getElem? (i := 536) rfl)
set_option maxRecDepth 20000 in
theorem tw_570 : Cond.instanceMethod yX10_inKilnsOf ∈ lw_tg := List.mem_filter.mpr ⟨List.mem_append_right _ (List.mem_of_getElem? (i := 537) rfl), rfl⟩
set_option maxRecDepth 20000 in
theorem tw_571 : Cond.code yX10_inKilnsOf cX10_inKilnsOf 4 (some FieldType.int) ∈ lw_tg := List.mem_filter.mpr ⟨List.mem_append_right _ (List.mem_of_getElem? (i := 538) rfl), rfl⟩
set_option maxRecDepth 20000 in
theorem tw_572 : Cond.methodLink RX10 283 yX6_ofGarden ∈ lw_tg := List.mem_filter.mpr ⟨List.mem_append_right _ (List.mem_of_getElem? (i := 539) rfl), rfl⟩
set_option maxRecDepth 20000 in
theorem tw_573 : Cond.instanceMethod yX6_ofGarden ∈ lw_tg := List.mem_filter.mpr ⟨List.mem_append_right _ (List.mem_of_getElem? (i := 540) rfl), rfl⟩
set_option maxRecDepth 20000 in
theorem tw_574 : Cond.selects RX6 yX6_ofGarden yX6_ofGarden ∈ lw_tg := List.mem_filter.mpr ⟨List.mem_append_right _ (List.mem_of_getElem? (i := 541) rfl), rfl⟩
set_option maxRecDepth 20000 in
theorem tw_575 : Cond.code yX6_ofGarden cX6_ofGarden 4 (some FieldType.int) ∈ lw_tg := List.mem_filter.mpr ⟨List.mem_append_right _ (List.mem_of_getElem? (i := 542) rfl), rfl⟩
set_option maxRecDepth 20000 in
theorem tw_576 : Cond.methodLink RL 52 yX10_tally ∈ lw_tg := List.mem_filter.mpr ⟨List.mem_append_right _ (List.mem_of_getElem? (i := 543) rfl), rfl⟩
set_option maxRecDepth 20000 in
theorem tw_577 : Cond.instanceMethod yX10_tally ∈ lw_tg := List.mem_filter.mpr ⟨List.mem_append_right _ (List.mem_of_getElem? (i := 544) rfl), rfl⟩
set_option maxRecDepth 20000 in
theorem tw_578 : Cond.selects RX10 yX10_tally yX10_tally ∈ lw_tg := List.mem_filter.mpr ⟨List.mem_append_right _ (List.mem_of_getElem? (i := 545) rfl), rfl⟩
set_option maxRecDepth 20000 in
theorem tw_579 : Cond.code yX10_tally cX10_tally 4 (some FieldType.int) ∈ lw_tg := List.mem_filter.mpr ⟨List.mem_append_right _ (List.mem_of_getElem? (i := 546) rfl), rfl⟩
set_option maxRecDepth 20000 in
theorem tw_580 : Cond.methodLink RL 56 yX10_in ∈ lw_tg := List.mem_filter.mpr ⟨List.mem_append_right _ (List.mem_of_getElem? (i := 547) rfl), rfl⟩
set_option maxRecDepth 20000 in
theorem tw_581 : Cond.instanceMethod yX10_in ∈ lw_tg := List.mem_filter.mpr ⟨List.mem_append_right _ (List.mem_of_getElem? (i := 548) rfl), rfl⟩
set_option maxRecDepth 20000 in
theorem tw_582 : Cond.selects RX10 yX10_in yX10_in ∈ lw_tg := List.mem_filter.mpr ⟨List.mem_append_right _ (List.mem_of_getElem? (i := 549) rfl), rfl⟩
set_option maxRecDepth 20000 in
theorem tw_583 : Cond.code yX10_in cX10_in 4 (some FieldType.int) ∈ lw_tg := List.mem_filter.mpr ⟨List.mem_append_right _ (List.mem_of_getElem? (i := 550) rfl), rfl⟩
set_option maxRecDepth 20000 in
theorem tw_584 : Cond.methodLink RX10 162 yX6_gardenBits ∈ lw_tg := List.mem_filter.mpr ⟨List.mem_append_right _ (List.mem_of_getElem? (i := 551) rfl), rfl⟩
set_option maxRecDepth 20000 in
theorem tw_585 : Cond.instanceMethod yX6_gardenBits ∈ lw_tg := List.mem_filter.mpr ⟨List.mem_append_right _ (List.mem_of_getElem? (i := 552) rfl), rfl⟩
set_option maxRecDepth 20000 in
theorem tw_586 : Cond.selects RX6 yX6_gardenBits yX6_gardenBits ∈ lw_tg := List.mem_filter.mpr ⟨List.mem_append_right _ (List.mem_of_getElem? (i := 553) rfl), rfl⟩
set_option maxRecDepth 20000 in
theorem tw_587 : Cond.code yX6_gardenBits cX6_gardenBits 3 (some FieldType.int) ∈ lw_tg := List.mem_filter.mpr ⟨List.mem_append_right _ (List.mem_of_getElem? (i := 554) rfl), rfl⟩
set_option maxRecDepth 20000 in
theorem tw_588 : Cond.methodLink RL 60 yX10_green ∈ lw_tg := List.mem_filter.mpr ⟨List.mem_append_right _ (List.mem_of_getElem? (i := 555) rfl), rfl⟩
set_option maxRecDepth 20000 in
theorem tw_589 : Cond.instanceMethod yX10_green ∈ lw_tg := List.mem_filter.mpr ⟨List.mem_append_right _ (List.mem_of_getElem? (i := 556) rfl), rfl⟩
set_option maxRecDepth 20000 in
theorem tw_590 : Cond.selects RX10 yX10_green yX10_green ∈ lw_tg := List.mem_filter.mpr ⟨List.mem_append_right _ (List.mem_of_getElem? (i := 557) rfl), rfl⟩
set_option maxRecDepth 20000 in
theorem tw_591 : Cond.code yX10_green cX10_green 2 (some FieldType.int) ∈ lw_tg := List.mem_filter.mpr ⟨List.mem_append_right _ (List.mem_of_getElem? (i := 558) rfl), rfl⟩
set_option maxRecDepth 20000 in
theorem tw_592 : Cond.methodLink RX10 165 yX5_ofHour ∈ lw_tg := List.mem_filter.mpr ⟨List.mem_append_right _ (List.mem_of_getElem? (i := 559) rfl), rfl⟩
set_option maxRecDepth 20000 in
theorem tw_593 : Cond.instanceMethod yX5_ofHour ∈ lw_tg := List.mem_filter.mpr ⟨List.mem_append_right _ (List.mem_of_getElem? (i := 560) rfl), rfl⟩
set_option maxRecDepth 20000 in
theorem tw_594 : Cond.selects RX5 yX5_ofHour yX5_ofHour ∈ lw_tg := List.mem_filter.mpr ⟨List.mem_append_right _ (List.mem_of_getElem? (i := 561) rfl), rfl⟩
set_option maxRecDepth 20000 in
theorem tw_595 : Cond.code yX5_ofHour cX5_ofHour 4 (some FieldType.int) ∈ lw_tg := List.mem_filter.mpr ⟨List.mem_append_right _ (List.mem_of_getElem? (i := 562) rfl), rfl⟩
set_option maxRecDepth 20000 in
theorem tw_596 : Cond.methodLink RL 64 yX10_pocket ∈ lw_tg := List.mem_filter.mpr ⟨List.mem_append_right _ (List.mem_of_getElem? (i := 563) rfl), rfl⟩
set_option maxRecDepth 20000 in
theorem tw_597 : Cond.instanceMethod yX10_pocket ∈ lw_tg := List.mem_filter.mpr ⟨List.mem_append_right _ (List.mem_of_getElem? (i := 564) rfl), rfl⟩
set_option maxRecDepth 20000 in
theorem tw_598 : Cond.selects RX10 yX10_pocket yX10_pocket ∈ lw_tg := List.mem_filter.mpr ⟨List.mem_append_right _ (List.mem_of_getElem? (i := 565) rfl), rfl⟩
set_option maxRecDepth 20000 in
theorem tw_599 : Cond.code yX10_pocket cX10_pocket 3 (some FieldType.int) ∈ lw_tg := List.mem_filter.mpr ⟨List.mem_append_right _ (List.mem_of_getElem? (i := 566) rfl), rfl⟩
set_option maxRecDepth 20000 in
theorem tw_600 : Cond.methodLink RX10 168 yX9_led ∈ lw_tg := List.mem_filter.mpr ⟨List.mem_append_right _ (List.mem_of_getElem? (i := 567) rfl), rfl⟩
set_option maxRecDepth 20000 in
theorem tw_601 : Cond.instanceMethod yX9_led ∈ lw_tg := List.mem_filter.mpr ⟨List.mem_append_right _ (List.mem_of_getElem? (i := 568) rfl), rfl⟩
set_option maxRecDepth 20000 in
theorem tw_602 : Cond.selects RX9 yX9_led yX9_led ∈ lw_tg := List.mem_filter.mpr ⟨List.mem_append_right _ (List.mem_of_getElem? (i := 569) rfl), rfl⟩
set_option maxRecDepth 20000 in
theorem tw_603 : Cond.code yX9_led cX9_led 1 (some FieldType.int) ∈ lw_tg := List.mem_filter.mpr ⟨List.mem_append_right _ (List.mem_of_getElem? (i := 570) rfl), rfl⟩
set_option maxRecDepth 20000 in
theorem tw_604 : Cond.methodLink RX9 22 yJ9_min_7cf53 ∈ lw_tg := List.mem_filter.mpr ⟨List.mem_append_right _ (List.mem_of_getElem? (i := 571) rfl), rfl⟩
set_option maxRecDepth 20000 in
theorem tw_605 : Cond.methodLink RL 68 yX10_count ∈ lw_tg := List.mem_filter.mpr ⟨List.mem_append_right _ (List.mem_of_getElem? (i := 572) rfl), rfl⟩
set_option maxRecDepth 20000 in
theorem tw_606 : Cond.instanceMethod yX10_count ∈ lw_tg := List.mem_filter.mpr ⟨List.mem_append_right _ (List.mem_of_getElem? (i := 573) rfl), rfl⟩
set_option maxRecDepth 20000 in
theorem tw_607 : Cond.selects RX10 yX10_count yX10_count ∈ lw_tg := List.mem_filter.mpr ⟨List.mem_append_right _ (List.mem_of_getElem? (i := 574) rfl), rfl⟩
set_option maxRecDepth 20000 in
theorem tw_608 : Cond.code yX10_count cX10_count 2 (some FieldType.int) ∈ lw_tg := List.mem_filter.mpr ⟨List.mem_append_right _ (List.mem_of_getElem? (i := 575) rfl), rfl⟩
set_option maxRecDepth 20000 in
theorem tw_609 : Cond.methodLink RX10 186 yX10_chargedInAll ∈ lw_tg := List.mem_filter.mpr ⟨List.mem_append_right _ (List.mem_of_getElem? (i := 576) rfl), rfl⟩
set_option maxRecDepth 20000 in
theorem tw_610 : Cond.privateMethod yX10_chargedInAll ∈ lw_tbl := List.mem_append_right _ (List.mem_of_getElem? (i := 577) rfl)
set_option maxRecDepth 20000 in
theorem tw_611 : Cond.instanceMethod yX10_chargedInAll ∈ lw_tg := List.mem_filter.mpr ⟨List.mem_append_right _ (List.mem_of_getElem? (i := 578) rfl), rfl⟩
set_option maxRecDepth 20000 in
theorem tw_612 : Cond.code yX10_chargedInAll cX10_chargedInAll 3 (some FieldType.int) ∈ lw_tg := List.mem_filter.mpr ⟨List.mem_append_right _ (List.mem_of_getElem? (i := 579) rfl), rfl⟩
set_option maxRecDepth 20000 in
theorem tw_613 : Cond.methodLink RX10 189 yX10_lostInAll ∈ lw_tg := List.mem_filter.mpr ⟨List.mem_append_right _ (List.mem_of_getElem? (i := 580) rfl), rfl⟩
set_option maxRecDepth 20000 in
theorem tw_614 : Cond.privateMethod yX10_lostInAll ∈ lw_tbl := List.mem_append_right _ (List.mem_of_getElem? (i := 581) rfl)
set_option maxRecDepth 20000 in
theorem tw_615 : Cond.instanceMethod yX10_lostInAll ∈ lw_tg := List.mem_filter.mpr ⟨List.mem_append_right _ (List.mem_of_getElem? (i := 582) rfl), rfl⟩
set_option maxRecDepth 20000 in
theorem tw_616 : Cond.code yX10_lostInAll cX10_lostInAll 3 (some FieldType.int) ∈ lw_tg := List.mem_filter.mpr ⟨List.mem_append_right _ (List.mem_of_getElem? (i := 583) rfl), rfl⟩
set_option maxRecDepth 20000 in
theorem tw_617 : Cond.methodLink RX10 195 yX10_payInAll ∈ lw_tg := List.mem_filter.mpr ⟨List.mem_append_right _ (List.mem_of_getElem? (i := 584) rfl), rfl⟩
set_option maxRecDepth 20000 in
theorem tw_618 : Cond.privateMethod yX10_payInAll ∈ lw_tbl := List.mem_append_right _ (List.mem_of_getElem? (i := 585) rfl)
set_option maxRecDepth 20000 in
theorem tw_619 : Cond.instanceMethod yX10_payInAll ∈ lw_tg := List.mem_filter.mpr ⟨List.mem_append_right _ (List.mem_of_getElem? (i := 586) rfl), rfl⟩
set_option maxRecDepth 20000 in
theorem tw_620 : Cond.code yX10_payInAll cX10_payInAll 3 (some FieldType.int) ∈ lw_tg := List.mem_filter.mpr ⟨List.mem_append_right _ (List.mem_of_getElem? (i := 587) rfl), rfl⟩
set_option maxRecDepth 20000 in
theorem tw_621 : Cond.methodLink RL 72 yX10_price ∈ lw_tg := List.mem_filter.mpr ⟨List.mem_append_right _ (List.mem_of_getElem? (i := 588) rfl), rfl⟩
set_option maxRecDepth 20000 in
theorem tw_622 : Cond.instanceMethod yX10_price ∈ lw_tg := List.mem_filter.mpr ⟨List.mem_append_right _ (List.mem_of_getElem? (i := 589) rfl), rfl⟩
set_option maxRecDepth 20000 in
theorem tw_623 : Cond.selects RX10 yX10_price yX10_price ∈ lw_tg := List.mem_filter.mpr ⟨List.mem_append_right _ (List.mem_of_getElem? (i := 590) rfl), rfl⟩
set_option maxRecDepth 20000 in
theorem tw_624 : Cond.code yX10_price cX10_price 3 (some FieldType.int) ∈ lw_tg := List.mem_filter.mpr ⟨List.mem_append_right _ (List.mem_of_getElem? (i := 591) rfl), rfl⟩
set_option maxRecDepth 20000 in
theorem tw_625 : Cond.methodLink RX10 198 yX7_tell ∈ lw_tg := List.mem_filter.mpr ⟨List.mem_append_right _ (List.mem_of_getElem? (i := 592) rfl), rfl⟩
set_option maxRecDepth 20000 in
theorem tw_626 : Cond.instanceMethod yX7_tell ∈ lw_tg := List.mem_filter.mpr ⟨List.mem_append_right _ (List.mem_of_getElem? (i := 593) rfl), rfl⟩
set_option maxRecDepth 20000 in
theorem tw_627 : Cond.selects RX7 yX7_tell yX7_tell ∈ lw_tg := List.mem_filter.mpr ⟨List.mem_append_right _ (List.mem_of_getElem? (i := 594) rfl), rfl⟩
set_option maxRecDepth 20000 in
theorem tw_628 : Cond.code yX7_tell cX7_tell 3 (some FieldType.boolean) ∈ lw_tg := List.mem_filter.mpr ⟨List.mem_append_right _ (List.mem_of_getElem? (i := 595) rfl), rfl⟩
set_option maxRecDepth 20000 in
theorem tw_629 : Cond.methodLink RL 76 yX10_priced ∈ lw_tg := List.mem_filter.mpr ⟨List.mem_append_right _ (List.mem_of_getElem? (i := 596) rfl), rfl⟩
set_option maxRecDepth 20000 in
theorem tw_630 : Cond.instanceMethod yX10_priced ∈ lw_tg := List.mem_filter.mpr ⟨List.mem_append_right _ (List.mem_of_getElem? (i := 597) rfl), rfl⟩
set_option maxRecDepth 20000 in
theorem tw_631 : Cond.selects RX10 yX10_priced yX10_priced ∈ lw_tg := List.mem_filter.mpr ⟨List.mem_append_right _ (List.mem_of_getElem? (i := 598) rfl), rfl⟩
set_option maxRecDepth 20000 in
theorem tw_632 : Cond.code yX10_priced cX10_priced 2 (some FieldType.int) ∈ lw_tg := List.mem_filter.mpr ⟨List.mem_append_right _ (List.mem_of_getElem? (i := 599) rfl), rfl⟩
set_option maxRecDepth 20000 in
theorem tw_633 : Cond.methodLink RL 80 yX10_act ∈ lw_tg := List.mem_filter.mpr ⟨List.mem_append_right _ (List.mem_of_getElem? (i := 600) rfl), rfl⟩
set_option maxRecDepth 20000 in
theorem tw_634 : Cond.instanceMethod yX10_act ∈ lw_tg := List.mem_filter.mpr ⟨List.mem_append_right _ (List.mem_of_getElem? (i := 601) rfl), rfl⟩
set_option maxRecDepth 20000 in
theorem tw_635 : Cond.selects RX10 yX10_act yX10_act ∈ lw_tg := List.mem_filter.mpr ⟨List.mem_append_right _ (List.mem_of_getElem? (i := 602) rfl), rfl⟩
set_option maxRecDepth 20000 in
theorem tw_636 : Cond.code yX10_act cX10_act 3 (some FieldType.int) ∈ lw_tg := List.mem_filter.mpr ⟨List.mem_append_right _ (List.mem_of_getElem? (i := 603) rfl), rfl⟩
set_option maxRecDepth 20000 in
theorem tw_637 : Cond.methodLink RL 84 yX10_duty ∈ lw_tg := List.mem_filter.mpr ⟨List.mem_append_right _ (List.mem_of_getElem? (i := 604) rfl), rfl⟩
set_option maxRecDepth 20000 in
theorem tw_638 : Cond.instanceMethod yX10_duty ∈ lw_tg := List.mem_filter.mpr ⟨List.mem_append_right _ (List.mem_of_getElem? (i := 605) rfl), rfl⟩
set_option maxRecDepth 20000 in
theorem tw_639 : Cond.selects RX10 yX10_duty yX10_duty ∈ lw_tg := List.mem_filter.mpr ⟨List.mem_append_right _ (List.mem_of_getElem? (i := 606) rfl), rfl⟩
set_option maxRecDepth 20000 in
theorem tw_640 : Cond.code yX10_duty cX10_duty 2 (some FieldType.int) ∈ lw_tg := List.mem_filter.mpr ⟨List.mem_append_right _ (List.mem_of_getElem? (i := 607) rfl), rfl⟩
set_option maxRecDepth 20000 in
theorem tw_641 : Cond.methodLink RL 88 yX10_bound ∈ lw_tg := List.mem_filter.mpr ⟨List.mem_append_right _ (List.mem_of_getElem? (i := 608) rfl), rfl⟩
set_option maxRecDepth 20000 in
theorem tw_642 : Cond.instanceMethod yX10_bound ∈ lw_tg := List.mem_filter.mpr ⟨List.mem_append_right _ (List.mem_of_getElem? (i := 609) rfl), rfl⟩
set_option maxRecDepth 20000 in
theorem tw_643 : Cond.selects RX10 yX10_bound yX10_bound ∈ lw_tg := List.mem_filter.mpr ⟨List.mem_append_right _ (List.mem_of_getElem? (i := 610) rfl), rfl⟩
set_option maxRecDepth 20000 in
theorem tw_644 : Cond.code yX10_bound cX10_bound 3 (some FieldType.int) ∈ lw_tg := List.mem_filter.mpr ⟨List.mem_append_right _ (List.mem_of_getElem? (i := 611) rfl), rfl⟩
set_option maxRecDepth 20000 in
theorem tw_645 : Cond.methodLink RX10 206 yX6_bears ∈ lw_tg := List.mem_filter.mpr ⟨List.mem_append_right _ (List.mem_of_getElem? (i := 612) rfl), rfl⟩
set_option maxRecDepth 20000 in
theorem tw_646 : Cond.instanceMethod yX6_bears ∈ lw_tg := List.mem_filter.mpr ⟨List.mem_append_right _ (List.mem_of_getElem? (i := 613) rfl), rfl⟩
set_option maxRecDepth 20000 in
theorem tw_647 : Cond.selects RX6 yX6_bears yX6_bears ∈ lw_tg := List.mem_filter.mpr ⟨List.mem_append_right _ (List.mem_of_getElem? (i := 614) rfl), rfl⟩
set_option maxRecDepth 20000 in
theorem tw_648 : Cond.code yX6_bears cX6_bears 3 (some FieldType.int) ∈ lw_tg := List.mem_filter.mpr ⟨List.mem_append_right _ (List.mem_of_getElem? (i := 615) rfl), rfl⟩
set_option maxRecDepth 20000 in
theorem tw_649 : Cond.methodLink RX6 38 yX8_dries ∈ lw_tg := List.mem_filter.mpr ⟨List.mem_append_right _ (List.mem_of_getElem? (i := 616) rfl), rfl⟩
set_option maxRecDepth 20000 in
theorem tw_650 : Cond.methodLink RX6 44 yJ9_max_7cf53 ∈ lw_tg := List.mem_filter.mpr ⟨List.mem_append_right _ (List.mem_of_getElem? (i := 617) rfl), rfl⟩
set_option maxRecDepth 20000 in
theorem tw_651 : Cond.methodLink RL 93 yX10_most ∈ lw_tg := List.mem_filter.mpr ⟨List.mem_append_right _ (List.mem_of_getElem? (i := 618) rfl), rfl⟩
set_option maxRecDepth 20000 in
theorem tw_652 : Cond.instanceMethod yX10_most ∈ lw_tg := List.mem_filter.mpr ⟨List.mem_append_right _ (List.mem_of_getElem? (i := 619) rfl), rfl⟩
set_option maxRecDepth 20000 in
theorem tw_653 : Cond.selects RX10 yX10_most yX10_most ∈ lw_tg := List.mem_filter.mpr ⟨List.mem_append_right _ (List.mem_of_getElem? (i := 620) rfl), rfl⟩
set_option maxRecDepth 20000 in
theorem tw_654 : Cond.code yX10_most cX10_most 5 (some FieldType.int) ∈ lw_tg := List.mem_filter.mpr ⟨List.mem_append_right _ (List.mem_of_getElem? (i := 621) rfl), rfl⟩
set_option maxRecDepth 20000 in
theorem tw_655 : Cond.methodLink RX10 209 yX0_begin ∈ lw_tg := List.mem_filter.mpr ⟨List.mem_append_right _ (List.mem_of_getElem? (i := 622) rfl), rfl⟩
set_option maxRecDepth 20000 in
theorem tw_656 : Cond.instanceMethod yX0_begin ∈ lw_tg := List.mem_filter.mpr ⟨List.mem_append_right _ (List.mem_of_getElem? (i := 623) rfl), rfl⟩
set_option maxRecDepth 20000 in
theorem tw_657 : Cond.selects RX0 yX0_begin yX0_begin ∈ lw_tg := List.mem_filter.mpr ⟨List.mem_append_right _ (List.mem_of_getElem? (i := 624) rfl), rfl⟩
set_option maxRecDepth 20000 in
theorem tw_658 : Cond.code yX0_begin cX0_begin 4 none ∈ lw_tg := List.mem_filter.mpr ⟨List.mem_append_right _ (List.mem_of_getElem? (i := 625) rfl), rfl⟩
set_option maxRecDepth 20000 in
theorem tw_659 : Cond.methodLink RX0 25 yJx4a65c_size_8abf5 ∈ lw_tg := List.mem_filter.mpr ⟨List.mem_append_right _ (List.mem_of_getElem? (i := 626) rfl), rfl⟩
set_option maxRecDepth 20000 in
theorem tw_660 : Cond.methodLink RX0 31 yJx4a65c_get_915e3 ∈ lw_tg := List.mem_filter.mpr ⟨List.mem_append_right _ (List.mem_of_getElem? (i := 627) rfl), rfl⟩
set_option maxRecDepth 20000 in
theorem tw_661 : Cond.classLink RX0 35 RX3 ∈ lw_tg := List.mem_filter.mpr ⟨List.mem_append_right _ (List.mem_of_getElem? (i := 628) rfl), rfl⟩
set_option maxRecDepth 20000 in
theorem tw_662 : Cond.methodLink RX0 40 yX0_addGang ∈ lw_tg := List.mem_filter.mpr ⟨List.mem_append_right _ (List.mem_of_getElem? (i := 629) rfl), rfl⟩
set_option maxRecDepth 20000 in
theorem tw_663 : Cond.instanceMethod yX0_addGang ∈ lw_tg := List.mem_filter.mpr ⟨List.mem_append_right _ (List.mem_of_getElem? (i := 630) rfl), rfl⟩
set_option maxRecDepth 20000 in
theorem tw_664 : Cond.selects RX0 yX0_addGang yX0_addGang ∈ lw_tg := List.mem_filter.mpr ⟨List.mem_append_right _ (List.mem_of_getElem? (i := 631) rfl), rfl⟩
set_option maxRecDepth 20000 in
theorem tw_665 : Cond.code yX0_addGang cX0_addGang 5 none ∈ lw_tg := List.mem_filter.mpr ⟨List.mem_append_right _ (List.mem_of_getElem? (i := 632) rfl), rfl⟩
set_option maxRecDepth 20000 in
theorem tw_666 : Cond.methodLink RX0 44 yJ9_min_7cf53 ∈ lw_tg := List.mem_filter.mpr ⟨List.mem_append_right _ (List.mem_of_getElem? (i := 633) rfl), rfl⟩
set_option maxRecDepth 20000 in
theorem tw_667 : Cond.methodLink RX10 217 yX0_offer ∈ lw_tg := List.mem_filter.mpr ⟨List.mem_append_right _ (List.mem_of_getElem? (i := 634) rfl), rfl⟩
set_option maxRecDepth 20000 in
theorem tw_668 : Cond.instanceMethod yX0_offer ∈ lw_tg := List.mem_filter.mpr ⟨List.mem_append_right _ (List.mem_of_getElem? (i := 635) rfl), rfl⟩
set_option maxRecDepth 20000 in
theorem tw_669 : Cond.selects RX0 yX0_offer yX0_offer ∈ lw_tg := List.mem_filter.mpr ⟨List.mem_append_right _ (List.mem_of_getElem? (i := 636) rfl), rfl⟩
set_option maxRecDepth 20000 in
theorem tw_670 : Cond.code yX0_offer cX0_offer 8 none ∈ lw_tg := List.mem_filter.mpr ⟨List.mem_append_right _ (List.mem_of_getElem? (i := 637) rfl), rfl⟩
set_option maxRecDepth 20000 in
theorem tw_671 : Cond.constant "HopYard$Allotment" 50 (117649 : Int32) ∈ lw_tg := List.mem_filter.mpr ⟨List.mem_append_right _ (List.mem_of_getElem? (i := 638) rfl), rfl⟩
set_option maxRecDepth 20000 in
theorem tw_672 : Cond.methodLink RX0 51 yJ9_max_7cf53 ∈ lw_tg := List.mem_filter.mpr ⟨List.mem_append_right _ (List.mem_of_getElem? (i := 639) rfl), rfl⟩
set_option maxRecDepth 20000 in
theorem tw_673 : Cond.methodLink RX10 220 yX0_bushels ∈ lw_tg := List.mem_filter.mpr ⟨List.mem_append_right _ (List.mem_of_getElem? (i := 640) rfl), rfl⟩
set_option maxRecDepth 20000 in
theorem tw_674 : Cond.instanceMethod yX0_bushels ∈ lw_tg := List.mem_filter.mpr ⟨List.mem_append_right _ (List.mem_of_getElem? (i := 641) rfl), rfl⟩
set_option maxRecDepth 20000 in
theorem tw_675 : Cond.selects RX0 yX0_bushels yX0_bushels ∈ lw_tg := List.mem_filter.mpr ⟨List.mem_append_right _ (List.mem_of_getElem? (i := 642) rfl), rfl⟩
set_option maxRecDepth 20000 in
theorem tw_676 : Cond.code yX0_bushels cX0_bushels 1 (some FieldType.int) ∈ lw_tg := List.mem_filter.mpr ⟨List.mem_append_right _ (List.mem_of_getElem? (i := 643) rfl), rfl⟩
set_option maxRecDepth 20000 in
theorem tw_677 : Cond.methodLink RX10 222 yX0_number ∈ lw_tg := List.mem_filter.mpr ⟨List.mem_append_right _ (List.mem_of_getElem? (i := 644) rfl), rfl⟩
set_option maxRecDepth 20000 in
theorem tw_678 : Cond.instanceMethod yX0_number ∈ lw_tg := List.mem_filter.mpr ⟨List.mem_append_right _ (List.mem_of_getElem? (i := 645) rfl), rfl⟩
set_option maxRecDepth 20000 in
theorem tw_679 : Cond.selects RX0 yX0_number yX0_number ∈ lw_tg := List.mem_filter.mpr ⟨List.mem_append_right _ (List.mem_of_getElem? (i := 646) rfl), rfl⟩
set_option maxRecDepth 20000 in
theorem tw_680 : Cond.code yX0_number cX0_number 1 (some FieldType.int) ∈ lw_tg := List.mem_filter.mpr ⟨List.mem_append_right _ (List.mem_of_getElem? (i := 647) rfl), rfl⟩
set_option maxRecDepth 20000 in
theorem tw_681 : Cond.methodLink RX0 54 yX0_bushels ∈ lw_tg := List.mem_filter.mpr ⟨List.mem_append_right _ (List.mem_of_getElem? (i := 648) rfl), rfl⟩
set_option maxRecDepth 20000 in
theorem tw_682 : Cond.methodLink RL 97 yX10_trace ∈ lw_tg := List.mem_filter.mpr ⟨List.mem_append_right _ (List.mem_of_getElem? (i := 649) rfl), rfl⟩
set_option maxRecDepth 20000 in
theorem tw_683 : Cond.instanceMethod yX10_trace ∈ lw_tg := List.mem_filter.mpr ⟨List.mem_append_right _ (List.mem_of_getElem? (i := 650) rfl), rfl⟩
set_option maxRecDepth 20000 in
theorem tw_684 : Cond.selects RX10 yX10_trace yX10_trace ∈ lw_tg := List.mem_filter.mpr ⟨List.mem_append_right _ (List.mem_of_getElem? (i := 651) rfl), rfl⟩
set_option maxRecDepth 20000 in
theorem tw_685 : Cond.code yX10_trace cX10_trace 1 (some FieldType.long) ∈ lw_tg := List.mem_filter.mpr ⟨List.mem_append_right _ (List.mem_of_getElem? (i := 652) rfl), rfl⟩
set_option maxRecDepth 20000 in
theorem tw_686 : Cond.classLink RL 10 RX11 ∈ lw_tg := List.mem_filter.mpr ⟨List.mem_append_right _ (List.mem_of_getElem? (i := 653) rfl), rfl⟩
set_option maxRecDepth 20000 in
theorem tw_687 : Cond.instantiable RX11 37 ∈ lw_tg := List.mem_filter.mpr ⟨List.mem_append_right _ (List.mem_of_getElem? (i := 654) rfl), rfl⟩
set_option maxRecDepth 20000 in
theorem tw_688 : Cond.methodLink RL 12 yX11_init ∈ lw_tg := List.mem_filter.mpr ⟨List.mem_append_right _ (List.mem_of_getElem? (i := 655) rfl), rfl⟩
set_option maxRecDepth 20000 in
theorem tw_689 : Cond.instanceMethod yX11_init ∈ lw_tg := List.mem_filter.mpr ⟨List.mem_append_right _ (List.mem_of_getElem? (i := 656) rfl), rfl⟩
set_option maxRecDepth 20000 in
theorem tw_690 : Cond.code yX11_init cX11_init 1 none ∈ lw_tg := List.mem_filter.mpr ⟨List.mem_append_right _ (List.mem_of_getElem? (i := 657) rfl), rfl⟩
set_option maxRecDepth 20000 in
theorem tw_691 : Cond.methodLink RX11 1 objectInit ∈ lw_tg := List.mem_filter.mpr ⟨List.mem_append_right _ (List.mem_of_getElem? (i := 658) rfl), rfl⟩
set_option maxRecDepth 20000 in
theorem tw_692 : Cond.fieldLink RX11 92 "HopYardModel" "now" "I" ∈ lw_tg := List.mem_filter.mpr ⟨List.mem_append_right _ (List.mem_of_getElem? (i := 659) rfl), rfl⟩
set_option maxRecDepth 20000 in
theorem tw_693 : Cond.fieldLink RX11 7 "HopYardModel" "wait" "I" ∈ lw_tg := List.mem_filter.mpr ⟨List.mem_append_right _ (List.mem_of_getElem? (i := 660) rfl), rfl⟩
set_option maxRecDepth 20000 in
theorem tw_694 : Cond.fieldLink RX11 95 "HopYardModel" "gardens" "I" ∈ lw_tg := List.mem_filter.mpr ⟨List.mem_append_right _ (List.mem_of_getElem? (i := 661) rfl), rfl⟩
set_option maxRecDepth 20000 in
theorem tw_695 : Cond.fieldLink RX11 13 "HopYardModel" "left" "[I" ∈ lw_tg := List.mem_filter.mpr ⟨List.mem_append_right _ (List.mem_of_getElem? (i := 662) rfl), rfl⟩
set_option maxRecDepth 20000 in
theorem tw_696 : Cond.fieldLink RX11 17 "HopYardModel" "ripeFrom" "[I" ∈ lw_tg := List.mem_filter.mpr ⟨List.mem_append_right _ (List.mem_of_getElem? (i := 663) rfl), rfl⟩
set_option maxRecDepth 20000 in
theorem tw_697 : Cond.fieldLink RX11 20 "HopYardModel" "ripeTo" "[I" ∈ lw_tg := List.mem_filter.mpr ⟨List.mem_append_right _ (List.mem_of_getElem? (i := 664) rfl), rfl⟩
set_option maxRecDepth 20000 in
theorem tw_698 : Cond.fieldLink RX11 23 "HopYardModel" "picked" "[I" ∈ lw_tg := List.mem_filter.mpr ⟨List.mem_append_right _ (List.mem_of_getElem? (i := 665) rfl), rfl⟩
set_option maxRecDepth 20000 in
theorem tw_699 : Cond.fieldLink RX11 26 "HopYardModel" "lost" "[I" ∈ lw_tg := List.mem_filter.mpr ⟨List.mem_append_right _ (List.mem_of_getElem? (i := 666) rfl), rfl⟩
set_option maxRecDepth 20000 in
theorem tw_700 : Cond.fieldLink RX11 29 "HopYardModel" "dried" "[I" ∈ lw_tg := List.mem_filter.mpr ⟨List.mem_append_right _ (List.mem_of_getElem? (i := 667) rfl), rfl⟩
set_option maxRecDepth 20000 in
theorem tw_701 : Cond.fieldLink RX11 102 "HopYardModel" "gangs" "I" ∈ lw_tg := List.mem_filter.mpr ⟨List.mem_append_right _ (List.mem_of_getElem? (i := 668) rfl), rfl⟩
set_option maxRecDepth 20000 in
theorem tw_702 : Cond.fieldLink RX11 32 "HopYardModel" "rate" "[I" ∈ lw_tg := List.mem_filter.mpr ⟨List.mem_append_right _ (List.mem_of_getElem? (i := 669) rfl), rfl⟩
set_option maxRecDepth 20000 in
theorem tw_703 : Cond.fieldLink RX11 35 "HopYardModel" "measure" "[I" ∈ lw_tg := List.mem_filter.mpr ⟨List.mem_append_right _ (List.mem_of_getElem? (i := 670) rfl), rfl⟩
set_option maxRecDepth 20000 in
theorem tw_704 : Cond.fieldLink RX11 38 "HopYardModel" "place" "[I" ∈ lw_tg := List.mem_filter.mpr ⟨List.mem_append_right _ (List.mem_of_getElem? (i := 671) rfl), rfl⟩
set_option maxRecDepth 20000 in
theorem tw_705 : Cond.fieldLink RX11 41 "HopYardModel" "gangPicked" "[I" ∈ lw_tg := List.mem_filter.mpr ⟨List.mem_append_right _ (List.mem_of_getElem? (i := 672) rfl), rfl⟩
set_option maxRecDepth 20000 in
theorem tw_706 : Cond.fieldLink RX11 44 "HopYardModel" "gangTold" "[I" ∈ lw_tg := List.mem_filter.mpr ⟨List.mem_append_right _ (List.mem_of_getElem? (i := 673) rfl), rfl⟩
set_option maxRecDepth 20000 in
theorem tw_707 : Cond.fieldLink RX11 47 "HopYardModel" "gangPay" "[I" ∈ lw_tg := List.mem_filter.mpr ⟨List.mem_append_right _ (List.mem_of_getElem? (i := 674) rfl), rfl⟩
set_option maxRecDepth 20000 in
theorem tw_708 : Cond.fieldLink RX11 50 "HopYardModel" "green" "[I" ∈ lw_tg := List.mem_filter.mpr ⟨List.mem_append_right _ (List.mem_of_getElem? (i := 675) rfl), rfl⟩
set_option maxRecDepth 20000 in
theorem tw_709 : Cond.fieldLink RX11 105 "HopYardModel" "kilns" "I" ∈ lw_tg := List.mem_filter.mpr ⟨List.mem_append_right _ (List.mem_of_getElem? (i := 676) rfl), rfl⟩
set_option maxRecDepth 20000 in
theorem tw_710 : Cond.fieldLink RX11 53 "HopYardModel" "kind" "[I" ∈ lw_tg := List.mem_filter.mpr ⟨List.mem_append_right _ (List.mem_of_getElem? (i := 677) rfl), rfl⟩
set_option maxRecDepth 20000 in
theorem tw_711 : Cond.fieldLink RX11 56 "HopYardModel" "room" "[I" ∈ lw_tg := List.mem_filter.mpr ⟨List.mem_append_right _ (List.mem_of_getElem? (i := 678) rfl), rfl⟩
set_option maxRecDepth 20000 in
theorem tw_712 : Cond.fieldLink RX11 59 "HopYardModel" "reading" "[I" ∈ lw_tg := List.mem_filter.mpr ⟨List.mem_append_right _ (List.mem_of_getElem? (i := 679) rfl), rfl⟩
set_option maxRecDepth 20000 in
theorem tw_713 : Cond.fieldLink RX11 62 "HopYardModel" "share" "[I" ∈ lw_tg := List.mem_filter.mpr ⟨List.mem_append_right _ (List.mem_of_getElem? (i := 680) rfl), rfl⟩
set_option maxRecDepth 20000 in
theorem tw_714 : Cond.fieldLink RX11 65 "HopYardModel" "filled" "[I" ∈ lw_tg := List.mem_filter.mpr ⟨List.mem_append_right _ (List.mem_of_getElem? (i := 681) rfl), rfl⟩
set_option maxRecDepth 20000 in
theorem tw_715 : Cond.fieldLink RX11 68 "HopYardModel" "bushel" "[I" ∈ lw_tg := List.mem_filter.mpr ⟨List.mem_append_right _ (List.mem_of_getElem? (i := 682) rfl), rfl⟩
set_option maxRecDepth 20000 in
theorem tw_716 : Cond.fieldLink RX11 150 "HopYardModel" "pockets" "I" ∈ lw_tg := List.mem_filter.mpr ⟨List.mem_append_right _ (List.mem_of_getElem? (i := 683) rfl), rfl⟩
set_option maxRecDepth 20000 in
theorem tw_717 : Cond.fieldLink RX11 71 "HopYardModel" "pocketGardens" "[I" ∈ lw_tg := List.mem_filter.mpr ⟨List.mem_append_right _ (List.mem_of_getElem? (i := 684) rfl), rfl⟩
set_option maxRecDepth 20000 in
theorem tw_718 : Cond.fieldLink RX11 74 "HopYardModel" "pocketDay" "[I" ∈ lw_tg := List.mem_filter.mpr ⟨List.mem_append_right _ (List.mem_of_getElem? (i := 685) rfl), rfl⟩
set_option maxRecDepth 20000 in
theorem tw_719 : Cond.fieldLink RX11 144 "HopYardModel" "loose" "I" ∈ lw_tg := List.mem_filter.mpr ⟨List.mem_append_right _ (List.mem_of_getElem? (i := 686) rfl), rfl⟩
set_option maxRecDepth 20000 in
theorem tw_720 : Cond.fieldLink RX11 147 "HopYardModel" "looseGardens" "I" ∈ lw_tg := List.mem_filter.mpr ⟨List.mem_append_right _ (List.mem_of_getElem? (i := 687) rfl), rfl⟩
set_option maxRecDepth 20000 in
theorem tw_721 : Cond.fieldLink RX11 130 "HopYardModel" "prices" "I" ∈ lw_tg := List.mem_filter.mpr ⟨List.mem_append_right _ (List.mem_of_getElem? (i := 688) rfl), rfl⟩
set_option maxRecDepth 20000 in
theorem tw_722 : Cond.fieldLink RX11 77 "HopYardModel" "priceHour" "[I" ∈ lw_tg := List.mem_filter.mpr ⟨List.mem_append_right _ (List.mem_of_getElem? (i := 689) rfl), rfl⟩
set_option maxRecDepth 20000 in
theorem tw_723 : Cond.fieldLink RX11 80 "HopYardModel" "priceOf" "[I" ∈ lw_tg := List.mem_filter.mpr ⟨List.mem_append_right _ (List.mem_of_getElem? (i := 690) rfl), rfl⟩
set_option maxRecDepth 20000 in
theorem tw_724 : Cond.fieldLink RX11 133 "HopYardModel" "acts" "I" ∈ lw_tg := List.mem_filter.mpr ⟨List.mem_append_right _ (List.mem_of_getElem? (i := 691) rfl), rfl⟩
set_option maxRecDepth 20000 in
theorem tw_725 : Cond.fieldLink RX11 83 "HopYardModel" "actDay" "[I" ∈ lw_tg := List.mem_filter.mpr ⟨List.mem_append_right _ (List.mem_of_getElem? (i := 692) rfl), rfl⟩
set_option maxRecDepth 20000 in
theorem tw_726 : Cond.fieldLink RX11 86 "HopYardModel" "actDuty" "[I" ∈ lw_tg := List.mem_filter.mpr ⟨List.mem_append_right _ (List.mem_of_getElem? (i := 693) rfl), rfl⟩
set_option maxRecDepth 20000 in
theorem tw_727 : Cond.fieldLink RX11 118 "HopYardModel" "trace" "J" ∈ lw_tg := List.mem_filter.mpr ⟨List.mem_append_right _ (List.mem_of_getElem? (i := 694) rfl), rfl⟩
set_option maxRecDepth 20000 in
theorem tw_728 : Cond.fieldLink RX11 89 "HopYardModel" "together" "[I" ∈ lw_tg := List.mem_filter.mpr ⟨List.mem_append_right _ (List.mem_of_getElem? (i := 695) rfl), rfl⟩
set_option maxRecDepth 20000 in
theorem tw_729 : Cond.lays RX11 "HopYardModel" "now" "I" ∈ lw_tg := List.mem_filter.mpr ⟨List.mem_append_right _ (List.mem_of_getElem? (i := 696) rfl), rfl⟩
set_option maxRecDepth 20000 in
theorem tw_731 : Cond.lays RX11 "HopYardModel" "wait" "I" ∈ lw_tg := List.mem_filter.mpr ⟨List.mem_append_right _ (List.mem_of_getElem? (i := 698) rfl), rfl⟩
set_option maxRecDepth 20000 in
theorem tw_733 : Cond.lays RX11 "HopYardModel" "gardens" "I" ∈ lw_tg := List.mem_filter.mpr ⟨List.mem_append_right _ (List.mem_of_getElem? (i := 700) rfl), rfl⟩
set_option maxRecDepth 20000 in
theorem tw_735 : Cond.laysFinal RX11 "HopYardModel" "left" "[I" ∈ lw_tg := List.mem_filter.mpr ⟨List.mem_append_right _ (List.mem_of_getElem? (i := 702) rfl), rfl⟩
set_option maxRecDepth 20000 in
theorem tw_737 : Cond.laysFinal RX11 "HopYardModel" "ripeFrom" "[I" ∈ lw_tg := List.mem_filter.mpr ⟨List.mem_append_right _ (List.mem_of_getElem? (i := 704) rfl), rfl⟩
set_option maxRecDepth 20000 in
theorem tw_739 : Cond.laysFinal RX11 "HopYardModel" "ripeTo" "[I" ∈ lw_tg := List.mem_filter.mpr ⟨List.mem_append_right _ (List.mem_of_getElem? (i := 706) rfl), rfl⟩
set_option maxRecDepth 20000 in
theorem tw_741 : Cond.laysFinal RX11 "HopYardModel" "picked" "[I" ∈ lw_tg := List.mem_filter.mpr ⟨List.mem_append_right _ (List.mem_of_getElem? (i := 708) rfl), rfl⟩
set_option maxRecDepth 20000 in
theorem tw_743 : Cond.laysFinal RX11 "HopYardModel" "lost" "[I" ∈ lw_tg := List.mem_filter.mpr ⟨List.mem_append_right _ (List.mem_of_getElem? (i := 710) rfl), rfl⟩
set_option maxRecDepth 20000 in
theorem tw_745 : Cond.laysFinal RX11 "HopYardModel" "dried" "[I" ∈ lw_tg := List.mem_filter.mpr ⟨List.mem_append_right _ (List.mem_of_getElem? (i := 712) rfl), rfl⟩
set_option maxRecDepth 20000 in
theorem tw_747 : Cond.lays RX11 "HopYardModel" "gangs" "I" ∈ lw_tg := List.mem_filter.mpr ⟨List.mem_append_right _ (List.mem_of_getElem? (i := 714) rfl), rfl⟩
set_option maxRecDepth 20000 in
theorem tw_749 : Cond.laysFinal RX11 "HopYardModel" "rate" "[I" ∈ lw_tg := List.mem_filter.mpr ⟨List.mem_append_right _ (List.mem_of_getElem? (i := 716) rfl), rfl⟩
set_option maxRecDepth 20000 in
theorem tw_751 : Cond.laysFinal RX11 "HopYardModel" "measure" "[I" ∈ lw_tg := List.mem_filter.mpr ⟨List.mem_append_right _ (List.mem_of_getElem? (i := 718) rfl), rfl⟩
set_option maxRecDepth 20000 in
theorem tw_753 : Cond.laysFinal RX11 "HopYardModel" "place" "[I" ∈ lw_tg := List.mem_filter.mpr ⟨List.mem_append_right _ (List.mem_of_getElem? (i := 720) rfl), rfl⟩
set_option maxRecDepth 20000 in
theorem tw_755 : Cond.laysFinal RX11 "HopYardModel" "gangPicked" "[I" ∈ lw_tg := List.mem_filter.mpr ⟨List.mem_append_right _ (List.mem_of_getElem? (i := 722) rfl), rfl⟩
set_option maxRecDepth 20000 in
theorem tw_757 : Cond.laysFinal RX11 "HopYardModel" "gangTold" "[I" ∈ lw_tg := List.mem_filter.mpr ⟨List.mem_append_right _ (List.mem_of_getElem? (i := 724) rfl), rfl⟩
set_option maxRecDepth 20000 in
theorem tw_759 : Cond.laysFinal RX11 "HopYardModel" "gangPay" "[I" ∈ lw_tg := List.mem_filter.mpr ⟨List.mem_append_right _ (List.mem_of_getElem? (i := 726) rfl), rfl⟩
set_option maxRecDepth 20000 in
theorem tw_761 : Cond.laysFinal RX11 "HopYardModel" "green" "[I" ∈ lw_tg := List.mem_filter.mpr ⟨List.mem_append_right _ (List.mem_of_getElem? (i := 728) rfl), rfl⟩
set_option maxRecDepth 20000 in
theorem tw_763 : Cond.lays RX11 "HopYardModel" "kilns" "I" ∈ lw_tg := List.mem_filter.mpr ⟨List.mem_append_right _ (List.mem_of_getElem? (i := 730) rfl), rfl⟩
set_option maxRecDepth 20000 in
theorem tw_765 : Cond.laysFinal RX11 "HopYardModel" "kind" "[I" ∈ lw_tg := List.mem_filter.mpr ⟨List.mem_append_right _ (List.mem_of_getElem? (i := 732) rfl), rfl⟩
set_option maxRecDepth 20000 in
theorem tw_767 : Cond.laysFinal RX11 "HopYardModel" "room" "[I" ∈ lw_tg := List.mem_filter.mpr ⟨List.mem_append_right _ (List.mem_of_getElem? (i := 734) rfl), rfl⟩
set_option maxRecDepth 20000 in
theorem tw_769 : Cond.laysFinal RX11 "HopYardModel" "reading" "[I" ∈ lw_tg := List.mem_filter.mpr ⟨List.mem_append_right _ (List.mem_of_getElem? (i := 736) rfl), rfl⟩
set_option maxRecDepth 20000 in
theorem tw_771 : Cond.laysFinal RX11 "HopYardModel" "share" "[I" ∈ lw_tg := List.mem_filter.mpr ⟨List.mem_append_right _ (List.mem_of_getElem? (i := 738) rfl), rfl⟩
set_option maxRecDepth 20000 in
theorem tw_773 : Cond.laysFinal RX11 "HopYardModel" "filled" "[I" ∈ lw_tg := List.mem_filter.mpr ⟨List.mem_append_right _ (List.mem_of_getElem? (i := 740) rfl), rfl⟩
set_option maxRecDepth 20000 in
theorem tw_775 : Cond.laysFinal RX11 "HopYardModel" "bushel" "[I" ∈ lw_tg := List.mem_filter.mpr ⟨List.mem_append_right _ (List.mem_of_getElem? (i := 742) rfl), rfl⟩
set_option maxRecDepth 20000 in
theorem tw_777 : Cond.lays RX11 "HopYardModel" "pockets" "I" ∈ lw_tg := List.mem_filter.mpr ⟨List.mem_append_right _ (List.mem_of_getElem? (i := 744) rfl), rfl⟩
set_option maxRecDepth 20000 in
theorem tw_779 : Cond.laysFinal RX11 "HopYardModel" "pocketGardens" "[I" ∈ lw_tg := List.mem_filter.mpr ⟨List.mem_append_right _ (List.mem_of_getElem? (i := 746) rfl), rfl⟩
set_option maxRecDepth 20000 in
theorem tw_781 : Cond.laysFinal RX11 "HopYardModel" "pocketDay" "[I" ∈ lw_tg := List.mem_filter.mpr ⟨List.mem_append_right _ (List.mem_of_getElem? (i := 748) rfl), rfl⟩
set_option maxRecDepth 20000 in
theorem tw_783 : Cond.lays RX11 "HopYardModel" "loose" "I" ∈ lw_tg := List.mem_filter.mpr ⟨List.mem_append_right _ (List.mem_of_getElem? (i := 750) rfl), rfl⟩
set_option maxRecDepth 20000 in
theorem tw_785 : Cond.lays RX11 "HopYardModel" "looseGardens" "I" ∈ lw_tg := List.mem_filter.mpr ⟨List.mem_append_right _ (List.mem_of_getElem? (i := 752) rfl), rfl⟩
set_option maxRecDepth 20000 in
theorem tw_787 : Cond.lays RX11 "HopYardModel" "prices" "I" ∈ lw_tg := List.mem_filter.mpr ⟨List.mem_append_right _ (List.mem_of_getElem? (i := 754) rfl), rfl⟩
set_option maxRecDepth 20000 in
theorem tw_789 : Cond.laysFinal RX11 "HopYardModel" "priceHour" "[I" ∈ lw_tg := List.mem_filter.mpr ⟨List.mem_append_right _ (List.mem_of_getElem? (i := 756) rfl), rfl⟩
set_option maxRecDepth 20000 in
theorem tw_791 : Cond.laysFinal RX11 "HopYardModel" "priceOf" "[I" ∈ lw_tg := List.mem_filter.mpr ⟨List.mem_append_right _ (List.mem_of_getElem? (i := 758) rfl), rfl⟩
set_option maxRecDepth 20000 in
theorem tw_793 : Cond.lays RX11 "HopYardModel" "acts" "I" ∈ lw_tg := List.mem_filter.mpr ⟨List.mem_append_right _ (List.mem_of_getElem? (i := 760) rfl), rfl⟩
set_option maxRecDepth 20000 in
theorem tw_795 : Cond.laysFinal RX11 "HopYardModel" "actDay" "[I" ∈ lw_tg := List.mem_filter.mpr ⟨List.mem_append_right _ (List.mem_of_getElem? (i := 762) rfl), rfl⟩
set_option maxRecDepth 20000 in
theorem tw_797 : Cond.laysFinal RX11 "HopYardModel" "actDuty" "[I" ∈ lw_tg := List.mem_filter.mpr ⟨List.mem_append_right _ (List.mem_of_getElem? (i := 764) rfl), rfl⟩
set_option maxRecDepth 20000 in
theorem tw_799 : Cond.lays RX11 "HopYardModel" "trace" "J" ∈ lw_tg := List.mem_filter.mpr ⟨List.mem_append_right _ (List.mem_of_getElem? (i := 766) rfl), rfl⟩
set_option maxRecDepth 20000 in
theorem tw_801 : Cond.laysFinal RX11 "HopYardModel" "together" "[I" ∈ lw_tg := List.mem_filter.mpr ⟨List.mem_append_right _ (List.mem_of_getElem? (i := 768) rfl), rfl⟩
set_option maxRecDepth 20000 in
theorem tw_803 : Cond.superclass "HopYardModel" "java/lang/Object" ∈ lw_tg := List.mem_filter.mpr ⟨List.mem_append_right _ (List.mem_of_getElem? (i := 770) rfl), rfl⟩
set_option maxRecDepth 20000 in
theorem tw_804 : Cond.methodLink RL 17 yX11_garden ∈ lw_tg := List.mem_filter.mpr ⟨List.mem_append_right _ (List.mem_of_getElem? (i := 771) rfl), rfl⟩
set_option maxRecDepth 20000 in
theorem tw_805 : Cond.instanceMethod yX11_garden ∈ lw_tg := List.mem_filter.mpr ⟨List.mem_append_right _ (List.mem_of_getElem? (i := 772) rfl), rfl⟩
set_option maxRecDepth 20000 in
theorem tw_806 : Cond.selects RX11 yX11_garden yX11_garden ∈ lw_tg := List.mem_filter.mpr ⟨List.mem_append_right _ (List.mem_of_getElem? (i := 773) rfl), rfl⟩
set_option maxRecDepth 20000 in
theorem tw_807 : Cond.code yX11_garden cX11_garden 4 (some FieldType.int) ∈ lw_tg := List.mem_filter.mpr ⟨List.mem_append_right _ (List.mem_of_getElem? (i := 774) rfl), rfl⟩
set_option maxRecDepth 20000 in
theorem tw_808 : Cond.methodLink RX11 98 yX11_isIn ∈ lw_tg := List.mem_filter.mpr ⟨List.mem_append_right _ (List.mem_of_getElem? (i := 775) rfl), rfl⟩
set_option maxRecDepth 20000 in
theorem tw_809 : Cond.static yX11_isIn ∈ lw_tg := List.mem_filter.mpr ⟨List.mem_append_right _ (List.mem_of_getElem? (i := 776) rfl), rfl⟩
set_option maxRecDepth 20000 in
theorem tw_810 : Cond.code yX11_isIn cX11_isIn 3 (some FieldType.boolean) ∈ lw_tg := List.mem_filter.mpr ⟨List.mem_append_right _ (List.mem_of_getElem? (i := 777) rfl), rfl⟩
set_option maxRecDepth 20000 in
theorem tw_811 : Cond.methodLink RL 22 yX11_gang ∈ lw_tg := List.mem_filter.mpr ⟨List.mem_append_right _ (List.mem_of_getElem? (i := 778) rfl), rfl⟩
set_option maxRecDepth 20000 in
theorem tw_812 : Cond.instanceMethod yX11_gang ∈ lw_tg := List.mem_filter.mpr ⟨List.mem_append_right _ (List.mem_of_getElem? (i := 779) rfl), rfl⟩
set_option maxRecDepth 20000 in
theorem tw_813 : Cond.selects RX11 yX11_gang yX11_gang ∈ lw_tg := List.mem_filter.mpr ⟨List.mem_append_right _ (List.mem_of_getElem? (i := 780) rfl), rfl⟩
set_option maxRecDepth 20000 in
theorem tw_814 : Cond.code yX11_gang cX11_gang 3 (some FieldType.int) ∈ lw_tg := List.mem_filter.mpr ⟨List.mem_append_right _ (List.mem_of_getElem? (i := 781) rfl), rfl⟩
set_option maxRecDepth 20000 in
theorem tw_815 : Cond.methodLink RL 26 yX11_sends ∈ lw_tg := List.mem_filter.mpr ⟨List.mem_append_right _ (List.mem_of_getElem? (i := 782) rfl), rfl⟩
set_option maxRecDepth 20000 in
theorem tw_816 : Cond.instanceMethod yX11_sends ∈ lw_tg := List.mem_filter.mpr ⟨List.mem_append_right _ (List.mem_of_getElem? (i := 783) rfl), rfl⟩
set_option maxRecDepth 20000 in
theorem tw_817 : Cond.selects RX11 yX11_sends yX11_sends ∈ lw_tg := List.mem_filter.mpr ⟨List.mem_append_right _ (List.mem_of_getElem? (i := 784) rfl), rfl⟩
set_option maxRecDepth 20000 in
theorem tw_818 : Cond.code yX11_sends cX11_sends 4 (some FieldType.int) ∈ lw_tg := List.mem_filter.mpr ⟨List.mem_append_right _ (List.mem_of_getElem? (i := 785) rfl), rfl⟩
set_option maxRecDepth 20000 in
theorem tw_819 : Cond.methodLink RX11 108 yX11_isGang ∈ lw_tg := List.mem_filter.mpr ⟨List.mem_append_right _ (List.mem_of_getElem? (i := 786) rfl), rfl⟩
set_option maxRecDepth 20000 in
theorem tw_820 : Cond.privateMethod yX11_isGang ∈ lw_tbl := List.mem_append_right _ (List.mem_of_getElem? (i := 787) rfl)
set_option maxRecDepth 20000 in
theorem tw_821 : Cond.instanceMethod yX11_isGang ∈ lw_tg := List.mem_filter.mpr ⟨List.mem_append_right _ (List.mem_of_getElem? (i := 788) rfl), rfl⟩
set_option maxRecDepth 20000 in
theorem tw_822 : Cond.code yX11_isGang cX11_isGang 2 (some FieldType.boolean) ∈ lw_tg := List.mem_filter.mpr ⟨List.mem_append_right _ (List.mem_of_getElem? (i := 789) rfl), rfl⟩
set_option maxRecDepth 20000 in
theorem tw_823 : Cond.methodLink RX11 112 yX11_isGarden ∈ lw_tg := List.mem_filter.mpr ⟨List.mem_append_right _ (List.mem_of_getElem? (i := 790) rfl), rfl⟩
set_option maxRecDepth 20000 in
theorem tw_824 : Cond.privateMethod yX11_isGarden ∈ lw_tbl := List.mem_append_right _ (List.mem_of_getElem? (i := 791) rfl)
set_option maxRecDepth 20000 in
theorem tw_825 : Cond.instanceMethod yX11_isGarden ∈ lw_tg := List.mem_filter.mpr ⟨List.mem_append_right _ (List.mem_of_getElem? (i := 792) rfl), rfl⟩
set_option maxRecDepth 20000 in
theorem tw_826 : Cond.code yX11_isGarden cX11_isGarden 2 (some FieldType.boolean) ∈ lw_tg := List.mem_filter.mpr ⟨List.mem_append_right _ (List.mem_of_getElem? (i := 793) rfl), rfl⟩
set_option maxRecDepth 20000 in
theorem tw_827 : Cond.methodLink RL 30 yX11_kiln ∈ lw_tg := List.mem_filter.mpr ⟨List.mem_append_right _ (List.mem_of_getElem? (i := 794) rfl), rfl⟩
set_option maxRecDepth 20000 in
theorem tw_828 : Cond.instanceMethod yX11_kiln ∈ lw_tg := List.mem_filter.mpr ⟨List.mem_append_right _ (List.mem_of_getElem? (i := 795) rfl), rfl⟩
set_option maxRecDepth 20000 in
theorem tw_829 : Cond.selects RX11 yX11_kiln yX11_kiln ∈ lw_tg := List.mem_filter.mpr ⟨List.mem_append_right _ (List.mem_of_getElem? (i := 796) rfl), rfl⟩
set_option maxRecDepth 20000 in
theorem tw_830 : Cond.code yX11_kiln cX11_kiln 3 (some FieldType.int) ∈ lw_tg := List.mem_filter.mpr ⟨List.mem_append_right _ (List.mem_of_getElem? (i := 797) rfl), rfl⟩
set_option maxRecDepth 20000 in
theorem tw_831 : Cond.methodLink RL 34 yX11_read ∈ lw_tg := List.mem_filter.mpr ⟨List.mem_append_right _ (List.mem_of_getElem? (i := 798) rfl), rfl⟩
set_option maxRecDepth 20000 in
theorem tw_832 : Cond.instanceMethod yX11_read ∈ lw_tg := List.mem_filter.mpr ⟨List.mem_append_right _ (List.mem_of_getElem? (i := 799) rfl), rfl⟩
set_option maxRecDepth 20000 in
theorem tw_833 : Cond.selects RX11 yX11_read yX11_read ∈ lw_tg := List.mem_filter.mpr ⟨List.mem_append_right _ (List.mem_of_getElem? (i := 800) rfl), rfl⟩
set_option maxRecDepth 20000 in
theorem tw_834 : Cond.code yX11_read cX11_read 4 (some FieldType.int) ∈ lw_tg := List.mem_filter.mpr ⟨List.mem_append_right _ (List.mem_of_getElem? (i := 801) rfl), rfl⟩
set_option maxRecDepth 20000 in
theorem tw_835 : Cond.methodLink RX11 115 yX11_isKiln ∈ lw_tg := List.mem_filter.mpr ⟨List.mem_append_right _ (List.mem_of_getElem? (i := 802) rfl), rfl⟩
set_option maxRecDepth 20000 in
theorem tw_836 : Cond.privateMethod yX11_isKiln ∈ lw_tbl := List.mem_append_right _ (List.mem_of_getElem? (i := 803) rfl)
set_option maxRecDepth 20000 in
theorem tw_837 : Cond.instanceMethod yX11_isKiln ∈ lw_tg := List.mem_filter.mpr ⟨List.mem_append_right _ (List.mem_of_getElem? (i := 804) rfl), rfl⟩
set_option maxRecDepth 20000 in
theorem tw_838 : Cond.code yX11_isKiln cX11_isKiln 2 (some FieldType.boolean) ∈ lw_tg := List.mem_filter.mpr ⟨List.mem_append_right _ (List.mem_of_getElem? (i := 805) rfl), rfl⟩
set_option maxRecDepth 20000 in
theorem tw_839 : Cond.methodLink RL 38 yX11_drying ∈ lw_tg := List.mem_filter.mpr ⟨List.mem_append_right _ (List.mem_of_getElem? (i := 806) rfl), rfl⟩
set_option maxRecDepth 20000 in
theorem tw_840 : Cond.instanceMethod yX11_drying ∈ lw_tg := List.mem_filter.mpr ⟨List.mem_append_right _ (List.mem_of_getElem? (i := 807) rfl), rfl⟩
set_option maxRecDepth 20000 in
theorem tw_841 : Cond.selects RX11 yX11_drying yX11_drying ∈ lw_tg := List.mem_filter.mpr ⟨List.mem_append_right _ (List.mem_of_getElem? (i := 808) rfl), rfl⟩
set_option maxRecDepth 20000 in
theorem tw_842 : Cond.code yX11_drying cX11_drying 3 (some FieldType.int) ∈ lw_tg := List.mem_filter.mpr ⟨List.mem_append_right _ (List.mem_of_getElem? (i := 809) rfl), rfl⟩
set_option maxRecDepth 20000 in
theorem tw_843 : Cond.constantLong "HopYardModel" 122 (11 : Int64) ∈ lw_tg := List.mem_filter.mpr ⟨List.mem_append_right _ (List.mem_of_getElem? (i := 810) rfl), rfl⟩
set_option maxRecDepth 20000 in
theorem tw_844 : Cond.constantLong "HopYardModel" 124 (111 : Int64) ∈ lw_tg := List.mem_filter.mpr ⟨List.mem_append_right _ (List.mem_of_getElem? (i := 811) rfl), rfl⟩
set_option maxRecDepth 20000 in
theorem tw_845 : Cond.methodLink RX11 126 yX11_dryingBy ∈ lw_tg := List.mem_filter.mpr ⟨List.mem_append_right _ (List.mem_of_getElem? (i := 812) rfl), rfl⟩
set_option maxRecDepth 20000 in
theorem tw_846 : Cond.static yX11_dryingBy ∈ lw_tg := List.mem_filter.mpr ⟨List.mem_append_right _ (List.mem_of_getElem? (i := 813) rfl), rfl⟩
set_option maxRecDepth 20000 in
theorem tw_847 : Cond.code yX11_dryingBy cX11_dryingBy 3 (some FieldType.int) ∈ lw_tg := List.mem_filter.mpr ⟨List.mem_append_right _ (List.mem_of_getElem? (i := 814) rfl), rfl⟩
set_option maxRecDepth 20000 in
theorem tw_848 : Cond.methodLink RL 43 yX11_waits ∈ lw_tg := List.mem_filter.mpr ⟨List.mem_append_right _ (List.mem_of_getElem? (i := 815) rfl), rfl⟩
set_option maxRecDepth 20000 in
theorem tw_849 : Cond.instanceMethod yX11_waits ∈ lw_tg := List.mem_filter.mpr ⟨List.mem_append_right _ (List.mem_of_getElem? (i := 816) rfl), rfl⟩
set_option maxRecDepth 20000 in
theorem tw_850 : Cond.selects RX11 yX11_waits yX11_waits ∈ lw_tg := List.mem_filter.mpr ⟨List.mem_append_right _ (List.mem_of_getElem? (i := 817) rfl), rfl⟩
set_option maxRecDepth 20000 in
theorem tw_851 : Cond.code yX11_waits cX11_waits 3 (some FieldType.int) ∈ lw_tg := List.mem_filter.mpr ⟨List.mem_append_right _ (List.mem_of_getElem? (i := 818) rfl), rfl⟩
set_option maxRecDepth 20000 in
theorem tw_852 : Cond.methodLink RL 47 yX11_hours ∈ lw_tg := List.mem_filter.mpr ⟨List.mem_append_right _ (List.mem_of_getElem? (i := 819) rfl), rfl⟩
set_option maxRecDepth 20000 in
theorem tw_853 : Cond.instanceMethod yX11_hours ∈ lw_tg := List.mem_filter.mpr ⟨List.mem_append_right _ (List.mem_of_getElem? (i := 820) rfl), rfl⟩
set_option maxRecDepth 20000 in
theorem tw_854 : Cond.selects RX11 yX11_hours yX11_hours ∈ lw_tg := List.mem_filter.mpr ⟨List.mem_append_right _ (List.mem_of_getElem? (i := 821) rfl), rfl⟩
set_option maxRecDepth 20000 in
theorem tw_855 : Cond.code yX11_hours cX11_hours 3 (some FieldType.int) ∈ lw_tg := List.mem_filter.mpr ⟨List.mem_append_right _ (List.mem_of_getElem? (i := 822) rfl), rfl⟩
set_option maxRecDepth 20000 in
theorem tw_856 : Cond.methodLink RX11 169 yX11_oneHour ∈ lw_tg := List.mem_filter.mpr ⟨List.mem_append_right _ (List.mem_of_getElem? (i := 823) rfl), rfl⟩
set_option maxRecDepth 20000 in
theorem tw_857 : Cond.privateMethod yX11_oneHour ∈ lw_tbl := List.mem_append_right _ (List.mem_of_getElem? (i := 824) rfl)
set_option maxRecDepth 20000 in
theorem tw_858 : Cond.instanceMethod yX11_oneHour ∈ lw_tg := List.mem_filter.mpr ⟨List.mem_append_right _ (List.mem_of_getElem? (i := 825) rfl), rfl⟩
set_option maxRecDepth 20000 in
theorem tw_859 : Cond.code yX11_oneHour cX11_oneHour 2 none ∈ lw_tg := List.mem_filter.mpr ⟨List.mem_append_right _ (List.mem_of_getElem? (i := 826) rfl), rfl⟩
set_option maxRecDepth 20000 in
theorem tw_860 : Cond.methodLink RX11 157 yX11_picks ∈ lw_tg := List.mem_filter.mpr ⟨List.mem_append_right _ (List.mem_of_getElem? (i := 827) rfl), rfl⟩
set_option maxRecDepth 20000 in
theorem tw_861 : Cond.privateMethod yX11_picks ∈ lw_tbl := List.mem_append_right _ (List.mem_of_getElem? (i := 828) rfl)
set_option maxRecDepth 20000 in
theorem tw_862 : Cond.instanceMethod yX11_picks ∈ lw_tg := List.mem_filter.mpr ⟨List.mem_append_right _ (List.mem_of_getElem? (i := 829) rfl), rfl⟩
set_option maxRecDepth 20000 in
theorem tw_863 : Cond.code yX11_picks cX11_picks 5 none ∈ lw_tg := List.mem_filter.mpr ⟨List.mem_append_right _ (List.mem_of_getElem? (i := 830) rfl), rfl⟩
set_option maxRecDepth 20000 in
theorem tw_864 : Cond.methodLink RX11 136 yX11_isRipe ∈ lw_tg := List.mem_filter.mpr ⟨List.mem_append_right _ (List.mem_of_getElem? (i := 831) rfl), rfl⟩
set_option maxRecDepth 20000 in
theorem tw_865 : Cond.privateMethod yX11_isRipe ∈ lw_tbl := List.mem_append_right _ (List.mem_of_getElem? (i := 832) rfl)
set_option maxRecDepth 20000 in
theorem tw_866 : Cond.instanceMethod yX11_isRipe ∈ lw_tg := List.mem_filter.mpr ⟨List.mem_append_right _ (List.mem_of_getElem? (i := 833) rfl), rfl⟩
set_option maxRecDepth 20000 in
theorem tw_867 : Cond.code yX11_isRipe cX11_isRipe 3 (some FieldType.boolean) ∈ lw_tg := List.mem_filter.mpr ⟨List.mem_append_right _ (List.mem_of_getElem? (i := 834) rfl), rfl⟩
set_option maxRecDepth 20000 in
theorem tw_868 : Cond.methodLink RX11 140 yX11_priceAt ∈ lw_tg := List.mem_filter.mpr ⟨List.mem_append_right _ (List.mem_of_getElem? (i := 835) rfl), rfl⟩
set_option maxRecDepth 20000 in
theorem tw_869 : Cond.privateMethod yX11_priceAt ∈ lw_tbl := List.mem_append_right _ (List.mem_of_getElem? (i := 836) rfl)
set_option maxRecDepth 20000 in
theorem tw_870 : Cond.instanceMethod yX11_priceAt ∈ lw_tg := List.mem_filter.mpr ⟨List.mem_append_right _ (List.mem_of_getElem? (i := 837) rfl), rfl⟩
set_option maxRecDepth 20000 in
theorem tw_871 : Cond.code yX11_priceAt cX11_priceAt 4 (some FieldType.int) ∈ lw_tg := List.mem_filter.mpr ⟨List.mem_append_right _ (List.mem_of_getElem? (i := 838) rfl), rfl⟩
set_option maxRecDepth 20000 in
theorem tw_872 : Cond.methodLink RX11 160 yX11_dries ∈ lw_tg := List.mem_filter.mpr ⟨List.mem_append_right _ (List.mem_of_getElem? (i := 839) rfl), rfl⟩
set_option maxRecDepth 20000 in
theorem tw_873 : Cond.privateMethod yX11_dries ∈ lw_tbl := List.mem_append_right _ (List.mem_of_getElem? (i := 840) rfl)
set_option maxRecDepth 20000 in
theorem tw_874 : Cond.instanceMethod yX11_dries ∈ lw_tg := List.mem_filter.mpr ⟨List.mem_append_right _ (List.mem_of_getElem? (i := 841) rfl), rfl⟩
set_option maxRecDepth 20000 in
theorem tw_875 : Cond.code yX11_dries cX11_dries 3 none ∈ lw_tg := List.mem_filter.mpr ⟨List.mem_append_right _ (List.mem_of_getElem? (i := 842) rfl), rfl⟩
set_option maxRecDepth 20000 in
theorem tw_876 : Cond.methodLink RX11 153 yX11_presses ∈ lw_tg := List.mem_filter.mpr ⟨List.mem_append_right _ (List.mem_of_getElem? (i := 843) rfl), rfl⟩
set_option maxRecDepth 20000 in
theorem tw_877 : Cond.privateMethod yX11_presses ∈ lw_tbl := List.mem_append_right _ (List.mem_of_getElem? (i := 844) rfl)
set_option maxRecDepth 20000 in
theorem tw_878 : Cond.instanceMethod yX11_presses ∈ lw_tg := List.mem_filter.mpr ⟨List.mem_append_right _ (List.mem_of_getElem? (i := 845) rfl), rfl⟩
set_option maxRecDepth 20000 in
theorem tw_879 : Cond.code yX11_presses cX11_presses 2 none ∈ lw_tg := List.mem_filter.mpr ⟨List.mem_append_right _ (List.mem_of_getElem? (i := 846) rfl), rfl⟩
set_option maxRecDepth 20000 in
theorem tw_880 : Cond.methodLink RX11 163 yX11_spoils ∈ lw_tg := List.mem_filter.mpr ⟨List.mem_append_right _ (List.mem_of_getElem? (i := 847) rfl), rfl⟩
set_option maxRecDepth 20000 in
theorem tw_881 : Cond.privateMethod yX11_spoils ∈ lw_tbl := List.mem_append_right _ (List.mem_of_getElem? (i := 848) rfl)
set_option maxRecDepth 20000 in
theorem tw_882 : Cond.instanceMethod yX11_spoils ∈ lw_tg := List.mem_filter.mpr ⟨List.mem_append_right _ (List.mem_of_getElem? (i := 849) rfl), rfl⟩
set_option maxRecDepth 20000 in
theorem tw_883 : Cond.code yX11_spoils cX11_spoils 3 none ∈ lw_tg := List.mem_filter.mpr ⟨List.mem_append_right _ (List.mem_of_getElem? (i := 850) rfl), rfl⟩
set_option maxRecDepth 20000 in
theorem tw_884 : Cond.methodLink RX11 166 yX11_takes ∈ lw_tg := List.mem_filter.mpr ⟨List.mem_append_right _ (List.mem_of_getElem? (i := 851) rfl), rfl⟩
set_option maxRecDepth 20000 in
theorem tw_885 : Cond.privateMethod yX11_takes ∈ lw_tbl := List.mem_append_right _ (List.mem_of_getElem? (i := 852) rfl)
set_option maxRecDepth 20000 in
theorem tw_886 : Cond.instanceMethod yX11_takes ∈ lw_tg := List.mem_filter.mpr ⟨List.mem_append_right _ (List.mem_of_getElem? (i := 853) rfl), rfl⟩
set_option maxRecDepth 20000 in
theorem tw_887 : Cond.code yX11_takes cX11_takes 4 none ∈ lw_tg := List.mem_filter.mpr ⟨List.mem_append_right _ (List.mem_of_getElem? (i := 854) rfl), rfl⟩
set_option maxRecDepth 20000 in
theorem tw_888 : Cond.methodLink RL 51 yX11_about ∈ lw_tg := List.mem_filter.mpr ⟨List.mem_append_right _ (List.mem_of_getElem? (i := 855) rfl), rfl⟩
set_option maxRecDepth 20000 in
theorem tw_889 : Cond.instanceMethod yX11_about ∈ lw_tg := List.mem_filter.mpr ⟨List.mem_append_right _ (List.mem_of_getElem? (i := 856) rfl), rfl⟩
set_option maxRecDepth 20000 in
theorem tw_890 : Cond.selects RX11 yX11_about yX11_about ∈ lw_tg := List.mem_filter.mpr ⟨List.mem_append_right _ (List.mem_of_getElem? (i := 857) rfl), rfl⟩
set_option maxRecDepth 20000 in
theorem tw_891 : Cond.code yX11_about cX11_about 3 (some FieldType.int) ∈ lw_tg := List.mem_filter.mpr ⟨List.mem_append_right _ (List.mem_of_getElem? (i := 858) rfl), rfl⟩
set_option maxRecDepth 20000 in
theorem tw_892 : Cond.methodLink RX11 172 yX11_greenOf ∈ lw_tg := List.mem_filter.mpr ⟨List.mem_append_right _ (List.mem_of_getElem? (i := 859) rfl), rfl⟩
set_option maxRecDepth 20000 in
theorem tw_893 : Cond.privateMethod yX11_greenOf ∈ lw_tbl := List.mem_append_right _ (List.mem_of_getElem? (i := 860) rfl)
set_option maxRecDepth 20000 in
theorem tw_894 : Cond.instanceMethod yX11_greenOf ∈ lw_tg := List.mem_filter.mpr ⟨List.mem_append_right _ (List.mem_of_getElem? (i := 861) rfl), rfl⟩
set_option maxRecDepth 20000 in
theorem tw_895 : Cond.code yX11_greenOf cX11_greenOf 4 (some FieldType.int) ∈ lw_tg := List.mem_filter.mpr ⟨List.mem_append_right _ (List.mem_of_getElem? (i := 862) rfl), rfl⟩
set_option maxRecDepth 20000 in
theorem tw_896 : Cond.methodLink RX11 175 yX11_inKilns ∈ lw_tg := List.mem_filter.mpr ⟨List.mem_append_right _ (List.mem_of_getElem? (i := 863) rfl), rfl⟩
set_option maxRecDepth 20000 in
theorem tw_897 : Cond.privateMethod yX11_inKilns ∈ lw_tbl := List.mem_append_right _ (List.mem_of_getElem? (i := 864) rfl)
set_option maxRecDepth 20000 in
theorem tw_898 : Cond.instanceMethod yX11_inKilns ∈ lw_tg := List.mem_filter.mpr ⟨List.mem_append_right _ (List.mem_of_getElem? (i := 865) rfl), rfl⟩
set_option maxRecDepth 20000 in
theorem tw_899 : Cond.code yX11_inKilns cX11_inKilns 5 (some FieldType.int) ∈ lw_tg := List.mem_filter.mpr ⟨List.mem_append_right _ (List.mem_of_getElem? (i := 866) rfl), rfl⟩
set_option maxRecDepth 20000 in
theorem tw_900 : Cond.methodLink RL 55 yX11_tally ∈ lw_tg := List.mem_filter.mpr ⟨List.mem_append_right _ (List.mem_of_getElem? (i := 867) rfl), rfl⟩
set_option maxRecDepth 20000 in
theorem tw_901 : Cond.instanceMethod yX11_tally ∈ lw_tg := List.mem_filter.mpr ⟨List.mem_append_right _ (List.mem_of_getElem? (i := 868) rfl), rfl⟩
set_option maxRecDepth 20000 in
theorem tw_902 : Cond.selects RX11 yX11_tally yX11_tally ∈ lw_tg := List.mem_filter.mpr ⟨List.mem_append_right _ (List.mem_of_getElem? (i := 869) rfl), rfl⟩
set_option maxRecDepth 20000 in
theorem tw_903 : Cond.code yX11_tally cX11_tally 3 (some FieldType.int) ∈ lw_tg := List.mem_filter.mpr ⟨List.mem_append_right _ (List.mem_of_getElem? (i := 870) rfl), rfl⟩
set_option maxRecDepth 20000 in
theorem tw_904 : Cond.methodLink RL 59 yX11_in ∈ lw_tg := List.mem_filter.mpr ⟨List.mem_append_right _ (List.mem_of_getElem? (i := 871) rfl), rfl⟩
set_option maxRecDepth 20000 in
theorem tw_905 : Cond.instanceMethod yX11_in ∈ lw_tg := List.mem_filter.mpr ⟨List.mem_append_right _ (List.mem_of_getElem? (i := 872) rfl), rfl⟩
set_option maxRecDepth 20000 in
theorem tw_906 : Cond.selects RX11 yX11_in yX11_in ∈ lw_tg := List.mem_filter.mpr ⟨List.mem_append_right _ (List.mem_of_getElem? (i := 873) rfl), rfl⟩
set_option maxRecDepth 20000 in
theorem tw_907 : Cond.code yX11_in cX11_in 5 (some FieldType.int) ∈ lw_tg := List.mem_filter.mpr ⟨List.mem_append_right _ (List.mem_of_getElem? (i := 874) rfl), rfl⟩
set_option maxRecDepth 20000 in
theorem tw_908 : Cond.methodLink RL 63 yX11_green ∈ lw_tg := List.mem_filter.mpr ⟨List.mem_append_right _ (List.mem_of_getElem? (i := 875) rfl), rfl⟩
set_option maxRecDepth 20000 in
theorem tw_909 : Cond.instanceMethod yX11_green ∈ lw_tg := List.mem_filter.mpr ⟨List.mem_append_right _ (List.mem_of_getElem? (i := 876) rfl), rfl⟩
set_option maxRecDepth 20000 in
theorem tw_910 : Cond.selects RX11 yX11_green yX11_green ∈ lw_tg := List.mem_filter.mpr ⟨List.mem_append_right _ (List.mem_of_getElem? (i := 877) rfl), rfl⟩
set_option maxRecDepth 20000 in
theorem tw_911 : Cond.code yX11_green cX11_green 5 (some FieldType.int) ∈ lw_tg := List.mem_filter.mpr ⟨List.mem_append_right _ (List.mem_of_getElem? (i := 878) rfl), rfl⟩
set_option maxRecDepth 20000 in
theorem tw_912 : Cond.methodLink RL 67 yX11_pocket ∈ lw_tg := List.mem_filter.mpr ⟨List.mem_append_right _ (List.mem_of_getElem? (i := 879) rfl), rfl⟩
set_option maxRecDepth 20000 in
theorem tw_913 : Cond.instanceMethod yX11_pocket ∈ lw_tg := List.mem_filter.mpr ⟨List.mem_append_right _ (List.mem_of_getElem? (i := 880) rfl), rfl⟩
set_option maxRecDepth 20000 in
theorem tw_914 : Cond.selects RX11 yX11_pocket yX11_pocket ∈ lw_tg := List.mem_filter.mpr ⟨List.mem_append_right _ (List.mem_of_getElem? (i := 881) rfl), rfl⟩
set_option maxRecDepth 20000 in
theorem tw_915 : Cond.code yX11_pocket cX11_pocket 3 (some FieldType.int) ∈ lw_tg := List.mem_filter.mpr ⟨List.mem_append_right _ (List.mem_of_getElem? (i := 882) rfl), rfl⟩
set_option maxRecDepth 20000 in
theorem tw_916 : Cond.methodLink RX11 178 yX11_ledPockets ∈ lw_tg := List.mem_filter.mpr ⟨List.mem_append_right _ (List.mem_of_getElem? (i := 883) rfl), rfl⟩
set_option maxRecDepth 20000 in
theorem tw_917 : Cond.privateMethod yX11_ledPockets ∈ lw_tbl := List.mem_append_right _ (List.mem_of_getElem? (i := 884) rfl)
set_option maxRecDepth 20000 in
theorem tw_918 : Cond.instanceMethod yX11_ledPockets ∈ lw_tg := List.mem_filter.mpr ⟨List.mem_append_right _ (List.mem_of_getElem? (i := 885) rfl), rfl⟩
set_option maxRecDepth 20000 in
theorem tw_919 : Cond.code yX11_ledPockets cX11_ledPockets 1 (some FieldType.int) ∈ lw_tg := List.mem_filter.mpr ⟨List.mem_append_right _ (List.mem_of_getElem? (i := 886) rfl), rfl⟩
set_option maxRecDepth 20000 in
theorem tw_920 : Cond.methodLink RX11 182 yX11_dutyOn ∈ lw_tg := List.mem_filter.mpr ⟨List.mem_append_right _ (List.mem_of_getElem? (i := 887) rfl), rfl⟩
set_option maxRecDepth 20000 in
theorem tw_921 : Cond.privateMethod yX11_dutyOn ∈ lw_tbl := List.mem_append_right _ (List.mem_of_getElem? (i := 888) rfl)
set_option maxRecDepth 20000 in
theorem tw_922 : Cond.instanceMethod yX11_dutyOn ∈ lw_tg := List.mem_filter.mpr ⟨List.mem_append_right _ (List.mem_of_getElem? (i := 889) rfl), rfl⟩
set_option maxRecDepth 20000 in
theorem tw_923 : Cond.code yX11_dutyOn cX11_dutyOn 4 (some FieldType.int) ∈ lw_tg := List.mem_filter.mpr ⟨List.mem_append_right _ (List.mem_of_getElem? (i := 890) rfl), rfl⟩
set_option maxRecDepth 20000 in
theorem tw_924 : Cond.methodLink RL 71 yX11_count ∈ lw_tg := List.mem_filter.mpr ⟨List.mem_append_right _ (List.mem_of_getElem? (i := 891) rfl), rfl⟩
set_option maxRecDepth 20000 in
theorem tw_925 : Cond.instanceMethod yX11_count ∈ lw_tg := List.mem_filter.mpr ⟨List.mem_append_right _ (List.mem_of_getElem? (i := 892) rfl), rfl⟩
set_option maxRecDepth 20000 in
theorem tw_926 : Cond.selects RX11 yX11_count yX11_count ∈ lw_tg := List.mem_filter.mpr ⟨List.mem_append_right _ (List.mem_of_getElem? (i := 893) rfl), rfl⟩
set_option maxRecDepth 20000 in
theorem tw_927 : Cond.code yX11_count cX11_count 4 (some FieldType.int) ∈ lw_tg := List.mem_filter.mpr ⟨List.mem_append_right _ (List.mem_of_getElem? (i := 894) rfl), rfl⟩
set_option maxRecDepth 20000 in
theorem tw_928 : Cond.methodLink RL 75 yX11_price ∈ lw_tg := List.mem_filter.mpr ⟨List.mem_append_right _ (List.mem_of_getElem? (i := 895) rfl), rfl⟩
set_option maxRecDepth 20000 in
theorem tw_929 : Cond.instanceMethod yX11_price ∈ lw_tg := List.mem_filter.mpr ⟨List.mem_append_right _ (List.mem_of_getElem? (i := 896) rfl), rfl⟩
set_option maxRecDepth 20000 in
theorem tw_930 : Cond.selects RX11 yX11_price yX11_price ∈ lw_tg := List.mem_filter.mpr ⟨List.mem_append_right _ (List.mem_of_getElem? (i := 897) rfl), rfl⟩
set_option maxRecDepth 20000 in
theorem tw_931 : Cond.code yX11_price cX11_price 3 (some FieldType.int) ∈ lw_tg := List.mem_filter.mpr ⟨List.mem_append_right _ (List.mem_of_getElem? (i := 898) rfl), rfl⟩
set_option maxRecDepth 20000 in
theorem tw_932 : Cond.methodLink RL 79 yX11_priced ∈ lw_tg := List.mem_filter.mpr ⟨List.mem_append_right _ (List.mem_of_getElem? (i := 899) rfl), rfl⟩
set_option maxRecDepth 20000 in
theorem tw_933 : Cond.instanceMethod yX11_priced ∈ lw_tg := List.mem_filter.mpr ⟨List.mem_append_right _ (List.mem_of_getElem? (i := 900) rfl), rfl⟩
set_option maxRecDepth 20000 in
theorem tw_934 : Cond.selects RX11 yX11_priced yX11_priced ∈ lw_tg := List.mem_filter.mpr ⟨List.mem_append_right _ (List.mem_of_getElem? (i := 901) rfl), rfl⟩
set_option maxRecDepth 20000 in
theorem tw_935 : Cond.code yX11_priced cX11_priced 2 (some FieldType.int) ∈ lw_tg := List.mem_filter.mpr ⟨List.mem_append_right _ (List.mem_of_getElem? (i := 902) rfl), rfl⟩
set_option maxRecDepth 20000 in
theorem tw_936 : Cond.methodLink RL 83 yX11_act ∈ lw_tg := List.mem_filter.mpr ⟨List.mem_append_right _ (List.mem_of_getElem? (i := 903) rfl), rfl⟩
set_option maxRecDepth 20000 in
theorem tw_937 : Cond.instanceMethod yX11_act ∈ lw_tg := List.mem_filter.mpr ⟨List.mem_append_right _ (List.mem_of_getElem? (i := 904) rfl), rfl⟩
set_option maxRecDepth 20000 in
theorem tw_938 : Cond.selects RX11 yX11_act yX11_act ∈ lw_tg := List.mem_filter.mpr ⟨List.mem_append_right _ (List.mem_of_getElem? (i := 905) rfl), rfl⟩
set_option maxRecDepth 20000 in
theorem tw_939 : Cond.code yX11_act cX11_act 3 (some FieldType.int) ∈ lw_tg := List.mem_filter.mpr ⟨List.mem_append_right _ (List.mem_of_getElem? (i := 906) rfl), rfl⟩
set_option maxRecDepth 20000 in
theorem tw_940 : Cond.methodLink RL 87 yX11_duty ∈ lw_tg := List.mem_filter.mpr ⟨List.mem_append_right _ (List.mem_of_getElem? (i := 907) rfl), rfl⟩
set_option maxRecDepth 20000 in
theorem tw_941 : Cond.instanceMethod yX11_duty ∈ lw_tg := List.mem_filter.mpr ⟨List.mem_append_right _ (List.mem_of_getElem? (i := 908) rfl), rfl⟩
set_option maxRecDepth 20000 in
theorem tw_942 : Cond.selects RX11 yX11_duty yX11_duty ∈ lw_tg := List.mem_filter.mpr ⟨List.mem_append_right _ (List.mem_of_getElem? (i := 909) rfl), rfl⟩
set_option maxRecDepth 20000 in
theorem tw_943 : Cond.code yX11_duty cX11_duty 2 (some FieldType.int) ∈ lw_tg := List.mem_filter.mpr ⟨List.mem_append_right _ (List.mem_of_getElem? (i := 910) rfl), rfl⟩
set_option maxRecDepth 20000 in
theorem tw_944 : Cond.methodLink RL 92 yX11_bound ∈ lw_tg := List.mem_filter.mpr ⟨List.mem_append_right _ (List.mem_of_getElem? (i := 911) rfl), rfl⟩
set_option maxRecDepth 20000 in
theorem tw_945 : Cond.instanceMethod yX11_bound ∈ lw_tg := List.mem_filter.mpr ⟨List.mem_append_right _ (List.mem_of_getElem? (i := 912) rfl), rfl⟩
set_option maxRecDepth 20000 in
theorem tw_946 : Cond.selects RX11 yX11_bound yX11_bound ∈ lw_tg := List.mem_filter.mpr ⟨List.mem_append_right _ (List.mem_of_getElem? (i := 913) rfl), rfl⟩
set_option maxRecDepth 20000 in
theorem tw_947 : Cond.code yX11_bound cX11_bound 4 (some FieldType.int) ∈ lw_tg := List.mem_filter.mpr ⟨List.mem_append_right _ (List.mem_of_getElem? (i := 914) rfl), rfl⟩
set_option maxRecDepth 20000 in
theorem tw_948 : Cond.methodLink RL 96 yX11_most ∈ lw_tg := List.mem_filter.mpr ⟨List.mem_append_right _ (List.mem_of_getElem? (i := 915) rfl), rfl⟩
set_option maxRecDepth 20000 in
theorem tw_949 : Cond.instanceMethod yX11_most ∈ lw_tg := List.mem_filter.mpr ⟨List.mem_append_right _ (List.mem_of_getElem? (i := 916) rfl), rfl⟩
set_option maxRecDepth 20000 in
theorem tw_950 : Cond.selects RX11 yX11_most yX11_most ∈ lw_tg := List.mem_filter.mpr ⟨List.mem_append_right _ (List.mem_of_getElem? (i := 917) rfl), rfl⟩
set_option maxRecDepth 20000 in
theorem tw_951 : Cond.code yX11_most cX11_most 8 (some FieldType.int) ∈ lw_tg := List.mem_filter.mpr ⟨List.mem_append_right _ (List.mem_of_getElem? (i := 918) rfl), rfl⟩
set_option maxRecDepth 20000 in
theorem tw_952 : Cond.methodLink RX11 185 yX11_picksBy ∈ lw_tg := List.mem_filter.mpr ⟨List.mem_append_right _ (List.mem_of_getElem? (i := 919) rfl), rfl⟩
set_option maxRecDepth 20000 in
theorem tw_953 : Cond.privateMethod yX11_picksBy ∈ lw_tbl := List.mem_append_right _ (List.mem_of_getElem? (i := 920) rfl)
set_option maxRecDepth 20000 in
theorem tw_954 : Cond.instanceMethod yX11_picksBy ∈ lw_tg := List.mem_filter.mpr ⟨List.mem_append_right _ (List.mem_of_getElem? (i := 921) rfl), rfl⟩
set_option maxRecDepth 20000 in
theorem tw_955 : Cond.code yX11_picksBy cX11_picksBy 7 (some FieldType.int) ∈ lw_tg := List.mem_filter.mpr ⟨List.mem_append_right _ (List.mem_of_getElem? (i := 922) rfl), rfl⟩
set_option maxRecDepth 20000 in
theorem tw_956 : Cond.methodLink RL 101 yX11_trace ∈ lw_tg := List.mem_filter.mpr ⟨List.mem_append_right _ (List.mem_of_getElem? (i := 923) rfl), rfl⟩
set_option maxRecDepth 20000 in
theorem tw_957 : Cond.instanceMethod yX11_trace ∈ lw_tg := List.mem_filter.mpr ⟨List.mem_append_right _ (List.mem_of_getElem? (i := 924) rfl), rfl⟩
set_option maxRecDepth 20000 in
theorem tw_958 : Cond.selects RX11 yX11_trace yX11_trace ∈ lw_tg := List.mem_filter.mpr ⟨List.mem_append_right _ (List.mem_of_getElem? (i := 925) rfl), rfl⟩
set_option maxRecDepth 20000 in
theorem tw_959 : Cond.code yX11_trace cX11_trace 1 (some FieldType.long) ∈ lw_tg := List.mem_filter.mpr ⟨List.mem_append_right _ (List.mem_of_getElem? (i := 926) rfl), rfl⟩
set_option maxRecDepth 20000 in
theorem tw_960 : Cond.sameMethod "HopYard$Draught" "HopYard$Draught" "marks" "()I" ∈ lw_tg := List.mem_filter.mpr ⟨List.mem_append_right _ (List.mem_of_getElem? (i := 927) rfl), rfl⟩
set_option maxRecDepth 20000 in
theorem tw_961 : Cond.sameMethod "HopYard$Draught" "HopYard$Draught" "dries" "(I)I" ∈ lw_tg := List.mem_filter.mpr ⟨List.mem_append_right _ (List.mem_of_getElem? (i := 928) rfl), rfl⟩
set_option maxRecDepth 20000 in
theorem tw_962 : Cond.castable "HopYard" "java/lang/Object" ∈ lw_tbl := List.mem_append_right _ (List.mem_of_getElem? (i := 929) rfl)
set_option maxRecDepth 20000 in
theorem tw_963 : Cond.castable "java/util/ArrayList" "java/lang/Object" ∈ lw_tbl := List.mem_append_right _ (List.mem_of_getElem? (i := 930) rfl)
set_option maxRecDepth 20000 in
theorem tw_964 : Cond.castable "HopYard$GreenHops" "java/lang/Object" ∈ lw_tbl := List.mem_append_right _ (List.mem_of_getElem? (i := 931) rfl)
set_option maxRecDepth 20000 in
theorem tw_965 : Cond.castable "HopYard$Press" "java/lang/Object" ∈ lw_tbl := List.mem_append_right _ (List.mem_of_getElem? (i := 932) rfl)
set_option maxRecDepth 20000 in
theorem tw_966 : Cond.castable "HopYard$Notices" "java/lang/Object" ∈ lw_tbl := List.mem_append_right _ (List.mem_of_getElem? (i := 933) rfl)
set_option maxRecDepth 20000 in
theorem tw_967 : Cond.castable "HopYard$Allotment" "java/lang/Object" ∈ lw_tbl := List.mem_append_right _ (List.mem_of_getElem? (i := 934) rfl)
set_option maxRecDepth 20000 in
theorem tw_968 : Cond.castable "HopYardModel" "java/lang/Object" ∈ lw_tbl := List.mem_append_right _ (List.mem_of_getElem? (i := 935) rfl)
set_option maxRecDepth 20000 in
theorem tw_969 : Cond.castable "HopYard$Garden" "java/lang/Object" ∈ lw_tbl := List.mem_append_right _ (List.mem_of_getElem? (i := 936) rfl)
set_option maxRecDepth 20000 in
theorem tw_970 : Cond.castable "HopYard$Gang" "java/lang/Object" ∈ lw_tbl := List.mem_append_right _ (List.mem_of_getElem? (i := 937) rfl)
set_option maxRecDepth 20000 in
theorem tw_971 : Cond.castable "HopYard$Kiln" "java/lang/Object" ∈ lw_tbl := List.mem_append_right _ (List.mem_of_getElem? (i := 938) rfl)
set_option maxRecDepth 20000 in
theorem tw_972 : Cond.castable "HopYard$Draught" "java/lang/Object" ∈ lw_tbl := List.mem_append_right _ (List.mem_of_getElem? (i := 939) rfl)
set_option maxRecDepth 20000 in
theorem tw_973 : Cond.castable "HopYard$Doubled" "java/lang/Object" ∈ lw_tbl := List.mem_append_right _ (List.mem_of_getElem? (i := 940) rfl)
set_option maxRecDepth 20000 in
theorem tw_974 : Cond.castable "HopYard$Plain" "java/lang/Object" ∈ lw_tbl := List.mem_append_right _ (List.mem_of_getElem? (i := 941) rfl)
set_option maxRecDepth 20000 in
theorem tw_975 : Cond.sameMethod "[Ljava/lang/Object;" "java/lang/Object" "getClass" "()Ljava/lang/Class;" ∈ lw_tg := List.mem_filter.mpr ⟨List.mem_append_right _ (List.mem_of_getElem? (i := 942) rfl), rfl⟩
set_option maxRecDepth 20000 in
theorem tw_976 : Cond.selects "[Ljava/lang/Object;" ⟨"java/lang/Object", "getClass", "()Ljava/lang/Class;"⟩ ⟨"java/lang/Object", "getClass", "()Ljava/lang/Class;"⟩ ∈ lw_tg := List.mem_filter.mpr ⟨List.mem_append_right _ (List.mem_of_getElem? (i := 943) rfl), rfl⟩
set_option maxRecDepth 20000 in
theorem tw_977 : Cond.declares ⟨"java/lang/Object", "getClass", "()Ljava/lang/Class;"⟩ ∈ lw_tbl := List.mem_append_right _ (List.mem_of_getElem? (i := 944) rfl)
set_option maxRecDepth 20000 in
theorem tw_978 : Cond.castable "[I" "java/lang/Object" ∈ lw_tbl := List.mem_append_right _ (List.mem_of_getElem? (i := 945) rfl)
set_option maxRecDepth 20000 in
theorem tw_979 : Cond.castable "[Ljava/lang/Object;" "java/lang/Object" ∈ lw_tbl := List.mem_append_right _ (List.mem_of_getElem? (i := 946) rfl)
set_option maxRecDepth 20000 in
theorem tw_good : ∀ w ∈ lw_tg, goodWord w = true := fun _ h => (List.mem_filter.mp h).2
set_option maxRecDepth 20000 in
theorem tw_cl0 : ∀ w ∈ u_ws RJx4a65c TJx4a65c 3, w ∈ lw_tg := fun w h => List.mem_filter.mpr ⟨(show ∀ w ∈ u_ws RJx4a65c TJx4a65c 3, w ∈ lw_tbl by decide +kernel) w h, (show ∀ w ∈ u_ws RJx4a65c TJx4a65c 3, goodWord w = true by decide +kernel) w h⟩
set_option maxRecDepth 20000 in
theorem tw_cl1 : ∀ w ∈ u_ws RX0 TX0 4, w ∈ lw_tg := fun w h => List.mem_filter.mpr ⟨(show ∀ w ∈ u_ws RX0 TX0 4, w ∈ lw_tbl by decide +kernel) w h, (show ∀ w ∈ u_ws RX0 TX0 4, goodWord w = true by decide +kernel) w h⟩
set_option maxRecDepth 20000 in
theorem tw_cl2 : ∀ w ∈ u_ws RX1 TX1 0, w ∈ lw_tg := fun w h => List.mem_filter.mpr ⟨(show ∀ w ∈ u_ws RX1 TX1 0, w ∈ lw_tbl by decide +kernel) w h, (show ∀ w ∈ u_ws RX1 TX1 0, goodWord w = true by decide +kernel) w h⟩
set_option maxRecDepth 20000 in
theorem tw_cl3 : ∀ w ∈ u_ws RX2 TX2 0, w ∈ lw_tg := fun w h => List.mem_filter.mpr ⟨(show ∀ w ∈ u_ws RX2 TX2 0, w ∈ lw_tbl by decide +kernel) w h, (show ∀ w ∈ u_ws RX2 TX2 0, goodWord w = true by decide +kernel) w h⟩
set_option maxRecDepth 20000 in
theorem tw_cl4 : ∀ w ∈ u_ws RX3 TX3 6, w ∈ lw_tg := fun w h => List.mem_filter.mpr ⟨(show ∀ w ∈ u_ws RX3 TX3 6, w ∈ lw_tbl by decide +kernel) w h, (show ∀ w ∈ u_ws RX3 TX3 6, goodWord w = true by decide +kernel) w h⟩
set_option maxRecDepth 20000 in
theorem tw_cl5 : ∀ w ∈ u_ws RX4 TX4 6, w ∈ lw_tg := fun w h => List.mem_filter.mpr ⟨(show ∀ w ∈ u_ws RX4 TX4 6, w ∈ lw_tbl by decide +kernel) w h, (show ∀ w ∈ u_ws RX4 TX4 6, goodWord w = true by decide +kernel) w h⟩
set_option maxRecDepth 20000 in
theorem tw_cl6 : ∀ w ∈ u_ws RX5 TX5 2, w ∈ lw_tg := fun w h => List.mem_filter.mpr ⟨(show ∀ w ∈ u_ws RX5 TX5 2, w ∈ lw_tbl by decide +kernel) w h, (show ∀ w ∈ u_ws RX5 TX5 2, goodWord w = true by decide +kernel) w h⟩
set_option maxRecDepth 20000 in
theorem tw_cl7 : ∀ w ∈ u_ws RX6 TX6 8, w ∈ lw_tg := fun w h => List.mem_filter.mpr ⟨(show ∀ w ∈ u_ws RX6 TX6 8, w ∈ lw_tbl by decide +kernel) w h, (show ∀ w ∈ u_ws RX6 TX6 8, goodWord w = true by decide +kernel) w h⟩
set_option maxRecDepth 20000 in
theorem tw_cl8 : ∀ w ∈ u_ws RX7 TX7 4, w ∈ lw_tg := fun w h => List.mem_filter.mpr ⟨(show ∀ w ∈ u_ws RX7 TX7 4, w ∈ lw_tbl by decide +kernel) w h, (show ∀ w ∈ u_ws RX7 TX7 4, goodWord w = true by decide +kernel) w h⟩
set_option maxRecDepth 20000 in
theorem tw_cl9 : ∀ w ∈ u_ws RX8 TX8 0, w ∈ lw_tg := fun w h => List.mem_filter.mpr ⟨(show ∀ w ∈ u_ws RX8 TX8 0, w ∈ lw_tbl by decide +kernel) w h, (show ∀ w ∈ u_ws RX8 TX8 0, goodWord w = true by decide +kernel) w h⟩
set_option maxRecDepth 20000 in
theorem tw_cl10 : ∀ w ∈ u_ws RX9 TX9 5, w ∈ lw_tg := fun w h => List.mem_filter.mpr ⟨(show ∀ w ∈ u_ws RX9 TX9 5, w ∈ lw_tbl by decide +kernel) w h, (show ∀ w ∈ u_ws RX9 TX9 5, goodWord w = true by decide +kernel) w h⟩
set_option maxRecDepth 20000 in
theorem tw_cl11 : ∀ w ∈ u_ws RX10 TX10 11, w ∈ lw_tg := fun w h => List.mem_filter.mpr ⟨(show ∀ w ∈ u_ws RX10 TX10 11, w ∈ lw_tbl by decide +kernel) w h, (show ∀ w ∈ u_ws RX10 TX10 11, goodWord w = true by decide +kernel) w h⟩
set_option maxRecDepth 20000 in
theorem tw_cl12 : ∀ w ∈ u_ws RX11 TX11 37, w ∈ lw_tg := fun w h => List.mem_filter.mpr ⟨(show ∀ w ∈ u_ws RX11 TX11 37, w ∈ lw_tbl by decide +kernel) w h, (show ∀ w ∈ u_ws RX11 TX11 37, goodWord w = true by decide +kernel) w h⟩
