theorem acl_0 : ax_cls 0 RX0 TX0 3 := ⟨rfl, by decide +kernel, by decide +kernel, nmX0, by decide +kernel⟩
theorem acl_1 : ax_cls 1 RX1 TX1 8 := ⟨rfl, by decide +kernel, by decide +kernel, nmX1, by decide +kernel⟩
theorem acl_2 : ax_cls 2 RX2 TX2 3 := ⟨rfl, by decide +kernel, by decide +kernel, nmX2, by decide +kernel⟩
theorem acl_3 : ax_cls 3 RX3 TX3 2 := ⟨rfl, by decide +kernel, by decide +kernel, nmX3, by decide +kernel⟩
theorem acl_4 : ax_cls 4 RX4 TX4 5 := ⟨rfl, by decide +kernel, by decide +kernel, nmX4, by decide +kernel⟩
theorem acl_5 : ax_cls 5 RX5 TX5 17 := ⟨rfl, by decide +kernel, by decide +kernel, nmX5, by decide +kernel⟩
theorem acl_6 : ax_cls 6 RX6 TX6 9 := ⟨rfl, by decide +kernel, by decide +kernel, nmX6, by decide +kernel⟩
theorem acl_7 : ax_cls 7 RX7 TX7 5 := ⟨rfl, by decide +kernel, by decide +kernel, nmX7, by decide +kernel⟩
theorem acl_8 : ax_cls 8 RX8 TX8 16 := ⟨rfl, by decide +kernel, by decide +kernel, nmX8, by decide +kernel⟩
theorem acl_9 : ax_cls 9 RX9 TX9 15 := ⟨rfl, by decide +kernel, by decide +kernel, nmX9, by decide +kernel⟩
theorem acl_10 : ax_cls 10 RX10 TX10 53 := ⟨rfl, by decide +kernel, by decide +kernel, nmX10, by decide +kernel⟩
theorem wd_obi : Cond.instanceMethod Lib.objectInit ∈ lw_tbl := List.mem_of_getElem? (i := 197) (by decide +kernel)
theorem wd_obc : Cond.code Lib.objectInit ⟨#[0xb1]⟩ 1 none ∈ lw_tbl := List.mem_of_getElem? (i := 198) (by decide +kernel)
theorem wd_maxs : Cond.static Lib.Math.max.name ∈ lw_tbl := List.mem_of_getElem? (i := 645) (by decide +kernel)
theorem wd_maxc : Cond.code Lib.Math.max.name Lib.Math.max.code 2 (some .int) ∈ lw_tbl := List.mem_of_getElem? (i := 646) (by decide +kernel)
theorem wd_mins : Cond.static Lib.Math.min.name ∈ lw_tbl := List.mem_of_getElem? (i := 642) (by decide +kernel)
theorem wd_minc : Cond.code Lib.Math.min.name Lib.Math.min.code 2 (some .int) ∈ lw_tbl := List.mem_of_getElem? (i := 643) (by decide +kernel)
abbrev kX0_init : ax_K := (yX0_init, cX0_init, 1, none)
theorem mX0_init : ax_mi kX0_init 0 := ⟨⟨wd_172, List.mem_of_getElem? (i := 393) (by decide +kernel), by decide +kernel, by decide +kernel, by decide⟩, List.mem_of_getElem? (i := 392) (by decide +kernel), rfl⟩
abbrev kX0_readFrom : ax_K := (yX0_readFrom, cX0_readFrom, 3, (some .boolean))
theorem mX0_readFrom : ax_mv kX0_readFrom 1 := ⟨⟨wd_172, List.mem_of_getElem? (i := 1100) (by decide +kernel), by decide +kernel, by decide +kernel, by decide⟩, List.mem_of_getElem? (i := 1099) (by decide +kernel), List.mem_of_getElem? (i := 63) (by decide +kernel)⟩
abbrev kX0_readLine : ax_K := (yX0_readLine, cX0_readLine, 4, (some .boolean))
theorem mX0_readLine : ax_mv kX0_readLine 1 := ⟨⟨wd_172, List.mem_of_getElem? (i := 1104) (by decide +kernel), by decide +kernel, by decide +kernel, by decide⟩, List.mem_of_getElem? (i := 1103) (by decide +kernel), List.mem_of_getElem? (i := 64) (by decide +kernel)⟩
abbrev kX0_tells : ax_K := (yX0_tells, cX0_tells, 3, (some .boolean))
theorem mX0_tells : ax_mv kX0_tells 1 := ⟨⟨wd_172, List.mem_of_getElem? (i := 1109) (by decide +kernel), by decide +kernel, by decide +kernel, by decide⟩, List.mem_of_getElem? (i := 1108) (by decide +kernel), List.mem_of_getElem? (i := 65) (by decide +kernel)⟩
abbrev kX1_init : ax_K := (yX1_init, cX1_init, 1, none)
theorem mX1_init : ax_mi kX1_init 0 := ⟨⟨wd_176, List.mem_of_getElem? (i := 516) (by decide +kernel), by decide +kernel, by decide +kernel, by decide⟩, List.mem_of_getElem? (i := 515) (by decide +kernel), rfl⟩
abbrev kX1_forgetAll : ax_K := (yX1_forgetAll, cX1_forgetAll, 1, none)
theorem mX1_forgetAll : ax_mv kX1_forgetAll 0 := ⟨⟨wd_176, List.mem_of_getElem? (i := 1004) (by decide +kernel), by decide +kernel, by decide +kernel, by decide⟩, List.mem_of_getElem? (i := 1003) (by decide +kernel), List.mem_of_getElem? (i := 55) (by decide +kernel)⟩
abbrev kX1_make : ax_K := (yX1_make, cX1_make, 6, (some .boolean))
theorem mX1_make : ax_mv kX1_make 5 := ⟨⟨wd_176, List.mem_of_getElem? (i := 1560) (by decide +kernel), by decide +kernel, by decide +kernel, by decide⟩, List.mem_of_getElem? (i := 1559) (by decide +kernel), List.mem_of_getElem? (i := 105) (by decide +kernel)⟩
abbrev kX1_takeBack : ax_K := (yX1_takeBack, cX1_takeBack, 2, (some .boolean))
theorem mX1_takeBack : ax_mv kX1_takeBack 1 := ⟨⟨wd_176, List.mem_of_getElem? (i := 737) (by decide +kernel), by decide +kernel, by decide +kernel, by decide⟩, List.mem_of_getElem? (i := 736) (by decide +kernel), List.mem_of_getElem? (i := 30) (by decide +kernel)⟩
abbrev kX1_firstOf : ax_K := (yX1_firstOf, cX1_firstOf, 3, (some .int))
theorem mX1_firstOf : ax_ms kX1_firstOf 3 := ⟨⟨wd_176, List.mem_of_getElem? (i := 1563) (by decide +kernel), by decide +kernel, by decide +kernel, by decide⟩, List.mem_of_getElem? (i := 1562) (by decide +kernel)⟩
abbrev kX1_secondOf : ax_K := (yX1_secondOf, cX1_secondOf, 3, (some .int))
theorem mX1_secondOf : ax_ms kX1_secondOf 3 := ⟨⟨wd_176, List.mem_of_getElem? (i := 1566) (by decide +kernel), by decide +kernel, by decide +kernel, by decide⟩, List.mem_of_getElem? (i := 1565) (by decide +kernel)⟩
abbrev kX1_put : ax_K := (yX1_put, cX1_put, 5, none)
theorem mX1_put : ax_ms kX1_put 5 := ⟨⟨wd_176, List.mem_of_getElem? (i := 740) (by decide +kernel), by decide +kernel, by decide +kernel, by decide⟩, List.mem_of_getElem? (i := 739) (by decide +kernel)⟩
abbrev kX1_keepImage : ax_K := (yX1_keepImage, cX1_keepImage, 4, (some .boolean))
theorem mX1_keepImage : ax_mv kX1_keepImage 1 := ⟨⟨wd_176, List.mem_of_getElem? (i := 752) (by decide +kernel), by decide +kernel, by decide +kernel, by decide⟩, List.mem_of_getElem? (i := 751) (by decide +kernel), List.mem_of_getElem? (i := 32) (by decide +kernel)⟩
abbrev kX1_bringBack : ax_K := (yX1_bringBack, cX1_bringBack, 4, (some .boolean))
theorem mX1_bringBack : ax_mv kX1_bringBack 1 := ⟨⟨wd_176, List.mem_of_getElem? (i := 766) (by decide +kernel), by decide +kernel, by decide +kernel, by decide⟩, List.mem_of_getElem? (i := 765) (by decide +kernel), List.mem_of_getElem? (i := 33) (by decide +kernel)⟩
abbrev kX1_copyTo : ax_K := (yX1_copyTo, cX1_copyTo, 3, (some .int))
theorem mX1_copyTo : ax_ms kX1_copyTo 3 := ⟨⟨wd_176, List.mem_of_getElem? (i := 755) (by decide +kernel), by decide +kernel, by decide +kernel, by decide⟩, List.mem_of_getElem? (i := 754) (by decide +kernel)⟩
abbrev kX1_copyFrom : ax_K := (yX1_copyFrom, cX1_copyFrom, 3, (some .int))
theorem mX1_copyFrom : ax_ms kX1_copyFrom 3 := ⟨⟨wd_176, List.mem_of_getElem? (i := 769) (by decide +kernel), by decide +kernel, by decide +kernel, by decide⟩, List.mem_of_getElem? (i := 768) (by decide +kernel)⟩
abbrev kX2_init : ax_K := (yX2_init, cX2_init, 1, none)
theorem mX2_init : ax_mi kX2_init 0 := ⟨⟨wd_171, List.mem_of_getElem? (i := 337) (by decide +kernel), by decide +kernel, by decide +kernel, by decide⟩, List.mem_of_getElem? (i := 336) (by decide +kernel), rfl⟩
abbrev kX2_add : ax_K := (yX2_add, cX2_add, 2, none)
theorem mX2_add : ax_mv kX2_add 1 := ⟨⟨wd_171, List.mem_of_getElem? (i := 360) (by decide +kernel), by decide +kernel, by decide +kernel, by decide⟩, List.mem_of_getElem? (i := 359) (by decide +kernel), List.mem_of_getElem? (i := 2) (by decide +kernel)⟩
abbrev kX2_becomeUsualLaw : ax_K := (yX2_becomeUsualLaw, cX2_becomeUsualLaw, 1, none)
theorem mX2_becomeUsualLaw : ax_mv kX2_becomeUsualLaw 0 := ⟨⟨wd_171, List.mem_of_getElem? (i := 356) (by decide +kernel), by decide +kernel, by decide +kernel, by decide⟩, List.mem_of_getElem? (i := 355) (by decide +kernel), List.mem_of_getElem? (i := 1) (by decide +kernel)⟩
abbrev kX2_becomeUsualRule : ax_K := (yX2_becomeUsualRule, cX2_becomeUsualRule, 1, none)
theorem mX2_becomeUsualRule : ax_mv kX2_becomeUsualRule 0 := ⟨⟨wd_171, List.mem_of_getElem? (i := 364) (by decide +kernel), by decide +kernel, by decide +kernel, by decide⟩, List.mem_of_getElem? (i := 363) (by decide +kernel), List.mem_of_getElem? (i := 3) (by decide +kernel)⟩
abbrev kX2_readFrom : ax_K := (yX2_readFrom, cX2_readFrom, 2, (some .boolean))
theorem mX2_readFrom : ax_mv kX2_readFrom 1 := ⟨⟨wd_171, List.mem_of_getElem? (i := 1015) (by decide +kernel), by decide +kernel, by decide +kernel, by decide⟩, List.mem_of_getElem? (i := 1014) (by decide +kernel), List.mem_of_getElem? (i := 56) (by decide +kernel)⟩
abbrev kX2_readSum : ax_K := (yX2_readSum, cX2_readSum, 5, (some .boolean))
theorem mX2_readSum : ax_mv kX2_readSum 2 := ⟨⟨wd_171, List.mem_of_getElem? (i := 1019) (by decide +kernel), by decide +kernel, by decide +kernel, by decide⟩, List.mem_of_getElem? (i := 1018) (by decide +kernel), List.mem_of_getElem? (i := 57) (by decide +kernel)⟩
abbrev kX2_readProduct : ax_K := (yX2_readProduct, cX2_readProduct, 5, (some .boolean))
theorem mX2_readProduct : ax_mv kX2_readProduct 2 := ⟨⟨wd_171, List.mem_of_getElem? (i := 1023) (by decide +kernel), by decide +kernel, by decide +kernel, by decide⟩, List.mem_of_getElem? (i := 1022) (by decide +kernel), List.mem_of_getElem? (i := 58) (by decide +kernel)⟩
abbrev kX2_readUnit : ax_K := (yX2_readUnit, cX2_readUnit, 7, (some .boolean))
theorem mX2_readUnit : ax_mv kX2_readUnit 2 := ⟨⟨wd_171, List.mem_of_getElem? (i := 1027) (by decide +kernel), by decide +kernel, by decide +kernel, by decide⟩, List.mem_of_getElem? (i := 1026) (by decide +kernel), List.mem_of_getElem? (i := 59) (by decide +kernel)⟩
abbrev kX2_readPair : ax_K := (yX2_readPair, cX2_readPair, 4, (some .boolean))
theorem mX2_readPair : ax_mv kX2_readPair 3 := ⟨⟨wd_171, List.mem_of_getElem? (i := 1057) (by decide +kernel), by decide +kernel, by decide +kernel, by decide⟩, List.mem_of_getElem? (i := 1056) (by decide +kernel), List.mem_of_getElem? (i := 60) (by decide +kernel)⟩
abbrev kX2_variableOf : ax_K := (yX2_variableOf, cX2_variableOf, 1, (some .int))
theorem mX2_variableOf : ax_ms kX2_variableOf 1 := ⟨⟨wd_171, List.mem_of_getElem? (i := 1031) (by decide +kernel), by decide +kernel, by decide +kernel, by decide⟩, List.mem_of_getElem? (i := 1030) (by decide +kernel)⟩
abbrev kX2_variableOfMeeting : ax_K := (yX2_variableOfMeeting, cX2_variableOfMeeting, 1, (some .int))
theorem mX2_variableOfMeeting : ax_ms kX2_variableOfMeeting 1 := ⟨⟨wd_171, List.mem_of_getElem? (i := 1041) (by decide +kernel), by decide +kernel, by decide +kernel, by decide⟩, List.mem_of_getElem? (i := 1040) (by decide +kernel)⟩
abbrev kX2_valueBy : ax_K := (yX2_valueBy, cX2_valueBy, 5, (some .int))
theorem mX2_valueBy : ax_mv kX2_valueBy 1 := ⟨⟨wd_171, List.mem_of_getElem? (i := 691) (by decide +kernel), by decide +kernel, by decide +kernel, by decide⟩, List.mem_of_getElem? (i := 690) (by decide +kernel), List.mem_of_getElem? (i := 23) (by decide +kernel)⟩
abbrev kX2_variableBy : ax_K := (yX2_variableBy, cX2_variableBy, 2, (some .int))
theorem mX2_variableBy : ax_ms kX2_variableBy 2 := ⟨⟨wd_171, List.mem_of_getElem? (i := 697) (by decide +kernel), by decide +kernel, by decide +kernel, by decide⟩, List.mem_of_getElem? (i := 696) (by decide +kernel)⟩
abbrev kX2_joined : ax_K := (yX2_joined, cX2_joined, 3, (some .int))
theorem mX2_joined : ax_ms kX2_joined 3 := ⟨⟨wd_171, List.mem_of_getElem? (i := 694) (by decide +kernel), by decide +kernel, by decide +kernel, by decide⟩, List.mem_of_getElem? (i := 693) (by decide +kernel)⟩
abbrev kX3_init : ax_K := (yX3_init, cX3_init, 1, none)
theorem mX3_init : ax_mi kX3_init 0 := ⟨⟨wd_175, List.mem_of_getElem? (i := 503) (by decide +kernel), by decide +kernel, by decide +kernel, by decide⟩, List.mem_of_getElem? (i := 502) (by decide +kernel), rfl⟩
abbrev kX3_isPair : ax_K := (yX3_isPair, cX3_isPair, 2, (some .boolean))
theorem mX3_isPair : ax_ms kX3_isPair 2 := ⟨⟨wd_175, List.mem_of_getElem? (i := 1315) (by decide +kernel), by decide +kernel, by decide +kernel, by decide⟩, List.mem_of_getElem? (i := 1314) (by decide +kernel)⟩
abbrev kX3_put : ax_K := (yX3_put, cX3_put, 5, none)
theorem mX3_put : ax_mv kX3_put 4 := ⟨⟨wd_175, List.mem_of_getElem? (i := 1319) (by decide +kernel), by decide +kernel, by decide +kernel, by decide⟩, List.mem_of_getElem? (i := 1318) (by decide +kernel), List.mem_of_getElem? (i := 90) (by decide +kernel)⟩
abbrev kX3_copy : ax_K := (yX3_copy, cX3_copy, 6, none)
theorem mX3_copy : ax_mv kX3_copy 4 := ⟨⟨wd_175, List.mem_of_getElem? (i := 1312) (by decide +kernel), by decide +kernel, by decide +kernel, by decide⟩, List.mem_of_getElem? (i := 1311) (by decide +kernel), List.mem_of_getElem? (i := 89) (by decide +kernel)⟩
abbrev kX3_isRest : ax_K := (yX3_isRest, cX3_isRest, 6, (some .boolean))
theorem mX3_isRest : ax_mv kX3_isRest 3 := ⟨⟨wd_175, List.mem_of_getElem? (i := 1328) (by decide +kernel), by decide +kernel, by decide +kernel, by decide⟩, List.mem_of_getElem? (i := 1327) (by decide +kernel), List.mem_of_getElem? (i := 92) (by decide +kernel)⟩
abbrev kX3_restsOf : ax_K := (yX3_restsOf, cX3_restsOf, 5, (some .int))
theorem mX3_restsOf : ax_mv kX3_restsOf 1 := ⟨⟨wd_175, List.mem_of_getElem? (i := 1324) (by decide +kernel), by decide +kernel, by decide +kernel, by decide⟩, List.mem_of_getElem? (i := 1323) (by decide +kernel), List.mem_of_getElem? (i := 91) (by decide +kernel)⟩
abbrev kX3_firstRest : ax_K := (yX3_firstRest, cX3_firstRest, 4, (some .int))
theorem mX3_firstRest : ax_mv kX3_firstRest 1 := ⟨⟨wd_175, List.mem_of_getElem? (i := 1332) (by decide +kernel), by decide +kernel, by decide +kernel, by decide⟩, List.mem_of_getElem? (i := 1331) (by decide +kernel), List.mem_of_getElem? (i := 93) (by decide +kernel)⟩
abbrev kX3_kindest : ax_K := (yX3_kindest, cX3_kindest, 5, (some .int))
theorem mX3_kindest : ax_mv kX3_kindest 1 := ⟨⟨wd_175, List.mem_of_getElem? (i := 1339) (by decide +kernel), by decide +kernel, by decide +kernel, by decide⟩, List.mem_of_getElem? (i := 1338) (by decide +kernel), List.mem_of_getElem? (i := 94) (by decide +kernel)⟩
abbrev kX3_together : ax_K := (yX3_together, cX3_together, 2, (some .int))
theorem mX3_together : ax_mv kX3_together 1 := ⟨⟨wd_175, List.mem_of_getElem? (i := 1343) (by decide +kernel), by decide +kernel, by decide +kernel, by decide⟩, List.mem_of_getElem? (i := 1342) (by decide +kernel), List.mem_of_getElem? (i := 95) (by decide +kernel)⟩
abbrev kX4_init : ax_K := (yX4_init, cX4_init, 1, none)
theorem mX4_init : ax_mi kX4_init 0 := ⟨⟨wd_173, List.mem_of_getElem? (i := 412) (by decide +kernel), by decide +kernel, by decide +kernel, by decide⟩, List.mem_of_getElem? (i := 411) (by decide +kernel), rfl⟩
abbrev kX4_tripOf : ax_K := (yX4_tripOf, cX4_tripOf, 2, (some (.object "DipLights$Trip")))
theorem mX4_tripOf : ax_mv kX4_tripOf 1 := ⟨⟨wd_173, List.mem_of_getElem? (i := 683) (by decide +kernel), by decide +kernel, by decide +kernel, by decide⟩, List.mem_of_getElem? (i := 682) (by decide +kernel), List.mem_of_getElem? (i := 21) (by decide +kernel)⟩
abbrev kX4_run : ax_K := (yX4_run, cX4_run, 9, none)
theorem mX4_run : ax_mv kX4_run 3 := ⟨⟨wd_173, List.mem_of_getElem? (i := 616) (by decide +kernel), by decide +kernel, by decide +kernel, by decide⟩, List.mem_of_getElem? (i := 615) (by decide +kernel), List.mem_of_getElem? (i := 6) (by decide +kernel)⟩
abbrev kX4_measure : ax_K := (yX4_measure, cX4_measure, 6, none)
theorem mX4_measure : ax_mv kX4_measure 2 := ⟨⟨wd_173, List.mem_of_getElem? (i := 636) (by decide +kernel), by decide +kernel, by decide +kernel, by decide⟩, List.mem_of_getElem? (i := 635) (by decide +kernel), List.mem_of_getElem? (i := 11) (by decide +kernel)⟩
abbrev kX4_beamsOf : ax_K := (yX4_beamsOf, cX4_beamsOf, 4, (some .int))
theorem mX4_beamsOf : ax_mv kX4_beamsOf 3 := ⟨⟨wd_173, List.mem_of_getElem? (i := 650) (by decide +kernel), by decide +kernel, by decide +kernel, by decide⟩, List.mem_of_getElem? (i := 649) (by decide +kernel), List.mem_of_getElem? (i := 13) (by decide +kernel)⟩
abbrev kX4_dazzles : ax_K := (yX4_dazzles, cX4_dazzles, 3, (some .boolean))
theorem mX4_dazzles : ax_mv kX4_dazzles 1 := ⟨⟨wd_173, List.mem_of_getElem? (i := 701) (by decide +kernel), by decide +kernel, by decide +kernel, by decide⟩, List.mem_of_getElem? (i := 700) (by decide +kernel), List.mem_of_getElem? (i := 24) (by decide +kernel)⟩
abbrev kX4_keep : ax_K := (yX4_keep, cX4_keep, 4, none)
theorem mX4_keep : ax_mv kX4_keep 3 := ⟨⟨wd_173, List.mem_of_getElem? (i := 714) (by decide +kernel), by decide +kernel, by decide +kernel, by decide⟩, List.mem_of_getElem? (i := 713) (by decide +kernel), List.mem_of_getElem? (i := 27) (by decide +kernel)⟩
abbrev kX4_tellValues : ax_K := (yX4_tellValues, cX4_tellValues, 5, none)
theorem mX4_tellValues : ax_mv kX4_tellValues 2 := ⟨⟨wd_173, List.mem_of_getElem? (i := 666) (by decide +kernel), by decide +kernel, by decide +kernel, by decide⟩, List.mem_of_getElem? (i := 665) (by decide +kernel), List.mem_of_getElem? (i := 17) (by decide +kernel)⟩
abbrev kX4_apartIn : ax_K := (yX4_apartIn, cX4_apartIn, 2, (some .int))
theorem mX4_apartIn : ax_mv kX4_apartIn 1 := ⟨⟨wd_173, List.mem_of_getElem? (i := 662) (by decide +kernel), by decide +kernel, by decide +kernel, by decide⟩, List.mem_of_getElem? (i := 661) (by decide +kernel), List.mem_of_getElem? (i := 16) (by decide +kernel)⟩
abbrev kX4_inView : ax_K := (yX4_inView, cX4_inView, 2, (some .boolean))
theorem mX4_inView : ax_mv kX4_inView 1 := ⟨⟨wd_173, List.mem_of_getElem? (i := 679) (by decide +kernel), by decide +kernel, by decide +kernel, by decide⟩, List.mem_of_getElem? (i := 678) (by decide +kernel), List.mem_of_getElem? (i := 20) (by decide +kernel)⟩
abbrev kX4_far : ax_K := (yX4_far, cX4_far, 3, (some .int))
theorem mX4_far : ax_mv kX4_far 1 := ⟨⟨wd_173, List.mem_of_getElem? (i := 658) (by decide +kernel), by decide +kernel, by decide +kernel, by decide⟩, List.mem_of_getElem? (i := 657) (by decide +kernel), List.mem_of_getElem? (i := 15) (by decide +kernel)⟩
abbrev kX4_beamsBy : ax_K := (yX4_beamsBy, cX4_beamsBy, 3, (some .int))
theorem mX4_beamsBy : ax_mv kX4_beamsBy 2 := ⟨⟨wd_173, List.mem_of_getElem? (i := 654) (by decide +kernel), by decide +kernel, by decide +kernel, by decide⟩, List.mem_of_getElem? (i := 653) (by decide +kernel), List.mem_of_getElem? (i := 14) (by decide +kernel)⟩
abbrev kX4_everApartBy : ax_K := (yX4_everApartBy, cX4_everApartBy, 3, (some .boolean))
theorem mX4_everApartBy : ax_mv kX4_everApartBy 1 := ⟨⟨wd_173, List.mem_of_getElem? (i := 1308) (by decide +kernel), by decide +kernel, by decide +kernel, by decide⟩, List.mem_of_getElem? (i := 1307) (by decide +kernel), List.mem_of_getElem? (i := 88) (by decide +kernel)⟩
abbrev kX4_hitBy : ax_K := (yX4_hitBy, cX4_hitBy, 5, (some .int))
theorem mX4_hitBy : ax_mv kX4_hitBy 4 := ⟨⟨wd_173, List.mem_of_getElem? (i := 1179) (by decide +kernel), by decide +kernel, by decide +kernel, by decide⟩, List.mem_of_getElem? (i := 1178) (by decide +kernel), List.mem_of_getElem? (i := 72) (by decide +kernel)⟩
abbrev kX4_hitByCars : ax_K := (yX4_hitByCars, cX4_hitByCars, 4, (some .int))
theorem mX4_hitByCars : ax_mv kX4_hitByCars 3 := ⟨⟨wd_173, List.mem_of_getElem? (i := 1491) (by decide +kernel), by decide +kernel, by decide +kernel, by decide⟩, List.mem_of_getElem? (i := 1490) (by decide +kernel), List.mem_of_getElem? (i := 102) (by decide +kernel)⟩
abbrev kX4_hitBits : ax_K := (yX4_hitBits, cX4_hitBits, 5, (some .int))
theorem mX4_hitBits : ax_mv kX4_hitBits 2 := ⟨⟨wd_173, List.mem_of_getElem? (i := 1175) (by decide +kernel), by decide +kernel, by decide +kernel, by decide⟩, List.mem_of_getElem? (i := 1174) (by decide +kernel), List.mem_of_getElem? (i := 71) (by decide +kernel)⟩
abbrev kX4_hitCount : ax_K := (yX4_hitCount, cX4_hitCount, 3, (some .int))
theorem mX4_hitCount : ax_mv kX4_hitCount 2 := ⟨⟨wd_173, List.mem_of_getElem? (i := 1285) (by decide +kernel), by decide +kernel, by decide +kernel, by decide⟩, List.mem_of_getElem? (i := 1284) (by decide +kernel), List.mem_of_getElem? (i := 86) (by decide +kernel)⟩
abbrev kX4_costOf : ax_K := (yX4_costOf, cX4_costOf, 3, (some .int))
theorem mX4_costOf : ax_mv kX4_costOf 2 := ⟨⟨wd_173, List.mem_of_getElem? (i := 1281) (by decide +kernel), by decide +kernel, by decide +kernel, by decide⟩, List.mem_of_getElem? (i := 1280) (by decide +kernel), List.mem_of_getElem? (i := 85) (by decide +kernel)⟩
abbrev kX5_init : ax_K := (yX5_init, cX5_init, 1, none)
theorem mX5_init : ax_mi kX5_init 0 := ⟨⟨wd_170, List.mem_of_getElem? (i := 250) (by decide +kernel), by decide +kernel, by decide +kernel, by decide⟩, List.mem_of_getElem? (i := 249) (by decide +kernel), rfl⟩
abbrev kX5_empty : ax_K := (yX5_empty, cX5_empty, 2, none)
theorem mX5_empty : ax_mv kX5_empty 0 := ⟨⟨wd_170, List.mem_of_getElem? (i := 882) (by decide +kernel), by decide +kernel, by decide +kernel, by decide⟩, List.mem_of_getElem? (i := 881) (by decide +kernel), List.mem_of_getElem? (i := 40) (by decide +kernel)⟩
abbrev kX5_readFrom : ax_K := (yX5_readFrom, cX5_readFrom, 4, (some .boolean))
theorem mX5_readFrom : ax_mv kX5_readFrom 1 := ⟨⟨wd_170, List.mem_of_getElem? (i := 878) (by decide +kernel), by decide +kernel, by decide +kernel, by decide⟩, List.mem_of_getElem? (i := 877) (by decide +kernel), List.mem_of_getElem? (i := 39) (by decide +kernel)⟩
abbrev kX5_clauseOf : ax_K := (yX5_clauseOf, cX5_clauseOf, 1, (some .int))
theorem mX5_clauseOf : ax_ms kX5_clauseOf 1 := ⟨⟨wd_170, List.mem_of_getElem? (i := 885) (by decide +kernel), by decide +kernel, by decide +kernel, by decide⟩, List.mem_of_getElem? (i := 884) (by decide +kernel)⟩
abbrev kX5_hasRoomFor : ax_K := (yX5_hasRoomFor, cX5_hasRoomFor, 2, (some .boolean))
theorem mX5_hasRoomFor : ax_mv kX5_hasRoomFor 1 := ⟨⟨wd_170, List.mem_of_getElem? (i := 953) (by decide +kernel), by decide +kernel, by decide +kernel, by decide⟩, List.mem_of_getElem? (i := 952) (by decide +kernel), List.mem_of_getElem? (i := 43) (by decide +kernel)⟩
abbrev kX5_readClause : ax_K := (yX5_readClause, cX5_readClause, 3, (some .boolean))
theorem mX5_readClause : ax_mv kX5_readClause 2 := ⟨⟨wd_170, List.mem_of_getElem? (i := 958) (by decide +kernel), by decide +kernel, by decide +kernel, by decide⟩, List.mem_of_getElem? (i := 957) (by decide +kernel), List.mem_of_getElem? (i := 44) (by decide +kernel)⟩
abbrev kX5_readBend : ax_K := (yX5_readBend, cX5_readBend, 4, (some .boolean))
theorem mX5_readBend : ax_mv kX5_readBend 1 := ⟨⟨wd_170, List.mem_of_getElem? (i := 971) (by decide +kernel), by decide +kernel, by decide +kernel, by decide⟩, List.mem_of_getElem? (i := 970) (by decide +kernel), List.mem_of_getElem? (i := 47) (by decide +kernel)⟩
abbrev kX5_readWet : ax_K := (yX5_readWet, cX5_readWet, 5, (some .boolean))
theorem mX5_readWet : ax_mv kX5_readWet 1 := ⟨⟨wd_170, List.mem_of_getElem? (i := 975) (by decide +kernel), by decide +kernel, by decide +kernel, by decide⟩, List.mem_of_getElem? (i := 974) (by decide +kernel), List.mem_of_getElem? (i := 48) (by decide +kernel)⟩
abbrev kX5_readCoat : ax_K := (yX5_readCoat, cX5_readCoat, 4, (some .boolean))
theorem mX5_readCoat : ax_mv kX5_readCoat 1 := ⟨⟨wd_170, List.mem_of_getElem? (i := 979) (by decide +kernel), by decide +kernel, by decide +kernel, by decide⟩, List.mem_of_getElem? (i := 978) (by decide +kernel), List.mem_of_getElem? (i := 49) (by decide +kernel)⟩
abbrev kX5_readReach : ax_K := (yX5_readReach, cX5_readReach, 2, (some .boolean))
theorem mX5_readReach : ax_mv kX5_readReach 1 := ⟨⟨wd_170, List.mem_of_getElem? (i := 983) (by decide +kernel), by decide +kernel, by decide +kernel, by decide⟩, List.mem_of_getElem? (i := 982) (by decide +kernel), List.mem_of_getElem? (i := 50) (by decide +kernel)⟩
abbrev kX5_readCar : ax_K := (yX5_readCar, cX5_readCar, 5, (some .boolean))
theorem mX5_readCar : ax_mv kX5_readCar 1 := ⟨⟨wd_170, List.mem_of_getElem? (i := 987) (by decide +kernel), by decide +kernel, by decide +kernel, by decide⟩, List.mem_of_getElem? (i := 986) (by decide +kernel), List.mem_of_getElem? (i := 51) (by decide +kernel)⟩
abbrev kX5_startOf : ax_K := (yX5_startOf, cX5_startOf, 2, (some .int))
theorem mX5_startOf : ax_mv kX5_startOf 1 := ⟨⟨wd_170, List.mem_of_getElem? (i := 624) (by decide +kernel), by decide +kernel, by decide +kernel, by decide⟩, List.mem_of_getElem? (i := 623) (by decide +kernel), List.mem_of_getElem? (i := 8) (by decide +kernel)⟩
abbrev kX5_has : ax_K := (yX5_has, cX5_has, 2, (some .boolean))
theorem mX5_has : ax_mv kX5_has 1 := ⟨⟨wd_170, List.mem_of_getElem? (i := 632) (by decide +kernel), by decide +kernel, by decide +kernel, by decide⟩, List.mem_of_getElem? (i := 631) (by decide +kernel), List.mem_of_getElem? (i := 10) (by decide +kernel)⟩
abbrev kX5_wetAt : ax_K := (yX5_wetAt, cX5_wetAt, 2, (some .int))
theorem mX5_wetAt : ax_mv kX5_wetAt 1 := ⟨⟨wd_170, List.mem_of_getElem? (i := 674) (by decide +kernel), by decide +kernel, by decide +kernel, by decide⟩, List.mem_of_getElem? (i := 673) (by decide +kernel), List.mem_of_getElem? (i := 19) (by decide +kernel)⟩
abbrev kX5_wetCells : ax_K := (yX5_wetCells, cX5_wetCells, 3, (some .int))
theorem mX5_wetCells : ax_mv kX5_wetCells 0 := ⟨⟨wd_170, List.mem_of_getElem? (i := 1128) (by decide +kernel), by decide +kernel, by decide +kernel, by decide⟩, List.mem_of_getElem? (i := 1127) (by decide +kernel), List.mem_of_getElem? (i := 67) (by decide +kernel)⟩
abbrev kX5_hides : ax_K := (yX5_hides, cX5_hides, 6, (some .boolean))
theorem mX5_hides : ax_mv kX5_hides 2 := ⟨⟨wd_170, List.mem_of_getElem? (i := 640) (by decide +kernel), by decide +kernel, by decide +kernel, by decide⟩, List.mem_of_getElem? (i := 639) (by decide +kernel), List.mem_of_getElem? (i := 12) (by decide +kernel)⟩
abbrev kX5_reachBy : ax_K := (yX5_reachBy, cX5_reachBy, 2, (some .int))
theorem mX5_reachBy : ax_mv kX5_reachBy 1 := ⟨⟨wd_170, List.mem_of_getElem? (i := 670) (by decide +kernel), by decide +kernel, by decide +kernel, by decide⟩, List.mem_of_getElem? (i := 669) (by decide +kernel), List.mem_of_getElem? (i := 18) (by decide +kernel)⟩
abbrev kX5_blindFor : ax_K := (yX5_blindFor, cX5_blindFor, 2, (some .int))
theorem mX5_blindFor : ax_mv kX5_blindFor 1 := ⟨⟨wd_170, List.mem_of_getElem? (i := 705) (by decide +kernel), by decide +kernel, by decide +kernel, by decide⟩, List.mem_of_getElem? (i := 704) (by decide +kernel), List.mem_of_getElem? (i := 25) (by decide +kernel)⟩
abbrev kX5_cellOfDraw : ax_K := (yX5_cellOfDraw, cX5_cellOfDraw, 2, (some .int))
theorem mX5_cellOfDraw : ax_mv kX5_cellOfDraw 1 := ⟨⟨wd_170, List.mem_of_getElem? (i := 1479) (by decide +kernel), by decide +kernel, by decide +kernel, by decide⟩, List.mem_of_getElem? (i := 1478) (by decide +kernel), List.mem_of_getElem? (i := 101) (by decide +kernel)⟩
abbrev kX6_init : ax_K := (yX6_init, cX6_init, 1, none)
theorem mX6_init : ax_mi kX6_init 0 := ⟨⟨wd_168, List.mem_of_getElem? (i := 203) (by decide +kernel), by decide +kernel, by decide +kernel, by decide⟩, List.mem_of_getElem? (i := 202) (by decide +kernel), rfl⟩
abbrev kX6_put : ax_K := (yX6_put, cX6_put, 3, none)
theorem mX6_put : ax_mv kX6_put 1 := ⟨⟨wd_168, List.mem_of_getElem? (i := 600) (by decide +kernel), by decide +kernel, by decide +kernel, by decide⟩, List.mem_of_getElem? (i := 599) (by decide +kernel), List.mem_of_getElem? (i := 4) (by decide +kernel)⟩
abbrev kX6_beginText : ax_K := (yX6_beginText, cX6_beginText, 2, none)
theorem mX6_beginText : ax_mv kX6_beginText 1 := ⟨⟨wd_168, List.mem_of_getElem? (i := 865) (by decide +kernel), by decide +kernel, by decide +kernel, by decide⟩, List.mem_of_getElem? (i := 864) (by decide +kernel), List.mem_of_getElem? (i := 37) (by decide +kernel)⟩
abbrev kX6_answerOfFault : ax_K := (yX6_answerOfFault, cX6_answerOfFault, 1, (some .int))
theorem mX6_answerOfFault : ax_mv kX6_answerOfFault 0 := ⟨⟨wd_168, List.mem_of_getElem? (i := 999) (by decide +kernel), by decide +kernel, by decide +kernel, by decide⟩, List.mem_of_getElem? (i := 998) (by decide +kernel), List.mem_of_getElem? (i := 54) (by decide +kernel)⟩
abbrev kX6_fail : ax_K := (yX6_fail, cX6_fail, 2, (some .boolean))
theorem mX6_fail : ax_mv kX6_fail 1 := ⟨⟨wd_168, List.mem_of_getElem? (i := 949) (by decide +kernel), by decide +kernel, by decide +kernel, by decide⟩, List.mem_of_getElem? (i := 948) (by decide +kernel), List.mem_of_getElem? (i := 42) (by decide +kernel)⟩
abbrev kX6_advance : ax_K := (yX6_advance, cX6_advance, 1, none)
theorem mX6_advance : ax_mv kX6_advance 0 := ⟨⟨wd_168, List.mem_of_getElem? (i := 870) (by decide +kernel), by decide +kernel, by decide +kernel, by decide⟩, List.mem_of_getElem? (i := 869) (by decide +kernel), List.mem_of_getElem? (i := 38) (by decide +kernel)⟩
abbrev kX6_tokenOf : ax_K := (yX6_tokenOf, cX6_tokenOf, 1, (some .int))
theorem mX6_tokenOf : ax_ms kX6_tokenOf 1 := ⟨⟨wd_168, List.mem_of_getElem? (i := 873) (by decide +kernel), by decide +kernel, by decide +kernel, by decide⟩, List.mem_of_getElem? (i := 872) (by decide +kernel)⟩
abbrev kX6_isWord : ax_K := (yX6_isWord, cX6_isWord, 4, (some .boolean))
theorem mX6_isWord : ax_mv kX6_isWord 1 := ⟨⟨wd_168, List.mem_of_getElem? (i := 890) (by decide +kernel), by decide +kernel, by decide +kernel, by decide⟩, List.mem_of_getElem? (i := 889) (by decide +kernel), List.mem_of_getElem? (i := 41) (by decide +kernel)⟩
abbrev kX6_isSign : ax_K := (yX6_isSign, cX6_isSign, 2, (some .boolean))
theorem mX6_isSign : ax_mv kX6_isSign 1 := ⟨⟨wd_168, List.mem_of_getElem? (i := 995) (by decide +kernel), by decide +kernel, by decide +kernel, by decide⟩, List.mem_of_getElem? (i := 994) (by decide +kernel), List.mem_of_getElem? (i := 53) (by decide +kernel)⟩
abbrev kX6_takeSign : ax_K := (yX6_takeSign, cX6_takeSign, 2, (some .boolean))
theorem mX6_takeSign : ax_mv kX6_takeSign 1 := ⟨⟨wd_168, List.mem_of_getElem? (i := 991) (by decide +kernel), by decide +kernel, by decide +kernel, by decide⟩, List.mem_of_getElem? (i := 990) (by decide +kernel), List.mem_of_getElem? (i := 52) (by decide +kernel)⟩
abbrev kX6_standsNumber : ax_K := (yX6_standsNumber, cX6_standsNumber, 3, (some .boolean))
theorem mX6_standsNumber : ax_mv kX6_standsNumber 2 := ⟨⟨wd_168, List.mem_of_getElem? (i := 966) (by decide +kernel), by decide +kernel, by decide +kernel, by decide⟩, List.mem_of_getElem? (i := 965) (by decide +kernel), List.mem_of_getElem? (i := 46) (by decide +kernel)⟩
abbrev kX6_takeNumber : ax_K := (yX6_takeNumber, cX6_takeNumber, 4, (some .int))
theorem mX6_takeNumber : ax_mv kX6_takeNumber 2 := ⟨⟨wd_168, List.mem_of_getElem? (i := 962) (by decide +kernel), by decide +kernel, by decide +kernel, by decide⟩, List.mem_of_getElem? (i := 961) (by decide +kernel), List.mem_of_getElem? (i := 45) (by decide +kernel)⟩
abbrev kX7_init : ax_K := (yX7_init, cX7_init, 1, none)
theorem mX7_init : ax_mi kX7_init 0 := ⟨⟨wd_169, List.mem_of_getElem? (i := 244) (by decide +kernel), by decide +kernel, by decide +kernel, by decide⟩, List.mem_of_getElem? (i := 243) (by decide +kernel), rfl⟩
abbrev kX7_forgetFormulas : ax_K := (yX7_forgetFormulas, cX7_forgetFormulas, 1, none)
theorem mX7_forgetFormulas : ax_mv kX7_forgetFormulas 0 := ⟨⟨wd_169, List.mem_of_getElem? (i := 352) (by decide +kernel), by decide +kernel, by decide +kernel, by decide⟩, List.mem_of_getElem? (i := 351) (by decide +kernel), List.mem_of_getElem? (i := 0) (by decide +kernel)⟩
abbrev kX7_swapRule : ax_K := (yX7_swapRule, cX7_swapRule, 4, (some (.object "DipLights$Formula")))
theorem mX7_swapRule : ax_mv kX7_swapRule 2 := ⟨⟨wd_169, List.mem_of_getElem? (i := 1089) (by decide +kernel), by decide +kernel, by decide +kernel, by decide⟩, List.mem_of_getElem? (i := 1088) (by decide +kernel), List.mem_of_getElem? (i := 62) (by decide +kernel)⟩
abbrev kX7_valuesOfNobody : ax_K := (yX7_valuesOfNobody, cX7_valuesOfNobody, 2, (some (.array .int)))
theorem mX7_valuesOfNobody : ax_mv kX7_valuesOfNobody 0 := ⟨⟨wd_169, List.mem_of_getElem? (i := 1248) (by decide +kernel), by decide +kernel, by decide +kernel, by decide⟩, List.mem_of_getElem? (i := 1247) (by decide +kernel), List.mem_of_getElem? (i := 83) (by decide +kernel)⟩
abbrev kX7_sightByLaw : ax_K := (yX7_sightByLaw, cX7_sightByLaw, 1, (some .int))
theorem mX7_sightByLaw : ax_mv kX7_sightByLaw 0 := ⟨⟨wd_169, List.mem_of_getElem? (i := 718) (by decide +kernel), by decide +kernel, by decide +kernel, by decide⟩, List.mem_of_getElem? (i := 717) (by decide +kernel), List.mem_of_getElem? (i := 28) (by decide +kernel)⟩
abbrev kX7_beamsByRule : ax_K := (yX7_beamsByRule, cX7_beamsByRule, 2, (some .int))
theorem mX7_beamsByRule : ax_mv kX7_beamsByRule 1 := ⟨⟨wd_169, List.mem_of_getElem? (i := 687) (by decide +kernel), by decide +kernel, by decide +kernel, by decide⟩, List.mem_of_getElem? (i := 686) (by decide +kernel), List.mem_of_getElem? (i := 22) (by decide +kernel)⟩
abbrev kX8_init : ax_K := (yX8_init, cX8_init, 2, none)
theorem mX8_init : ax_mi kX8_init 1 := ⟨⟨wd_174, List.mem_of_getElem? (i := 418) (by decide +kernel), by decide +kernel, by decide +kernel, by decide⟩, List.mem_of_getElem? (i := 417) (by decide +kernel), rfl⟩
abbrev kX8_begin : ax_K := (yX8_begin, cX8_begin, 2, none)
theorem mX8_begin : ax_mv kX8_begin 1 := ⟨⟨wd_174, List.mem_of_getElem? (i := 620) (by decide +kernel), by decide +kernel, by decide +kernel, by decide⟩, List.mem_of_getElem? (i := 619) (by decide +kernel), List.mem_of_getElem? (i := 7) (by decide +kernel)⟩
abbrev kX8_isOn : ax_K := (yX8_isOn, cX8_isOn, 2, (some .boolean))
theorem mX8_isOn : ax_mv kX8_isOn 1 := ⟨⟨wd_174, List.mem_of_getElem? (i := 628) (by decide +kernel), by decide +kernel, by decide +kernel, by decide⟩, List.mem_of_getElem? (i := 627) (by decide +kernel), List.mem_of_getElem? (i := 9) (by decide +kernel)⟩
abbrev kX8_becomeBlind : ax_K := (yX8_becomeBlind, cX8_becomeBlind, 3, none)
theorem mX8_becomeBlind : ax_mv kX8_becomeBlind 2 := ⟨⟨wd_174, List.mem_of_getElem? (i := 709) (by decide +kernel), by decide +kernel, by decide +kernel, by decide⟩, List.mem_of_getElem? (i := 708) (by decide +kernel), List.mem_of_getElem? (i := 26) (by decide +kernel)⟩
abbrev kX8_keep : ax_K := (yX8_keep, cX8_keep, 5, none)
theorem mX8_keep : ax_mv kX8_keep 4 := ⟨⟨wd_174, List.mem_of_getElem? (i := 724) (by decide +kernel), by decide +kernel, by decide +kernel, by decide⟩, List.mem_of_getElem? (i := 723) (by decide +kernel), List.mem_of_getElem? (i := 29) (by decide +kernel)⟩
abbrev kX8_unsafe : ax_K := (yX8_unsafe, cX8_unsafe, 2, (some .int))
theorem mX8_unsafe : ax_mv kX8_unsafe 1 := ⟨⟨wd_174, List.mem_of_getElem? (i := 1163) (by decide +kernel), by decide +kernel, by decide +kernel, by decide⟩, List.mem_of_getElem? (i := 1162) (by decide +kernel), List.mem_of_getElem? (i := 70) (by decide +kernel)⟩
abbrev kX8_unsafeTenths : ax_K := (yX8_unsafeTenths, cX8_unsafeTenths, 3, (some .int))
theorem mX8_unsafeTenths : ax_mv kX8_unsafeTenths 0 := ⟨⟨wd_174, List.mem_of_getElem? (i := 1216) (by decide +kernel), by decide +kernel, by decide +kernel, by decide⟩, List.mem_of_getElem? (i := 1215) (by decide +kernel), List.mem_of_getElem? (i := 77) (by decide +kernel)⟩
abbrev kX8_glareTenths : ax_K := (yX8_glareTenths, cX8_glareTenths, 3, (some .int))
theorem mX8_glareTenths : ax_mv kX8_glareTenths 0 := ⟨⟨wd_174, List.mem_of_getElem? (i := 1221) (by decide +kernel), by decide +kernel, by decide +kernel, by decide⟩, List.mem_of_getElem? (i := 1220) (by decide +kernel), List.mem_of_getElem? (i := 78) (by decide +kernel)⟩
abbrev kX8_blindTenths : ax_K := (yX8_blindTenths, cX8_blindTenths, 3, (some .int))
theorem mX8_blindTenths : ax_mv kX8_blindTenths 0 := ⟨⟨wd_174, List.mem_of_getElem? (i := 1225) (by decide +kernel), by decide +kernel, by decide +kernel, by decide⟩, List.mem_of_getElem? (i := 1224) (by decide +kernel), List.mem_of_getElem? (i := 79) (by decide +kernel)⟩
abbrev kX8_fullTenths : ax_K := (yX8_fullTenths, cX8_fullTenths, 3, (some .int))
theorem mX8_fullTenths : ax_mv kX8_fullTenths 0 := ⟨⟨wd_174, List.mem_of_getElem? (i := 1229) (by decide +kernel), by decide +kernel, by decide +kernel, by decide⟩, List.mem_of_getElem? (i := 1228) (by decide +kernel), List.mem_of_getElem? (i := 80) (by decide +kernel)⟩
abbrev kX8_beamChanges : ax_K := (yX8_beamChanges, cX8_beamChanges, 4, (some .int))
theorem mX8_beamChanges : ax_mv kX8_beamChanges 0 := ⟨⟨wd_174, List.mem_of_getElem? (i := 1233) (by decide +kernel), by decide +kernel, by decide +kernel, by decide⟩, List.mem_of_getElem? (i := 1232) (by decide +kernel), List.mem_of_getElem? (i := 81) (by decide +kernel)⟩
abbrev kX8_leastSight : ax_K := (yX8_leastSight, cX8_leastSight, 3, (some .int))
theorem mX8_leastSight : ax_mv kX8_leastSight 0 := ⟨⟨wd_174, List.mem_of_getElem? (i := 1237) (by decide +kernel), by decide +kernel, by decide +kernel, by decide⟩, List.mem_of_getElem? (i := 1236) (by decide +kernel), List.mem_of_getElem? (i := 82) (by decide +kernel)⟩
abbrev kX8_firstBeams : ax_K := (yX8_firstBeams, cX8_firstBeams, 4, (some .int))
theorem mX8_firstBeams : ax_mv kX8_firstBeams 2 := ⟨⟨wd_174, List.mem_of_getElem? (i := 1509) (by decide +kernel), by decide +kernel, by decide +kernel, by decide⟩, List.mem_of_getElem? (i := 1508) (by decide +kernel), List.mem_of_getElem? (i := 103) (by decide +kernel)⟩
abbrev kX8_ahead : ax_K := (yX8_ahead, cX8_ahead, 3, (some .int))
theorem mX8_ahead : ax_mv kX8_ahead 2 := ⟨⟨wd_174, List.mem_of_getElem? (i := 1191) (by decide +kernel), by decide +kernel, by decide +kernel, by decide⟩, List.mem_of_getElem? (i := 1190) (by decide +kernel), List.mem_of_getElem? (i := 75) (by decide +kernel)⟩
abbrev kX8_seenIn : ax_K := (yX8_seenIn, cX8_seenIn, 6, (some .int))
theorem mX8_seenIn : ax_mv kX8_seenIn 3 := ⟨⟨wd_174, List.mem_of_getElem? (i := 1195) (by decide +kernel), by decide +kernel, by decide +kernel, by decide⟩, List.mem_of_getElem? (i := 1194) (by decide +kernel), List.mem_of_getElem? (i := 76) (by decide +kernel)⟩
abbrev kX8_reachedIn : ax_K := (yX8_reachedIn, cX8_reachedIn, 4, (some .int))
theorem mX8_reachedIn : ax_mv kX8_reachedIn 1 := ⟨⟨wd_174, List.mem_of_getElem? (i := 1187) (by decide +kernel), by decide +kernel, by decide +kernel, by decide⟩, List.mem_of_getElem? (i := 1186) (by decide +kernel), List.mem_of_getElem? (i := 74) (by decide +kernel)⟩
abbrev kX8_doesHit : ax_K := (yX8_doesHit, cX8_doesHit, 6, (some .boolean))
theorem mX8_doesHit : ax_mv kX8_doesHit 3 := ⟨⟨wd_174, List.mem_of_getElem? (i := 1183) (by decide +kernel), by decide +kernel, by decide +kernel, by decide⟩, List.mem_of_getElem? (i := 1182) (by decide +kernel), List.mem_of_getElem? (i := 73) (by decide +kernel)⟩
abbrev kX9_init : ax_K := (yX9_init, cX9_init, 1, none)
theorem mX9_init : ax_mi kX9_init 0 := ⟨⟨wd_167, List.mem_of_getElem? (i := 195) (by decide +kernel), by decide +kernel, by decide +kernel, by decide⟩, List.mem_of_getElem? (i := 194) (by decide +kernel), rfl⟩
abbrev kX9_feed : ax_K := (yX9_feed, cX9_feed, 6, (some .int))
theorem mX9_feed : ax_mv kX9_feed 5 := ⟨⟨wd_167, List.mem_of_getElem? (i := 596) (by decide +kernel), by decide +kernel, by decide +kernel, by decide⟩, List.mem_of_getElem? (i := 594) (by decide +kernel), List.mem_of_getElem? (i := 595) (by decide +kernel)⟩
abbrev kX9_road : ax_K := (yX9_road, cX9_road, 3, (some .int))
theorem mX9_road : ax_mv kX9_road 1 := ⟨⟨wd_167, List.mem_of_getElem? (i := 785) (by decide +kernel), by decide +kernel, by decide +kernel, by decide⟩, List.mem_of_getElem? (i := 783) (by decide +kernel), List.mem_of_getElem? (i := 784) (by decide +kernel)⟩
abbrev kX9_law : ax_K := (yX9_law, cX9_law, 3, (some .int))
theorem mX9_law : ax_mv kX9_law 1 := ⟨⟨wd_167, List.mem_of_getElem? (i := 1011) (by decide +kernel), by decide +kernel, by decide +kernel, by decide⟩, List.mem_of_getElem? (i := 1009) (by decide +kernel), List.mem_of_getElem? (i := 1010) (by decide +kernel)⟩
abbrev kX9_rule : ax_K := (yX9_rule, cX9_rule, 3, (some .int))
theorem mX9_rule : ax_mv kX9_rule 2 := ⟨⟨wd_167, List.mem_of_getElem? (i := 1065) (by decide +kernel), by decide +kernel, by decide +kernel, by decide⟩, List.mem_of_getElem? (i := 1063) (by decide +kernel), List.mem_of_getElem? (i := 1064) (by decide +kernel)⟩
abbrev kX9_book : ax_K := (yX9_book, cX9_book, 3, (some .int))
theorem mX9_book : ax_mv kX9_book 1 := ⟨⟨wd_167, List.mem_of_getElem? (i := 1096) (by decide +kernel), by decide +kernel, by decide +kernel, by decide⟩, List.mem_of_getElem? (i := 1094) (by decide +kernel), List.mem_of_getElem? (i := 1095) (by decide +kernel)⟩
abbrev kX9_fault : ax_K := (yX9_fault, cX9_fault, 1, (some .int))
theorem mX9_fault : ax_mv kX9_fault 0 := ⟨⟨wd_167, List.mem_of_getElem? (i := 604) (by decide +kernel), by decide +kernel, by decide +kernel, by decide⟩, List.mem_of_getElem? (i := 602) (by decide +kernel), List.mem_of_getElem? (i := 603) (by decide +kernel)⟩
abbrev kX9_takeText : ax_K := (yX9_takeText, cX9_takeText, 3, none)
theorem mX9_takeText : ax_mv kX9_takeText 2 := ⟨⟨wd_167, List.mem_of_getElem? (i := 789) (by decide +kernel), by decide +kernel, by decide +kernel, by decide⟩, List.mem_of_getElem? (i := 788) (by decide +kernel), List.mem_of_getElem? (i := 34) (by decide +kernel)⟩
abbrev kX9_meetingChanged : ax_K := (yX9_meetingChanged, cX9_meetingChanged, 1, none)
theorem mX9_meetingChanged : ax_mv kX9_meetingChanged 0 := ⟨⟨wd_167, List.mem_of_getElem? (i := 744) (by decide +kernel), by decide +kernel, by decide +kernel, by decide⟩, List.mem_of_getElem? (i := 743) (by decide +kernel), List.mem_of_getElem? (i := 31) (by decide +kernel)⟩
abbrev kX9_told : ax_K := (yX9_told, cX9_told, 3, (some .int))
theorem mX9_told : ax_mv kX9_told 1 := ⟨⟨wd_167, List.mem_of_getElem? (i := 1120) (by decide +kernel), by decide +kernel, by decide +kernel, by decide⟩, List.mem_of_getElem? (i := 1118) (by decide +kernel), List.mem_of_getElem? (i := 1119) (by decide +kernel)⟩
abbrev kX9_car : ax_K := (yX9_car, cX9_car, 4, (some .int))
theorem mX9_car : ax_mv kX9_car 2 := ⟨⟨wd_167, List.mem_of_getElem? (i := 1135) (by decide +kernel), by decide +kernel, by decide +kernel, by decide⟩, List.mem_of_getElem? (i := 1133) (by decide +kernel), List.mem_of_getElem? (i := 1134) (by decide +kernel)⟩
abbrev kX9_coat : ax_K := (yX9_coat, cX9_coat, 3, (some .int))
theorem mX9_coat : ax_mv kX9_coat 2 := ⟨⟨wd_167, List.mem_of_getElem? (i := 1147) (by decide +kernel), by decide +kernel, by decide +kernel, by decide⟩, List.mem_of_getElem? (i := 1145) (by decide +kernel), List.mem_of_getElem? (i := 1146) (by decide +kernel)⟩
abbrev kX9_freshMeeting : ax_K := (yX9_freshMeeting, cX9_freshMeeting, 1, (some (.object "DipLights$Meeting")))
theorem mX9_freshMeeting : ax_mv kX9_freshMeeting 0 := ⟨⟨wd_167, List.mem_of_getElem? (i := 612) (by decide +kernel), by decide +kernel, by decide +kernel, by decide⟩, List.mem_of_getElem? (i := 611) (by decide +kernel), List.mem_of_getElem? (i := 5) (by decide +kernel)⟩
abbrev kX9_tenths : ax_K := (yX9_tenths, cX9_tenths, 1, (some .int))
theorem mX9_tenths : ax_mv kX9_tenths 0 := ⟨⟨wd_167, List.mem_of_getElem? (i := 608) (by decide +kernel), by decide +kernel, by decide +kernel, by decide⟩, List.mem_of_getElem? (i := 606) (by decide +kernel), List.mem_of_getElem? (i := 607) (by decide +kernel)⟩
abbrev kX9_at : ax_K := (yX9_at, cX9_at, 6, (some .int))
theorem mX9_at : ax_mv kX9_at 3 := ⟨⟨wd_167, List.mem_of_getElem? (i := 1158) (by decide +kernel), by decide +kernel, by decide +kernel, by decide⟩, List.mem_of_getElem? (i := 1156) (by decide +kernel), List.mem_of_getElem? (i := 1157) (by decide +kernel)⟩
abbrev kX9_passes : ax_K := (yX9_passes, cX9_passes, 1, (some .int))
theorem mX9_passes : ax_mv kX9_passes 0 := ⟨⟨wd_167, List.mem_of_getElem? (i := 729) (by decide +kernel), by decide +kernel, by decide +kernel, by decide⟩, List.mem_of_getElem? (i := 727) (by decide +kernel), List.mem_of_getElem? (i := 728) (by decide +kernel)⟩
abbrev kX9_hits : ax_K := (yX9_hits, cX9_hits, 2, (some .int))
theorem mX9_hits : ax_mv kX9_hits 1 := ⟨⟨wd_167, List.mem_of_getElem? (i := 1171) (by decide +kernel), by decide +kernel, by decide +kernel, by decide⟩, List.mem_of_getElem? (i := 1169) (by decide +kernel), List.mem_of_getElem? (i := 1170) (by decide +kernel)⟩
abbrev kX9_sees : ax_K := (yX9_sees, cX9_sees, 6, (some .int))
theorem mX9_sees : ax_mv kX9_sees 2 := ⟨⟨wd_167, List.mem_of_getElem? (i := 1203) (by decide +kernel), by decide +kernel, by decide +kernel, by decide⟩, List.mem_of_getElem? (i := 1201) (by decide +kernel), List.mem_of_getElem? (i := 1202) (by decide +kernel)⟩
abbrev kX9_sums : ax_K := (yX9_sums, cX9_sums, 4, (some .int))
theorem mX9_sums : ax_mv kX9_sums 2 := ⟨⟨wd_167, List.mem_of_getElem? (i := 1212) (by decide +kernel), by decide +kernel, by decide +kernel, by decide⟩, List.mem_of_getElem? (i := 1210) (by decide +kernel), List.mem_of_getElem? (i := 1211) (by decide +kernel)⟩
abbrev kX9_would : ax_K := (yX9_would, cX9_would, 6, (some .int))
theorem mX9_would : ax_mv kX9_would 4 := ⟨⟨wd_167, List.mem_of_getElem? (i := 1244) (by decide +kernel), by decide +kernel, by decide +kernel, by decide⟩, List.mem_of_getElem? (i := 1242) (by decide +kernel), List.mem_of_getElem? (i := 1243) (by decide +kernel)⟩
abbrev kX9_cost : ax_K := (yX9_cost, cX9_cost, 4, (some .int))
theorem mX9_cost : ax_mv kX9_cost 3 := ⟨⟨wd_167, List.mem_of_getElem? (i := 1257) (by decide +kernel), by decide +kernel, by decide +kernel, by decide⟩, List.mem_of_getElem? (i := 1255) (by decide +kernel), List.mem_of_getElem? (i := 1256) (by decide +kernel)⟩
abbrev kX9_duel : ax_K := (yX9_duel, cX9_duel, 4, (some .int))
theorem mX9_duel : ax_mv kX9_duel 2 := ⟨⟨wd_167, List.mem_of_getElem? (i := 1300) (by decide +kernel), by decide +kernel, by decide +kernel, by decide⟩, List.mem_of_getElem? (i := 1298) (by decide +kernel), List.mem_of_getElem? (i := 1299) (by decide +kernel)⟩
abbrev kX9_pairNumber : ax_K := (yX9_pairNumber, cX9_pairNumber, 2, (some .int))
theorem mX9_pairNumber : ax_ms kX9_pairNumber 2 := ⟨⟨wd_167, List.mem_of_getElem? (i := 1335) (by decide +kernel), by decide +kernel, by decide +kernel, by decide⟩, List.mem_of_getElem? (i := 1334) (by decide +kernel)⟩
abbrev kX9_fillDuel : ax_K := (yX9_fillDuel, cX9_fillDuel, 5, none)
theorem mX9_fillDuel : ax_mv kX9_fillDuel 2 := ⟨⟨wd_167, List.mem_of_getElem? (i := 1304) (by decide +kernel), by decide +kernel, by decide +kernel, by decide⟩, List.mem_of_getElem? (i := 1303) (by decide +kernel), List.mem_of_getElem? (i := 87) (by decide +kernel)⟩
abbrev kX9_answer : ax_K := (yX9_answer, cX9_answer, 7, (some .int))
theorem mX9_answer : ax_mv kX9_answer 2 := ⟨⟨wd_167, List.mem_of_getElem? (i := 1351) (by decide +kernel), by decide +kernel, by decide +kernel, by decide⟩, List.mem_of_getElem? (i := 1349) (by decide +kernel), List.mem_of_getElem? (i := 1350) (by decide +kernel)⟩
abbrev kX9_habit : ax_K := (yX9_habit, cX9_habit, 6, (some .int))
theorem mX9_habit : ax_mv kX9_habit 2 := ⟨⟨wd_167, List.mem_of_getElem? (i := 1359) (by decide +kernel), by decide +kernel, by decide +kernel, by decide⟩, List.mem_of_getElem? (i := 1357) (by decide +kernel), List.mem_of_getElem? (i := 1358) (by decide +kernel)⟩
abbrev kX9_nextHabit : ax_K := (yX9_nextHabit, cX9_nextHabit, 2, (some .int))
theorem mX9_nextHabit : ax_mv kX9_nextHabit 1 := ⟨⟨wd_167, List.mem_of_getElem? (i := 1363) (by decide +kernel), by decide +kernel, by decide +kernel, by decide⟩, List.mem_of_getElem? (i := 1362) (by decide +kernel), List.mem_of_getElem? (i := 96) (by decide +kernel)⟩
abbrev kX9_leastVisited : ax_K := (yX9_leastVisited, cX9_leastVisited, 3, (some .int))
theorem mX9_leastVisited : ax_mv kX9_leastVisited 1 := ⟨⟨wd_167, List.mem_of_getElem? (i := 1369) (by decide +kernel), by decide +kernel, by decide +kernel, by decide⟩, List.mem_of_getElem? (i := 1368) (by decide +kernel), List.mem_of_getElem? (i := 97) (by decide +kernel)⟩
abbrev kX9_greatestVisited : ax_K := (yX9_greatestVisited, cX9_greatestVisited, 3, (some .int))
theorem mX9_greatestVisited : ax_mv kX9_greatestVisited 1 := ⟨⟨wd_167, List.mem_of_getElem? (i := 1373) (by decide +kernel), by decide +kernel, by decide +kernel, by decide⟩, List.mem_of_getElem? (i := 1372) (by decide +kernel), List.mem_of_getElem? (i := 98) (by decide +kernel)⟩
abbrev kX9_safe : ax_K := (yX9_safe, cX9_safe, 6, (some .int))
theorem mX9_safe : ax_mv kX9_safe 2 := ⟨⟨wd_167, List.mem_of_getElem? (i := 1380) (by decide +kernel), by decide +kernel, by decide +kernel, by decide⟩, List.mem_of_getElem? (i := 1378) (by decide +kernel), List.mem_of_getElem? (i := 1379) (by decide +kernel)⟩
abbrev kX9_loaded : ax_K := (yX9_loaded, cX9_loaded, 11, (some .long))
theorem mX9_loaded : ax_mv kX9_loaded 4 := ⟨⟨wd_167, List.mem_of_getElem? (i := 1388) (by decide +kernel), by decide +kernel, by decide +kernel, by decide⟩, List.mem_of_getElem? (i := 1386) (by decide +kernel), List.mem_of_getElem? (i := 1387) (by decide +kernel)⟩
abbrev kX9_power : ax_K := (yX9_power, cX9_power, 5, (some .long))
theorem mX9_power : ax_ms kX9_power 2 := ⟨⟨wd_167, List.mem_of_getElem? (i := 1391) (by decide +kernel), by decide +kernel, by decide +kernel, by decide⟩, List.mem_of_getElem? (i := 1390) (by decide +kernel)⟩
abbrev kX9_commonDivisor : ax_K := (yX9_commonDivisor, cX9_commonDivisor, 11, (some .long))
theorem mX9_commonDivisor : ax_ms kX9_commonDivisor 2 := ⟨⟨wd_167, List.mem_of_getElem? (i := 1394) (by decide +kernel), by decide +kernel, by decide +kernel, by decide⟩, List.mem_of_getElem? (i := 1393) (by decide +kernel)⟩
abbrev kX9_blinds : ax_K := (yX9_blinds, cX9_blinds, 2, (some .int))
theorem mX9_blinds : ax_mv kX9_blinds 1 := ⟨⟨wd_167, List.mem_of_getElem? (i := 1401) (by decide +kernel), by decide +kernel, by decide +kernel, by decide⟩, List.mem_of_getElem? (i := 1399) (by decide +kernel), List.mem_of_getElem? (i := 1400) (by decide +kernel)⟩
abbrev kX9_old : ax_K := (yX9_old, cX9_old, 3, (some .int))
theorem mX9_old : ax_mv kX9_old 1 := ⟨⟨wd_167, List.mem_of_getElem? (i := 1409) (by decide +kernel), by decide +kernel, by decide +kernel, by decide⟩, List.mem_of_getElem? (i := 1407) (by decide +kernel), List.mem_of_getElem? (i := 1408) (by decide +kernel)⟩
abbrev kX9_between : ax_K := (yX9_between, cX9_between, 3, (some .boolean))
theorem mX9_between : ax_mv kX9_between 2 := ⟨⟨wd_167, List.mem_of_getElem? (i := 1416) (by decide +kernel), by decide +kernel, by decide +kernel, by decide⟩, List.mem_of_getElem? (i := 1414) (by decide +kernel), List.mem_of_getElem? (i := 1415) (by decide +kernel)⟩
abbrev kX9_gets : ax_K := (yX9_gets, cX9_gets, 3, (some .int))
theorem mX9_gets : ax_mv kX9_gets 2 := ⟨⟨wd_167, List.mem_of_getElem? (i := 1423) (by decide +kernel), by decide +kernel, by decide +kernel, by decide⟩, List.mem_of_getElem? (i := 1421) (by decide +kernel), List.mem_of_getElem? (i := 1422) (by decide +kernel)⟩
abbrev kX9_gain : ax_K := (yX9_gain, cX9_gain, 3, (some .int))
theorem mX9_gain : ax_ms kX9_gain 2 := ⟨⟨wd_167, List.mem_of_getElem? (i := 1426) (by decide +kernel), by decide +kernel, by decide +kernel, by decide⟩, List.mem_of_getElem? (i := 1425) (by decide +kernel)⟩
abbrev kX9_bulbs : ax_K := (yX9_bulbs, cX9_bulbs, 5, (some .int))
theorem mX9_bulbs : ax_mv kX9_bulbs 2 := ⟨⟨wd_167, List.mem_of_getElem? (i := 1433) (by decide +kernel), by decide +kernel, by decide +kernel, by decide⟩, List.mem_of_getElem? (i := 1431) (by decide +kernel), List.mem_of_getElem? (i := 1432) (by decide +kernel)⟩
abbrev kX9_distances : ax_K := (yX9_distances, cX9_distances, 1, (some .long))
theorem mX9_distances : ax_mv kX9_distances 0 := ⟨⟨wd_167, List.mem_of_getElem? (i := 1440) (by decide +kernel), by decide +kernel, by decide +kernel, by decide⟩, List.mem_of_getElem? (i := 1438) (by decide +kernel), List.mem_of_getElem? (i := 1439) (by decide +kernel)⟩
abbrev kX9_distanceBits : ax_K := (yX9_distanceBits, cX9_distanceBits, 5, (some .long))
theorem mX9_distanceBits : ax_mv kX9_distanceBits 1 := ⟨⟨wd_167, List.mem_of_getElem? (i := 1444) (by decide +kernel), by decide +kernel, by decide +kernel, by decide⟩, List.mem_of_getElem? (i := 1443) (by decide +kernel), List.mem_of_getElem? (i := 99) (by decide +kernel)⟩
abbrev kX9_bookFits : ax_K := (yX9_bookFits, cX9_bookFits, 5, (some .boolean))
theorem mX9_bookFits : ax_mv kX9_bookFits 2 := ⟨⟨wd_167, List.mem_of_getElem? (i := 1448) (by decide +kernel), by decide +kernel, by decide +kernel, by decide⟩, List.mem_of_getElem? (i := 1447) (by decide +kernel), List.mem_of_getElem? (i := 100) (by decide +kernel)⟩
abbrev kX9_look : ax_K := (yX9_look, cX9_look, 9, (some .int))
theorem mX9_look : ax_mv kX9_look 1 := ⟨⟨wd_167, List.mem_of_getElem? (i := 1456) (by decide +kernel), by decide +kernel, by decide +kernel, by decide⟩, List.mem_of_getElem? (i := 1454) (by decide +kernel), List.mem_of_getElem? (i := 1455) (by decide +kernel)⟩
abbrev kX9_worstLeft : ax_K := (yX9_worstLeft, cX9_worstLeft, 8, (some .int))
theorem mX9_worstLeft : ax_ms kX9_worstLeft 3 := ⟨⟨wd_167, List.mem_of_getElem? (i := 1459) (by decide +kernel), by decide +kernel, by decide +kernel, by decide⟩, List.mem_of_getElem? (i := 1458) (by decide +kernel)⟩
abbrev kX9_right : ax_K := (yX9_right, cX9_right, 4, (some .int))
theorem mX9_right : ax_mv kX9_right 0 := ⟨⟨wd_167, List.mem_of_getElem? (i := 1467) (by decide +kernel), by decide +kernel, by decide +kernel, by decide⟩, List.mem_of_getElem? (i := 1465) (by decide +kernel), List.mem_of_getElem? (i := 1466) (by decide +kernel)⟩
abbrev kX9_nights : ax_K := (yX9_nights, cX9_nights, 16, (some .int))
theorem mX9_nights : ax_mv kX9_nights 3 := ⟨⟨wd_167, List.mem_of_getElem? (i := 1474) (by decide +kernel), by decide +kernel, by decide +kernel, by decide⟩, List.mem_of_getElem? (i := 1472) (by decide +kernel), List.mem_of_getElem? (i := 1473) (by decide +kernel)⟩
abbrev kX9_darkest : ax_K := (yX9_darkest, cX9_darkest, 6, (some .int))
theorem mX9_darkest : ax_mv kX9_darkest 1 := ⟨⟨wd_167, List.mem_of_getElem? (i := 1487) (by decide +kernel), by decide +kernel, by decide +kernel, by decide⟩, List.mem_of_getElem? (i := 1485) (by decide +kernel), List.mem_of_getElem? (i := 1486) (by decide +kernel)⟩
abbrev kX9_dark : ax_K := (yX9_dark, cX9_dark, 5, (some .int))
theorem mX9_dark : ax_mv kX9_dark 2 := ⟨⟨wd_167, List.mem_of_getElem? (i := 1498) (by decide +kernel), by decide +kernel, by decide +kernel, by decide⟩, List.mem_of_getElem? (i := 1496) (by decide +kernel), List.mem_of_getElem? (i := 1497) (by decide +kernel)⟩
abbrev kX9_dips : ax_K := (yX9_dips, cX9_dips, 5, (some .int))
theorem mX9_dips : ax_mv kX9_dips 2 := ⟨⟨wd_167, List.mem_of_getElem? (i := 1505) (by decide +kernel), by decide +kernel, by decide +kernel, by decide⟩, List.mem_of_getElem? (i := 1503) (by decide +kernel), List.mem_of_getElem? (i := 1504) (by decide +kernel)⟩
abbrev kX9_gap : ax_K := (yX9_gap, cX9_gap, 8, (some .int))
theorem mX9_gap : ax_mv kX9_gap 2 := ⟨⟨wd_167, List.mem_of_getElem? (i := 1516) (by decide +kernel), by decide +kernel, by decide +kernel, by decide⟩, List.mem_of_getElem? (i := 1514) (by decide +kernel), List.mem_of_getElem? (i := 1515) (by decide +kernel)⟩
abbrev kX9_needs : ax_K := (yX9_needs, cX9_needs, 3, (some .int))
theorem mX9_needs : ax_mv kX9_needs 1 := ⟨⟨wd_167, List.mem_of_getElem? (i := 1523) (by decide +kernel), by decide +kernel, by decide +kernel, by decide⟩, List.mem_of_getElem? (i := 1521) (by decide +kernel), List.mem_of_getElem? (i := 1522) (by decide +kernel)⟩
abbrev kX9_clear : ax_K := (yX9_clear, cX9_clear, 6, (some .int))
theorem mX9_clear : ax_mv kX9_clear 1 := ⟨⟨wd_167, List.mem_of_getElem? (i := 1530) (by decide +kernel), by decide +kernel, by decide +kernel, by decide⟩, List.mem_of_getElem? (i := 1528) (by decide +kernel), List.mem_of_getElem? (i := 1529) (by decide +kernel)⟩
abbrev kX9_paces : ax_K := (yX9_paces, cX9_paces, 11, (some .int))
theorem mX9_paces : ax_mv kX9_paces 1 := ⟨⟨wd_167, List.mem_of_getElem? (i := 1537) (by decide +kernel), by decide +kernel, by decide +kernel, by decide⟩, List.mem_of_getElem? (i := 1535) (by decide +kernel), List.mem_of_getElem? (i := 1536) (by decide +kernel)⟩
abbrev kX9_finds : ax_K := (yX9_finds, cX9_finds, 9, (some .int))
theorem mX9_finds : ax_mv kX9_finds 2 := ⟨⟨wd_167, List.mem_of_getElem? (i := 1545) (by decide +kernel), by decide +kernel, by decide +kernel, by decide⟩, List.mem_of_getElem? (i := 1543) (by decide +kernel), List.mem_of_getElem? (i := 1544) (by decide +kernel)⟩
abbrev kX9_drives : ax_K := (yX9_drives, cX9_drives, 4, (some .int))
theorem mX9_drives : ax_mv kX9_drives 3 := ⟨⟨wd_167, List.mem_of_getElem? (i := 1552) (by decide +kernel), by decide +kernel, by decide +kernel, by decide⟩, List.mem_of_getElem? (i := 1550) (by decide +kernel), List.mem_of_getElem? (i := 1551) (by decide +kernel)⟩
abbrev kX9_stands : ax_K := (yX9_stands, cX9_stands, 4, (some .int))
theorem mX9_stands : ax_mv kX9_stands 3 := ⟨⟨wd_167, List.mem_of_getElem? (i := 1573) (by decide +kernel), by decide +kernel, by decide +kernel, by decide⟩, List.mem_of_getElem? (i := 1571) (by decide +kernel), List.mem_of_getElem? (i := 1572) (by decide +kernel)⟩
abbrev kX9_weather : ax_K := (yX9_weather, cX9_weather, 3, (some .int))
theorem mX9_weather : ax_mv kX9_weather 2 := ⟨⟨wd_167, List.mem_of_getElem? (i := 1580) (by decide +kernel), by decide +kernel, by decide +kernel, by decide⟩, List.mem_of_getElem? (i := 1578) (by decide +kernel), List.mem_of_getElem? (i := 1579) (by decide +kernel)⟩
abbrev kX9_change : ax_K := (yX9_change, cX9_change, 5, (some .int))
theorem mX9_change : ax_mv kX9_change 4 := ⟨⟨wd_167, List.mem_of_getElem? (i := 1556) (by decide +kernel), by decide +kernel, by decide +kernel, by decide⟩, List.mem_of_getElem? (i := 1555) (by decide +kernel), List.mem_of_getElem? (i := 104) (by decide +kernel)⟩
abbrev kX9_undo : ax_K := (yX9_undo, cX9_undo, 1, (some .int))
theorem mX9_undo : ax_mv kX9_undo 0 := ⟨⟨wd_167, List.mem_of_getElem? (i := 733) (by decide +kernel), by decide +kernel, by decide +kernel, by decide⟩, List.mem_of_getElem? (i := 731) (by decide +kernel), List.mem_of_getElem? (i := 732) (by decide +kernel)⟩
abbrev kX9_image : ax_K := (yX9_image, cX9_image, 1, (some .int))
theorem mX9_image : ax_mv kX9_image 0 := ⟨⟨wd_167, List.mem_of_getElem? (i := 748) (by decide +kernel), by decide +kernel, by decide +kernel, by decide⟩, List.mem_of_getElem? (i := 746) (by decide +kernel), List.mem_of_getElem? (i := 747) (by decide +kernel)⟩
abbrev kX9_restore : ax_K := (yX9_restore, cX9_restore, 1, (some .int))
theorem mX9_restore : ax_mv kX9_restore 0 := ⟨⟨wd_167, List.mem_of_getElem? (i := 762) (by decide +kernel), by decide +kernel, by decide +kernel, by decide⟩, List.mem_of_getElem? (i := 760) (by decide +kernel), List.mem_of_getElem? (i := 761) (by decide +kernel)⟩
abbrev kX9_status : ax_K := (yX9_status, cX9_status, 2, (some .int))
theorem mX9_status : ax_mv kX9_status 1 := ⟨⟨wd_167, List.mem_of_getElem? (i := 773) (by decide +kernel), by decide +kernel, by decide +kernel, by decide⟩, List.mem_of_getElem? (i := 771) (by decide +kernel), List.mem_of_getElem? (i := 772) (by decide +kernel)⟩
abbrev kX9_count : ax_K := (yX9_count, cX9_count, 2, (some .int))
theorem mX9_count : ax_mv kX9_count 1 := ⟨⟨wd_167, List.mem_of_getElem? (i := 777) (by decide +kernel), by decide +kernel, by decide +kernel, by decide⟩, List.mem_of_getElem? (i := 775) (by decide +kernel), List.mem_of_getElem? (i := 776) (by decide +kernel)⟩
abbrev kX9_needElement : ax_K := (yX9_needElement, cX9_needElement, 2, none)
theorem mX9_needElement : ax_mv kX9_needElement 1 := ⟨⟨wd_167, List.mem_of_getElem? (i := 1069) (by decide +kernel), by decide +kernel, by decide +kernel, by decide⟩, List.mem_of_getElem? (i := 1068) (by decide +kernel), List.mem_of_getElem? (i := 61) (by decide +kernel)⟩
abbrev kX9_needCar : ax_K := (yX9_needCar, cX9_needCar, 2, none)
theorem mX9_needCar : ax_mv kX9_needCar 1 := ⟨⟨wd_167, List.mem_of_getElem? (i := 1139) (by decide +kernel), by decide +kernel, by decide +kernel, by decide⟩, List.mem_of_getElem? (i := 1138) (by decide +kernel), List.mem_of_getElem? (i := 68) (by decide +kernel)⟩
abbrev kX9_needCoat : ax_K := (yX9_needCoat, cX9_needCoat, 2, none)
theorem mX9_needCoat : ax_mv kX9_needCoat 1 := ⟨⟨wd_167, List.mem_of_getElem? (i := 1151) (by decide +kernel), by decide +kernel, by decide +kernel, by decide⟩, List.mem_of_getElem? (i := 1150) (by decide +kernel), List.mem_of_getElem? (i := 69) (by decide +kernel)⟩
abbrev kX9_needArgument : ax_K := (yX9_needArgument, cX9_needArgument, 2, none)
theorem mX9_needArgument : ax_mv kX9_needArgument 1 := ⟨⟨wd_167, List.mem_of_getElem? (i := 793) (by decide +kernel), by decide +kernel, by decide +kernel, by decide⟩, List.mem_of_getElem? (i := 792) (by decide +kernel), List.mem_of_getElem? (i := 35) (by decide +kernel)⟩
abbrev kX9_needRange : ax_K := (yX9_needRange, cX9_needRange, 4, none)
theorem mX9_needRange : ax_mv kX9_needRange 3 := ⟨⟨wd_167, List.mem_of_getElem? (i := 1124) (by decide +kernel), by decide +kernel, by decide +kernel, by decide⟩, List.mem_of_getElem? (i := 1123) (by decide +kernel), List.mem_of_getElem? (i := 66) (by decide +kernel)⟩
abbrev kX9_needTwoCars : ax_K := (yX9_needTwoCars, cX9_needTwoCars, 1, none)
theorem mX9_needTwoCars : ax_mv kX9_needTwoCars 0 := ⟨⟨wd_167, List.mem_of_getElem? (i := 1261) (by decide +kernel), by decide +kernel, by decide +kernel, by decide⟩, List.mem_of_getElem? (i := 1260) (by decide +kernel), List.mem_of_getElem? (i := 84) (by decide +kernel)⟩
abbrev kX10_init : ax_K := (yX10_init, cX10_init, 1, none)
theorem mX10_init : ax_mi kX10_init 0 := ⟨⟨wd_177, List.mem_of_getElem? (i := 1585) (by decide +kernel), by decide +kernel, by decide +kernel, by decide⟩, List.mem_of_getElem? (i := 1584) (by decide +kernel), rfl⟩
abbrev kX10_tellsNothing : ax_K := (yX10_tellsNothing, cX10_tellsNothing, 2, none)
theorem mX10_tellsNothing : ax_mv kX10_tellsNothing 0 := ⟨⟨wd_177, List.mem_of_getElem? (i := 1593) (by decide +kernel), by decide +kernel, by decide +kernel, by decide⟩, List.mem_of_getElem? (i := 1592) (by decide +kernel), List.mem_of_getElem? (i := 106) (by decide +kernel)⟩
abbrev kX10_thrown : ax_K := (yX10_thrown, cX10_thrown, 1, (some .int))
theorem mX10_thrown : ax_mv kX10_thrown 0 := ⟨⟨wd_177, List.mem_of_getElem? (i := 1764) (by decide +kernel), by decide +kernel, by decide +kernel, by decide⟩, List.mem_of_getElem? (i := 1762) (by decide +kernel), List.mem_of_getElem? (i := 1763) (by decide +kernel)⟩
abbrev kX10_bad : ax_K := (yX10_bad, cX10_bad, 4, (some .boolean))
theorem mX10_bad : ax_mv kX10_bad 3 := ⟨⟨wd_177, List.mem_of_getElem? (i := 1779) (by decide +kernel), by decide +kernel, by decide +kernel, by decide⟩, List.mem_of_getElem? (i := 1778) (by decide +kernel), List.mem_of_getElem? (i := 108) (by decide +kernel)⟩
abbrev kX10_in : ax_K := (yX10_in, cX10_in, 3, (some .boolean))
theorem mX10_in : ax_ms kX10_in 3 := ⟨⟨wd_177, List.mem_of_getElem? (i := 1775) (by decide +kernel), by decide +kernel, by decide +kernel, by decide⟩, List.mem_of_getElem? (i := 1774) (by decide +kernel)⟩
abbrev kX10_less : ax_K := (yX10_less, cX10_less, 2, (some .int))
theorem mX10_less : ax_ms kX10_less 2 := ⟨⟨wd_177, List.mem_of_getElem? (i := 1908) (by decide +kernel), by decide +kernel, by decide +kernel, by decide⟩, List.mem_of_getElem? (i := 1907) (by decide +kernel)⟩
abbrev kX10_more : ax_K := (yX10_more, cX10_more, 2, (some .int))
theorem mX10_more : ax_ms kX10_more 2 := ⟨⟨wd_177, List.mem_of_getElem? (i := 1911) (by decide +kernel), by decide +kernel, by decide +kernel, by decide⟩, List.mem_of_getElem? (i := 1910) (by decide +kernel)⟩
abbrev kX10_far : ax_K := (yX10_far, cX10_far, 2, (some .int))
theorem mX10_far : ax_ms kX10_far 2 := ⟨⟨wd_177, List.mem_of_getElem? (i := 1966) (by decide +kernel), by decide +kernel, by decide +kernel, by decide⟩, List.mem_of_getElem? (i := 1965) (by decide +kernel)⟩
abbrev kX10_feed : ax_K := (yX10_feed, cX10_feed, 8, (some .int))
theorem mX10_feed : ax_mv kX10_feed 5 := ⟨⟨wd_177, List.mem_of_getElem? (i := 1768) (by decide +kernel), by decide +kernel, by decide +kernel, by decide⟩, List.mem_of_getElem? (i := 1766) (by decide +kernel), List.mem_of_getElem? (i := 1767) (by decide +kernel)⟩
abbrev kX10_byteAt : ax_K := (yX10_byteAt, cX10_byteAt, 2, (some .int))
theorem mX10_byteAt : ax_mv kX10_byteAt 1 := ⟨⟨wd_177, List.mem_of_getElem? (i := 1791) (by decide +kernel), by decide +kernel, by decide +kernel, by decide⟩, List.mem_of_getElem? (i := 1790) (by decide +kernel), List.mem_of_getElem? (i := 111) (by decide +kernel)⟩
abbrev kX10_blanks : ax_K := (yX10_blanks, cX10_blanks, 1, none)
theorem mX10_blanks : ax_mv kX10_blanks 0 := ⟨⟨wd_177, List.mem_of_getElem? (i := 1787) (by decide +kernel), by decide +kernel, by decide +kernel, by decide⟩, List.mem_of_getElem? (i := 1786) (by decide +kernel), List.mem_of_getElem? (i := 110) (by decide +kernel)⟩
abbrev kX10_wrong : ax_K := (yX10_wrong, cX10_wrong, 3, none)
theorem mX10_wrong : ax_mv kX10_wrong 2 := ⟨⟨wd_177, List.mem_of_getElem? (i := 1817) (by decide +kernel), by decide +kernel, by decide +kernel, by decide⟩, List.mem_of_getElem? (i := 1816) (by decide +kernel), List.mem_of_getElem? (i := 116) (by decide +kernel)⟩
abbrev kX10_isDigit : ax_K := (yX10_isDigit, cX10_isDigit, 1, (some .boolean))
theorem mX10_isDigit : ax_ms kX10_isDigit 1 := ⟨⟨wd_177, List.mem_of_getElem? (i := 1832) (by decide +kernel), by decide +kernel, by decide +kernel, by decide⟩, List.mem_of_getElem? (i := 1831) (by decide +kernel)⟩
abbrev kX10_isSmall : ax_K := (yX10_isSmall, cX10_isSmall, 1, (some .boolean))
theorem mX10_isSmall : ax_ms kX10_isSmall 1 := ⟨⟨wd_177, List.mem_of_getElem? (i := 1810) (by decide +kernel), by decide +kernel, by decide +kernel, by decide⟩, List.mem_of_getElem? (i := 1809) (by decide +kernel)⟩
abbrev kX10_number : ax_K := (yX10_number, cX10_number, 5, (some .int))
theorem mX10_number : ax_mv kX10_number 2 := ⟨⟨wd_177, List.mem_of_getElem? (i := 1829) (by decide +kernel), by decide +kernel, by decide +kernel, by decide⟩, List.mem_of_getElem? (i := 1828) (by decide +kernel), List.mem_of_getElem? (i := 119) (by decide +kernel)⟩
abbrev kX10_wordHere : ax_K := (yX10_wordHere, cX10_wordHere, 3, (some .int))
theorem mX10_wordHere : ax_mv kX10_wordHere 0 := ⟨⟨wd_177, List.mem_of_getElem? (i := 1807) (by decide +kernel), by decide +kernel, by decide +kernel, by decide⟩, List.mem_of_getElem? (i := 1806) (by decide +kernel), List.mem_of_getElem? (i := 115) (by decide +kernel)⟩
abbrev kX10_six : ax_K := (yX10_six, cX10_six, 7, (some .int))
theorem mX10_six : ax_ms kX10_six 6 := ⟨⟨wd_177, List.mem_of_getElem? (i := 1813) (by decide +kernel), by decide +kernel, by decide +kernel, by decide⟩, List.mem_of_getElem? (i := 1812) (by decide +kernel)⟩
abbrev kX10_isWord : ax_K := (yX10_isWord, cX10_isWord, 7, (some .boolean))
theorem mX10_isWord : ax_mv kX10_isWord 6 := ⟨⟨wd_177, List.mem_of_getElem? (i := 1803) (by decide +kernel), by decide +kernel, by decide +kernel, by decide⟩, List.mem_of_getElem? (i := 1802) (by decide +kernel), List.mem_of_getElem? (i := 114) (by decide +kernel)⟩
abbrev kX10_skipWord : ax_K := (yX10_skipWord, cX10_skipWord, 1, none)
theorem mX10_skipWord : ax_mv kX10_skipWord 0 := ⟨⟨wd_177, List.mem_of_getElem? (i := 1825) (by decide +kernel), by decide +kernel, by decide +kernel, by decide⟩, List.mem_of_getElem? (i := 1824) (by decide +kernel), List.mem_of_getElem? (i := 118) (by decide +kernel)⟩
abbrev kX10_takes : ax_K := (yX10_takes, cX10_takes, 8, (some .boolean))
theorem mX10_takes : ax_mv kX10_takes 6 := ⟨⟨wd_177, List.mem_of_getElem? (i := 1881) (by decide +kernel), by decide +kernel, by decide +kernel, by decide⟩, List.mem_of_getElem? (i := 1880) (by decide +kernel), List.mem_of_getElem? (i := 130) (by decide +kernel)⟩
abbrev kX10_sign : ax_K := (yX10_sign, cX10_sign, 2, none)
theorem mX10_sign : ax_mv kX10_sign 1 := ⟨⟨wd_177, List.mem_of_getElem? (i := 1841) (by decide +kernel), by decide +kernel, by decide +kernel, by decide⟩, List.mem_of_getElem? (i := 1840) (by decide +kernel), List.mem_of_getElem? (i := 121) (by decide +kernel)⟩
abbrev kX10_takesSign : ax_K := (yX10_takesSign, cX10_takesSign, 3, (some .boolean))
theorem mX10_takesSign : ax_mv kX10_takesSign 1 := ⟨⟨wd_177, List.mem_of_getElem? (i := 1885) (by decide +kernel), by decide +kernel, by decide +kernel, by decide⟩, List.mem_of_getElem? (i := 1884) (by decide +kernel), List.mem_of_getElem? (i := 131) (by decide +kernel)⟩
abbrev kX10_starts : ax_K := (yX10_starts, cX10_starts, 2, none)
theorem mX10_starts : ax_mv kX10_starts 1 := ⟨⟨wd_177, List.mem_of_getElem? (i := 1783) (by decide +kernel), by decide +kernel, by decide +kernel, by decide⟩, List.mem_of_getElem? (i := 1782) (by decide +kernel), List.mem_of_getElem? (i := 109) (by decide +kernel)⟩
abbrev kX10_ends : ax_K := (yX10_ends, cX10_ends, 1, (some .int))
theorem mX10_ends : ax_mv kX10_ends 0 := ⟨⟨wd_177, List.mem_of_getElem? (i := 1845) (by decide +kernel), by decide +kernel, by decide +kernel, by decide⟩, List.mem_of_getElem? (i := 1844) (by decide +kernel), List.mem_of_getElem? (i := 122) (by decide +kernel)⟩
abbrev kX10_kindHere : ax_K := (yX10_kindHere, cX10_kindHere, 1, (some .int))
theorem mX10_kindHere : ax_mv kX10_kindHere 0 := ⟨⟨wd_177, List.mem_of_getElem? (i := 1799) (by decide +kernel), by decide +kernel, by decide +kernel, by decide⟩, List.mem_of_getElem? (i := 1798) (by decide +kernel), List.mem_of_getElem? (i := 113) (by decide +kernel)⟩
abbrev kX10_isFull : ax_K := (yX10_isFull, cX10_isFull, 2, (some .boolean))
theorem mX10_isFull : ax_mv kX10_isFull 1 := ⟨⟨wd_177, List.mem_of_getElem? (i := 1821) (by decide +kernel), by decide +kernel, by decide +kernel, by decide⟩, List.mem_of_getElem? (i := 1820) (by decide +kernel), List.mem_of_getElem? (i := 117) (by decide +kernel)⟩
abbrev kX10_cellHere : ax_K := (yX10_cellHere, cX10_cellHere, 1, (some .int))
theorem mX10_cellHere : ax_mv kX10_cellHere 0 := ⟨⟨wd_177, List.mem_of_getElem? (i := 1837) (by decide +kernel), by decide +kernel, by decide +kernel, by decide⟩, List.mem_of_getElem? (i := 1836) (by decide +kernel), List.mem_of_getElem? (i := 120) (by decide +kernel)⟩
abbrev kX10_clause : ax_K := (yX10_clause, cX10_clause, 4, none)
theorem mX10_clause : ax_mv kX10_clause 0 := ⟨⟨wd_177, List.mem_of_getElem? (i := 1795) (by decide +kernel), by decide +kernel, by decide +kernel, by decide⟩, List.mem_of_getElem? (i := 1794) (by decide +kernel), List.mem_of_getElem? (i := 112) (by decide +kernel)⟩
abbrev kX10_road : ax_K := (yX10_road, cX10_road, 2, (some .int))
theorem mX10_road : ax_mv kX10_road 1 := ⟨⟨wd_177, List.mem_of_getElem? (i := 1772) (by decide +kernel), by decide +kernel, by decide +kernel, by decide⟩, List.mem_of_getElem? (i := 1770) (by decide +kernel), List.mem_of_getElem? (i := 1771) (by decide +kernel)⟩
abbrev kX10_copies : ax_K := (yX10_copies, cX10_copies, 4, none)
theorem mX10_copies : ax_ms kX10_copies 3 := ⟨⟨wd_177, List.mem_of_getElem? (i := 1600) (by decide +kernel), by decide +kernel, by decide +kernel, by decide⟩, List.mem_of_getElem? (i := 1599) (by decide +kernel)⟩
abbrev kX10_standsNow : ax_K := (yX10_standsNow, cX10_standsNow, 2, none)
theorem mX10_standsNow : ax_mv kX10_standsNow 0 := ⟨⟨wd_177, List.mem_of_getElem? (i := 1597) (by decide +kernel), by decide +kernel, by decide +kernel, by decide⟩, List.mem_of_getElem? (i := 1596) (by decide +kernel), List.mem_of_getElem? (i := 107) (by decide +kernel)⟩
abbrev kX10_notes : ax_K := (yX10_notes, cX10_notes, 3, none)
theorem mX10_notes : ax_mv kX10_notes 2 := ⟨⟨wd_177, List.mem_of_getElem? (i := 1873) (by decide +kernel), by decide +kernel, by decide +kernel, by decide⟩, List.mem_of_getElem? (i := 1872) (by decide +kernel), List.mem_of_getElem? (i := 128) (by decide +kernel)⟩
abbrev kX10_opens : ax_K := (yX10_opens, cX10_opens, 1, (some .boolean))
theorem mX10_opens : ax_mv kX10_opens 0 := ⟨⟨wd_177, List.mem_of_getElem? (i := 1869) (by decide +kernel), by decide +kernel, by decide +kernel, by decide⟩, List.mem_of_getElem? (i := 1868) (by decide +kernel), List.mem_of_getElem? (i := 127) (by decide +kernel)⟩
abbrev kX10_sum : ax_K := (yX10_sum, cX10_sum, 2, none)
theorem mX10_sum : ax_mv kX10_sum 0 := ⟨⟨wd_177, List.mem_of_getElem? (i := 1857) (by decide +kernel), by decide +kernel, by decide +kernel, by decide⟩, List.mem_of_getElem? (i := 1856) (by decide +kernel), List.mem_of_getElem? (i := 124) (by decide +kernel)⟩
abbrev kX10_product : ax_K := (yX10_product, cX10_product, 2, none)
theorem mX10_product : ax_mv kX10_product 0 := ⟨⟨wd_177, List.mem_of_getElem? (i := 1861) (by decide +kernel), by decide +kernel, by decide +kernel, by decide⟩, List.mem_of_getElem? (i := 1860) (by decide +kernel), List.mem_of_getElem? (i := 125) (by decide +kernel)⟩
abbrev kX10_knownHere : ax_K := (yX10_knownHere, cX10_knownHere, 1, (some .int))
theorem mX10_knownHere : ax_mv kX10_knownHere 0 := ⟨⟨wd_177, List.mem_of_getElem? (i := 1877) (by decide +kernel), by decide +kernel, by decide +kernel, by decide⟩, List.mem_of_getElem? (i := 1876) (by decide +kernel), List.mem_of_getElem? (i := 129) (by decide +kernel)⟩
abbrev kX10_one : ax_K := (yX10_one, cX10_one, 3, none)
theorem mX10_one : ax_mv kX10_one 0 := ⟨⟨wd_177, List.mem_of_getElem? (i := 1865) (by decide +kernel), by decide +kernel, by decide +kernel, by decide⟩, List.mem_of_getElem? (i := 1864) (by decide +kernel), List.mem_of_getElem? (i := 126) (by decide +kernel)⟩
abbrev kX10_reads : ax_K := (yX10_reads, cX10_reads, 3, (some .int))
theorem mX10_reads : ax_mv kX10_reads 2 := ⟨⟨wd_177, List.mem_of_getElem? (i := 1853) (by decide +kernel), by decide +kernel, by decide +kernel, by decide⟩, List.mem_of_getElem? (i := 1852) (by decide +kernel), List.mem_of_getElem? (i := 123) (by decide +kernel)⟩
abbrev kX10_law : ax_K := (yX10_law, cX10_law, 2, (some .int))
theorem mX10_law : ax_mv kX10_law 1 := ⟨⟨wd_177, List.mem_of_getElem? (i := 1849) (by decide +kernel), by decide +kernel, by decide +kernel, by decide⟩, List.mem_of_getElem? (i := 1847) (by decide +kernel), List.mem_of_getElem? (i := 1848) (by decide +kernel)⟩
abbrev kX10_rule : ax_K := (yX10_rule, cX10_rule, 3, (some .int))
theorem mX10_rule : ax_mv kX10_rule 2 := ⟨⟨wd_177, List.mem_of_getElem? (i := 1889) (by decide +kernel), by decide +kernel, by decide +kernel, by decide⟩, List.mem_of_getElem? (i := 1887) (by decide +kernel), List.mem_of_getElem? (i := 1888) (by decide +kernel)⟩
abbrev kX10_by : ax_K := (yX10_by, cX10_by, 3, (some .int))
theorem mX10_by : ax_ms kX10_by 3 := ⟨⟨wd_177, List.mem_of_getElem? (i := 1977) (by decide +kernel), by decide +kernel, by decide +kernel, by decide⟩, List.mem_of_getElem? (i := 1976) (by decide +kernel)⟩
abbrev kX10_worked : ax_K := (yX10_worked, cX10_worked, 7, (some .int))
theorem mX10_worked : ax_mv kX10_worked 1 := ⟨⟨wd_177, List.mem_of_getElem? (i := 1974) (by decide +kernel), by decide +kernel, by decide +kernel, by decide⟩, List.mem_of_getElem? (i := 1973) (by decide +kernel), List.mem_of_getElem? (i := 144) (by decide +kernel)⟩
abbrev kX10_sightBy : ax_K := (yX10_sightBy, cX10_sightBy, 2, (some .int))
theorem mX10_sightBy : ax_mv kX10_sightBy 0 := ⟨⟨wd_177, List.mem_of_getElem? (i := 1989) (by decide +kernel), by decide +kernel, by decide +kernel, by decide⟩, List.mem_of_getElem? (i := 1988) (by decide +kernel), List.mem_of_getElem? (i := 147) (by decide +kernel)⟩
abbrev kX10_beamsBy : ax_K := (yX10_beamsBy, cX10_beamsBy, 3, (some .int))
theorem mX10_beamsBy : ax_mv kX10_beamsBy 1 := ⟨⟨wd_177, List.mem_of_getElem? (i := 1970) (by decide +kernel), by decide +kernel, by decide +kernel, by decide⟩, List.mem_of_getElem? (i := 1969) (by decide +kernel), List.mem_of_getElem? (i := 143) (by decide +kernel)⟩
abbrev kX10_book : ax_K := (yX10_book, cX10_book, 6, (some .int))
theorem mX10_book : ax_mv kX10_book 1 := ⟨⟨wd_177, List.mem_of_getElem? (i := 1893) (by decide +kernel), by decide +kernel, by decide +kernel, by decide⟩, List.mem_of_getElem? (i := 1891) (by decide +kernel), List.mem_of_getElem? (i := 1892) (by decide +kernel)⟩
abbrev kX10_fault : ax_K := (yX10_fault, cX10_fault, 1, (some .int))
theorem mX10_fault : ax_mv kX10_fault 0 := ⟨⟨wd_177, List.mem_of_getElem? (i := 1897) (by decide +kernel), by decide +kernel, by decide +kernel, by decide⟩, List.mem_of_getElem? (i := 1895) (by decide +kernel), List.mem_of_getElem? (i := 1896) (by decide +kernel)⟩
abbrev kX10_paceOf : ax_K := (yX10_paceOf, cX10_paceOf, 2, (some .int))
theorem mX10_paceOf : ax_mv kX10_paceOf 1 := ⟨⟨wd_177, List.mem_of_getElem? (i := 1927) (by decide +kernel), by decide +kernel, by decide +kernel, by decide⟩, List.mem_of_getElem? (i := 1926) (by decide +kernel), List.mem_of_getElem? (i := 135) (by decide +kernel)⟩
abbrev kX10_tiltOf : ax_K := (yX10_tiltOf, cX10_tiltOf, 2, (some .int))
theorem mX10_tiltOf : ax_mv kX10_tiltOf 1 := ⟨⟨wd_177, List.mem_of_getElem? (i := 1931) (by decide +kernel), by decide +kernel, by decide +kernel, by decide⟩, List.mem_of_getElem? (i := 1930) (by decide +kernel), List.mem_of_getElem? (i := 136) (by decide +kernel)⟩
abbrev kX10_isWet : ax_K := (yX10_isWet, cX10_isWet, 3, (some .boolean))
theorem mX10_isWet : ax_mv kX10_isWet 1 := ⟨⟨wd_177, List.mem_of_getElem? (i := 1915) (by decide +kernel), by decide +kernel, by decide +kernel, by decide⟩, List.mem_of_getElem? (i := 1914) (by decide +kernel), List.mem_of_getElem? (i := 133) (by decide +kernel)⟩
abbrev kX10_isBendBetween : ax_K := (yX10_isBendBetween, cX10_isBendBetween, 4, (some .boolean))
theorem mX10_isBendBetween : ax_mv kX10_isBendBetween 2 := ⟨⟨wd_177, List.mem_of_getElem? (i := 1905) (by decide +kernel), by decide +kernel, by decide +kernel, by decide⟩, List.mem_of_getElem? (i := 1904) (by decide +kernel), List.mem_of_getElem? (i := 132) (by decide +kernel)⟩
abbrev kX10_isOn : ax_K := (yX10_isOn, cX10_isOn, 2, (some .boolean))
theorem mX10_isOn : ax_mv kX10_isOn 1 := ⟨⟨wd_177, List.mem_of_getElem? (i := 1955) (by decide +kernel), by decide +kernel, by decide +kernel, by decide⟩, List.mem_of_getElem? (i := 1954) (by decide +kernel), List.mem_of_getElem? (i := 140) (by decide +kernel)⟩
abbrev kX10_stopOf : ax_K := (yX10_stopOf, cX10_stopOf, 3, (some .int))
theorem mX10_stopOf : ax_mv kX10_stopOf 2 := ⟨⟨wd_177, List.mem_of_getElem? (i := 1993) (by decide +kernel), by decide +kernel, by decide +kernel, by decide⟩, List.mem_of_getElem? (i := 1992) (by decide +kernel), List.mem_of_getElem? (i := 148) (by decide +kernel)⟩
abbrev kX10_blindsFor : ax_K := (yX10_blindsFor, cX10_blindsFor, 2, (some .int))
theorem mX10_blindsFor : ax_mv kX10_blindsFor 1 := ⟨⟨wd_177, List.mem_of_getElem? (i := 1981) (by decide +kernel), by decide +kernel, by decide +kernel, by decide⟩, List.mem_of_getElem? (i := 1980) (by decide +kernel), List.mem_of_getElem? (i := 145) (by decide +kernel)⟩
abbrev kX10_knows : ax_K := (yX10_knows, cX10_knows, 7, none)
theorem mX10_knows : ax_mv kX10_knows 6 := ⟨⟨wd_177, List.mem_of_getElem? (i := 1963) (by decide +kernel), by decide +kernel, by decide +kernel, by decide⟩, List.mem_of_getElem? (i := 1962) (by decide +kernel), List.mem_of_getElem? (i := 142) (by decide +kernel)⟩
abbrev kX10_meets : ax_K := (yX10_meets, cX10_meets, 5, none)
theorem mX10_meets : ax_mv kX10_meets 2 := ⟨⟨wd_177, List.mem_of_getElem? (i := 1951) (by decide +kernel), by decide +kernel, by decide +kernel, by decide⟩, List.mem_of_getElem? (i := 1950) (by decide +kernel), List.mem_of_getElem? (i := 139) (by decide +kernel)⟩
abbrev kX10_goesTenth : ax_K := (yX10_goesTenth, cX10_goesTenth, 7, none)
theorem mX10_goesTenth : ax_mv kX10_goesTenth 2 := ⟨⟨wd_177, List.mem_of_getElem? (i := 1959) (by decide +kernel), by decide +kernel, by decide +kernel, by decide⟩, List.mem_of_getElem? (i := 1958) (by decide +kernel), List.mem_of_getElem? (i := 141) (by decide +kernel)⟩
abbrev kX10_looksOut : ax_K := (yX10_looksOut, cX10_looksOut, 13, none)
theorem mX10_looksOut : ax_mv kX10_looksOut 4 := ⟨⟨wd_177, List.mem_of_getElem? (i := 1985) (by decide +kernel), by decide +kernel, by decide +kernel, by decide⟩, List.mem_of_getElem? (i := 1984) (by decide +kernel), List.mem_of_getElem? (i := 146) (by decide +kernel)⟩
abbrev kX10_leaves : ax_K := (yX10_leaves, cX10_leaves, 2, none)
theorem mX10_leaves : ax_mv kX10_leaves 0 := ⟨⟨wd_177, List.mem_of_getElem? (i := 1997) (by decide +kernel), by decide +kernel, by decide +kernel, by decide⟩, List.mem_of_getElem? (i := 1996) (by decide +kernel), List.mem_of_getElem? (i := 149) (by decide +kernel)⟩
abbrev kX10_asTold : ax_K := (yX10_asTold, cX10_asTold, 1, none)
theorem mX10_asTold : ax_mv kX10_asTold 0 := ⟨⟨wd_177, List.mem_of_getElem? (i := 1947) (by decide +kernel), by decide +kernel, by decide +kernel, by decide⟩, List.mem_of_getElem? (i := 1946) (by decide +kernel), List.mem_of_getElem? (i := 138) (by decide +kernel)⟩
abbrev kX10_ones : ax_K := (yX10_ones, cX10_ones, 3, (some .int))
theorem mX10_ones : ax_ms kX10_ones 1 := ⟨⟨wd_177, List.mem_of_getElem? (i := 2044) (by decide +kernel), by decide +kernel, by decide +kernel, by decide⟩, List.mem_of_getElem? (i := 2043) (by decide +kernel)⟩
abbrev kX10_unsafeOf : ax_K := (yX10_unsafeOf, cX10_unsafeOf, 4, (some .int))
theorem mX10_unsafeOf : ax_mv kX10_unsafeOf 1 := ⟨⟨wd_177, List.mem_of_getElem? (i := 2021) (by decide +kernel), by decide +kernel, by decide +kernel, by decide⟩, List.mem_of_getElem? (i := 2020) (by decide +kernel), List.mem_of_getElem? (i := 150) (by decide +kernel)⟩
abbrev kX10_costOf : ax_K := (yX10_costOf, cX10_costOf, 2, (some .int))
theorem mX10_costOf : ax_mv kX10_costOf 1 := ⟨⟨wd_177, List.mem_of_getElem? (i := 2041) (by decide +kernel), by decide +kernel, by decide +kernel, by decide⟩, List.mem_of_getElem? (i := 2040) (by decide +kernel), List.mem_of_getElem? (i := 153) (by decide +kernel)⟩
abbrev kX10_told : ax_K := (yX10_told, cX10_told, 4, (some .int))
theorem mX10_told : ax_mv kX10_told 1 := ⟨⟨wd_177, List.mem_of_getElem? (i := 1901) (by decide +kernel), by decide +kernel, by decide +kernel, by decide⟩, List.mem_of_getElem? (i := 1899) (by decide +kernel), List.mem_of_getElem? (i := 1900) (by decide +kernel)⟩
abbrev kX10_isCar : ax_K := (yX10_isCar, cX10_isCar, 2, (some .boolean))
theorem mX10_isCar : ax_mv kX10_isCar 1 := ⟨⟨wd_177, List.mem_of_getElem? (i := 1923) (by decide +kernel), by decide +kernel, by decide +kernel, by decide⟩, List.mem_of_getElem? (i := 1922) (by decide +kernel), List.mem_of_getElem? (i := 134) (by decide +kernel)⟩
abbrev kX10_isCoat : ax_K := (yX10_isCoat, cX10_isCoat, 2, (some .boolean))
theorem mX10_isCoat : ax_mv kX10_isCoat 1 := ⟨⟨wd_177, List.mem_of_getElem? (i := 1939) (by decide +kernel), by decide +kernel, by decide +kernel, by decide⟩, List.mem_of_getElem? (i := 1938) (by decide +kernel), List.mem_of_getElem? (i := 137) (by decide +kernel)⟩
abbrev kX10_car : ax_K := (yX10_car, cX10_car, 3, (some .int))
theorem mX10_car : ax_mv kX10_car 2 := ⟨⟨wd_177, List.mem_of_getElem? (i := 1919) (by decide +kernel), by decide +kernel, by decide +kernel, by decide⟩, List.mem_of_getElem? (i := 1917) (by decide +kernel), List.mem_of_getElem? (i := 1918) (by decide +kernel)⟩
abbrev kX10_coat : ax_K := (yX10_coat, cX10_coat, 3, (some .int))
theorem mX10_coat : ax_mv kX10_coat 2 := ⟨⟨wd_177, List.mem_of_getElem? (i := 1935) (by decide +kernel), by decide +kernel, by decide +kernel, by decide⟩, List.mem_of_getElem? (i := 1933) (by decide +kernel), List.mem_of_getElem? (i := 1934) (by decide +kernel)⟩
abbrev kX10_tenths : ax_K := (yX10_tenths, cX10_tenths, 1, (some .int))
theorem mX10_tenths : ax_mv kX10_tenths 0 := ⟨⟨wd_177, List.mem_of_getElem? (i := 1943) (by decide +kernel), by decide +kernel, by decide +kernel, by decide⟩, List.mem_of_getElem? (i := 1941) (by decide +kernel), List.mem_of_getElem? (i := 1942) (by decide +kernel)⟩
abbrev kX10_at : ax_K := (yX10_at, cX10_at, 4, (some .int))
theorem mX10_at : ax_mv kX10_at 3 := ⟨⟨wd_177, List.mem_of_getElem? (i := 2001) (by decide +kernel), by decide +kernel, by decide +kernel, by decide⟩, List.mem_of_getElem? (i := 1999) (by decide +kernel), List.mem_of_getElem? (i := 2000) (by decide +kernel)⟩
abbrev kX10_passes : ax_K := (yX10_passes, cX10_passes, 1, (some .int))
theorem mX10_passes : ax_mv kX10_passes 0 := ⟨⟨wd_177, List.mem_of_getElem? (i := 2005) (by decide +kernel), by decide +kernel, by decide +kernel, by decide⟩, List.mem_of_getElem? (i := 2003) (by decide +kernel), List.mem_of_getElem? (i := 2004) (by decide +kernel)⟩
abbrev kX10_hits : ax_K := (yX10_hits, cX10_hits, 2, (some .int))
theorem mX10_hits : ax_mv kX10_hits 1 := ⟨⟨wd_177, List.mem_of_getElem? (i := 2009) (by decide +kernel), by decide +kernel, by decide +kernel, by decide⟩, List.mem_of_getElem? (i := 2007) (by decide +kernel), List.mem_of_getElem? (i := 2008) (by decide +kernel)⟩
abbrev kX10_sees : ax_K := (yX10_sees, cX10_sees, 3, (some .int))
theorem mX10_sees : ax_mv kX10_sees 2 := ⟨⟨wd_177, List.mem_of_getElem? (i := 2013) (by decide +kernel), by decide +kernel, by decide +kernel, by decide⟩, List.mem_of_getElem? (i := 2011) (by decide +kernel), List.mem_of_getElem? (i := 2012) (by decide +kernel)⟩
abbrev kX10_sums : ax_K := (yX10_sums, cX10_sums, 10, (some .int))
theorem mX10_sums : ax_mv kX10_sums 2 := ⟨⟨wd_177, List.mem_of_getElem? (i := 2017) (by decide +kernel), by decide +kernel, by decide +kernel, by decide⟩, List.mem_of_getElem? (i := 2015) (by decide +kernel), List.mem_of_getElem? (i := 2016) (by decide +kernel)⟩
abbrev kX10_would : ax_K := (yX10_would, cX10_would, 6, (some .int))
theorem mX10_would : ax_mv kX10_would 4 := ⟨⟨wd_177, List.mem_of_getElem? (i := 2025) (by decide +kernel), by decide +kernel, by decide +kernel, by decide⟩, List.mem_of_getElem? (i := 2023) (by decide +kernel), List.mem_of_getElem? (i := 2024) (by decide +kernel)⟩
abbrev kX10_notTwo : ax_K := (yX10_notTwo, cX10_notTwo, 2, (some .boolean))
theorem mX10_notTwo : ax_mv kX10_notTwo 1 := ⟨⟨wd_177, List.mem_of_getElem? (i := 2033) (by decide +kernel), by decide +kernel, by decide +kernel, by decide⟩, List.mem_of_getElem? (i := 2032) (by decide +kernel), List.mem_of_getElem? (i := 151) (by decide +kernel)⟩
abbrev kX10_costBy : ax_K := (yX10_costBy, cX10_costBy, 4, (some .int))
theorem mX10_costBy : ax_mv kX10_costBy 3 := ⟨⟨wd_177, List.mem_of_getElem? (i := 2037) (by decide +kernel), by decide +kernel, by decide +kernel, by decide⟩, List.mem_of_getElem? (i := 2036) (by decide +kernel), List.mem_of_getElem? (i := 152) (by decide +kernel)⟩
abbrev kX10_cost : ax_K := (yX10_cost, cX10_cost, 4, (some .int))
theorem mX10_cost : ax_mv kX10_cost 3 := ⟨⟨wd_177, List.mem_of_getElem? (i := 2029) (by decide +kernel), by decide +kernel, by decide +kernel, by decide⟩, List.mem_of_getElem? (i := 2027) (by decide +kernel), List.mem_of_getElem? (i := 2028) (by decide +kernel)⟩
abbrev kX10_isRest : ax_K := (yX10_isRest, cX10_isRest, 5, (some .boolean))
theorem mX10_isRest : ax_mv kX10_isRest 3 := ⟨⟨wd_177, List.mem_of_getElem? (i := 2052) (by decide +kernel), by decide +kernel, by decide +kernel, by decide⟩, List.mem_of_getElem? (i := 2051) (by decide +kernel), List.mem_of_getElem? (i := 154) (by decide +kernel)⟩
abbrev kX10_duel : ax_K := (yX10_duel, cX10_duel, 9, (some .int))
theorem mX10_duel : ax_mv kX10_duel 2 := ⟨⟨wd_177, List.mem_of_getElem? (i := 2048) (by decide +kernel), by decide +kernel, by decide +kernel, by decide⟩, List.mem_of_getElem? (i := 2046) (by decide +kernel), List.mem_of_getElem? (i := 2047) (by decide +kernel)⟩
abbrev kX10_answer : ax_K := (yX10_answer, cX10_answer, 7, (some .int))
theorem mX10_answer : ax_mv kX10_answer 2 := ⟨⟨wd_177, List.mem_of_getElem? (i := 2056) (by decide +kernel), by decide +kernel, by decide +kernel, by decide⟩, List.mem_of_getElem? (i := 2054) (by decide +kernel), List.mem_of_getElem? (i := 2055) (by decide +kernel)⟩
abbrev kX10_habitBehind : ax_K := (yX10_habitBehind, cX10_habitBehind, 4, (some .int))
theorem mX10_habitBehind : ax_mv kX10_habitBehind 1 := ⟨⟨wd_177, List.mem_of_getElem? (i := 2064) (by decide +kernel), by decide +kernel, by decide +kernel, by decide⟩, List.mem_of_getElem? (i := 2063) (by decide +kernel), List.mem_of_getElem? (i := 155) (by decide +kernel)⟩
abbrev kX10_habit : ax_K := (yX10_habit, cX10_habit, 9, (some .int))
theorem mX10_habit : ax_mv kX10_habit 2 := ⟨⟨wd_177, List.mem_of_getElem? (i := 2060) (by decide +kernel), by decide +kernel, by decide +kernel, by decide⟩, List.mem_of_getElem? (i := 2058) (by decide +kernel), List.mem_of_getElem? (i := 2059) (by decide +kernel)⟩
abbrev kX10_safe : ax_K := (yX10_safe, cX10_safe, 6, (some .int))
theorem mX10_safe : ax_mv kX10_safe 2 := ⟨⟨wd_177, List.mem_of_getElem? (i := 2068) (by decide +kernel), by decide +kernel, by decide +kernel, by decide⟩, List.mem_of_getElem? (i := 2066) (by decide +kernel), List.mem_of_getElem? (i := 2067) (by decide +kernel)⟩
abbrev kX10_power : ax_K := (yX10_power, cX10_power, 6, (some .long))
theorem mX10_power : ax_ms kX10_power 2 := ⟨⟨wd_177, List.mem_of_getElem? (i := 2076) (by decide +kernel), by decide +kernel, by decide +kernel, by decide⟩, List.mem_of_getElem? (i := 2075) (by decide +kernel)⟩
abbrev kX10_loaded : ax_K := (yX10_loaded, cX10_loaded, 15, (some .long))
theorem mX10_loaded : ax_mv kX10_loaded 4 := ⟨⟨wd_177, List.mem_of_getElem? (i := 2072) (by decide +kernel), by decide +kernel, by decide +kernel, by decide⟩, List.mem_of_getElem? (i := 2070) (by decide +kernel), List.mem_of_getElem? (i := 2071) (by decide +kernel)⟩
abbrev kX10_blinds : ax_K := (yX10_blinds, cX10_blinds, 2, (some .int))
theorem mX10_blinds : ax_mv kX10_blinds 1 := ⟨⟨wd_177, List.mem_of_getElem? (i := 2083) (by decide +kernel), by decide +kernel, by decide +kernel, by decide⟩, List.mem_of_getElem? (i := 2081) (by decide +kernel), List.mem_of_getElem? (i := 2082) (by decide +kernel)⟩
abbrev kX10_old : ax_K := (yX10_old, cX10_old, 3, (some .int))
theorem mX10_old : ax_mv kX10_old 1 := ⟨⟨wd_177, List.mem_of_getElem? (i := 2087) (by decide +kernel), by decide +kernel, by decide +kernel, by decide⟩, List.mem_of_getElem? (i := 2085) (by decide +kernel), List.mem_of_getElem? (i := 2086) (by decide +kernel)⟩
abbrev kX10_between : ax_K := (yX10_between, cX10_between, 3, (some .boolean))
theorem mX10_between : ax_mv kX10_between 2 := ⟨⟨wd_177, List.mem_of_getElem? (i := 2091) (by decide +kernel), by decide +kernel, by decide +kernel, by decide⟩, List.mem_of_getElem? (i := 2089) (by decide +kernel), List.mem_of_getElem? (i := 2090) (by decide +kernel)⟩
abbrev kX10_getsBy : ax_K := (yX10_getsBy, cX10_getsBy, 3, (some .int))
theorem mX10_getsBy : ax_ms kX10_getsBy 2 := ⟨⟨wd_177, List.mem_of_getElem? (i := 2098) (by decide +kernel), by decide +kernel, by decide +kernel, by decide⟩, List.mem_of_getElem? (i := 2097) (by decide +kernel)⟩
abbrev kX10_gets : ax_K := (yX10_gets, cX10_gets, 3, (some .int))
theorem mX10_gets : ax_mv kX10_gets 2 := ⟨⟨wd_177, List.mem_of_getElem? (i := 2095) (by decide +kernel), by decide +kernel, by decide +kernel, by decide⟩, List.mem_of_getElem? (i := 2093) (by decide +kernel), List.mem_of_getElem? (i := 2094) (by decide +kernel)⟩
abbrev kX10_isBright : ax_K := (yX10_isBright, cX10_isBright, 4, (some .boolean))
theorem mX10_isBright : ax_ms kX10_isBright 3 := ⟨⟨wd_177, List.mem_of_getElem? (i := 2105) (by decide +kernel), by decide +kernel, by decide +kernel, by decide⟩, List.mem_of_getElem? (i := 2104) (by decide +kernel)⟩
abbrev kX10_bulbs : ax_K := (yX10_bulbs, cX10_bulbs, 7, (some .int))
theorem mX10_bulbs : ax_mv kX10_bulbs 2 := ⟨⟨wd_177, List.mem_of_getElem? (i := 2102) (by decide +kernel), by decide +kernel, by decide +kernel, by decide⟩, List.mem_of_getElem? (i := 2100) (by decide +kernel), List.mem_of_getElem? (i := 2101) (by decide +kernel)⟩
abbrev kX10_isLine : ax_K := (yX10_isLine, cX10_isLine, 3, (some .boolean))
theorem mX10_isLine : ax_mv kX10_isLine 1 := ⟨⟨wd_177, List.mem_of_getElem? (i := 2121) (by decide +kernel), by decide +kernel, by decide +kernel, by decide⟩, List.mem_of_getElem? (i := 2120) (by decide +kernel), List.mem_of_getElem? (i := 158) (by decide +kernel)⟩
abbrev kX10_rightLines : ax_K := (yX10_rightLines, cX10_rightLines, 2, (some .int))
theorem mX10_rightLines : ax_mv kX10_rightLines 0 := ⟨⟨wd_177, List.mem_of_getElem? (i := 2117) (by decide +kernel), by decide +kernel, by decide +kernel, by decide⟩, List.mem_of_getElem? (i := 2116) (by decide +kernel), List.mem_of_getElem? (i := 157) (by decide +kernel)⟩
abbrev kX10_distancesNow : ax_K := (yX10_distancesNow, cX10_distancesNow, 4, (some .long))
theorem mX10_distancesNow : ax_mv kX10_distancesNow 0 := ⟨⟨wd_177, List.mem_of_getElem? (i := 2113) (by decide +kernel), by decide +kernel, by decide +kernel, by decide⟩, List.mem_of_getElem? (i := 2112) (by decide +kernel), List.mem_of_getElem? (i := 156) (by decide +kernel)⟩
abbrev kX10_distances : ax_K := (yX10_distances, cX10_distances, 1, (some .long))
theorem mX10_distances : ax_mv kX10_distances 0 := ⟨⟨wd_177, List.mem_of_getElem? (i := 2109) (by decide +kernel), by decide +kernel, by decide +kernel, by decide⟩, List.mem_of_getElem? (i := 2107) (by decide +kernel), List.mem_of_getElem? (i := 2108) (by decide +kernel)⟩
abbrev kX10_isInBook : ax_K := (yX10_isInBook, cX10_isInBook, 3, (some .boolean))
theorem mX10_isInBook : ax_mv kX10_isInBook 1 := ⟨⟨wd_177, List.mem_of_getElem? (i := 2129) (by decide +kernel), by decide +kernel, by decide +kernel, by decide⟩, List.mem_of_getElem? (i := 2128) (by decide +kernel), List.mem_of_getElem? (i := 159) (by decide +kernel)⟩
abbrev kX10_look : ax_K := (yX10_look, cX10_look, 9, (some .int))
theorem mX10_look : ax_mv kX10_look 1 := ⟨⟨wd_177, List.mem_of_getElem? (i := 2125) (by decide +kernel), by decide +kernel, by decide +kernel, by decide⟩, List.mem_of_getElem? (i := 2123) (by decide +kernel), List.mem_of_getElem? (i := 2124) (by decide +kernel)⟩
abbrev kX10_right : ax_K := (yX10_right, cX10_right, 1, (some .int))
theorem mX10_right : ax_mv kX10_right 0 := ⟨⟨wd_177, List.mem_of_getElem? (i := 2133) (by decide +kernel), by decide +kernel, by decide +kernel, by decide⟩, List.mem_of_getElem? (i := 2131) (by decide +kernel), List.mem_of_getElem? (i := 2132) (by decide +kernel)⟩
abbrev kX10_puts : ax_K := (yX10_puts, cX10_puts, 1, none)
theorem mX10_puts : ax_mv kX10_puts 0 := ⟨⟨wd_177, List.mem_of_getElem? (i := 2141) (by decide +kernel), by decide +kernel, by decide +kernel, by decide⟩, List.mem_of_getElem? (i := 2140) (by decide +kernel), List.mem_of_getElem? (i := 160) (by decide +kernel)⟩
abbrev kX10_putsBack : ax_K := (yX10_putsBack, cX10_putsBack, 1, none)
theorem mX10_putsBack : ax_mv kX10_putsBack 0 := ⟨⟨wd_177, List.mem_of_getElem? (i := 2146) (by decide +kernel), by decide +kernel, by decide +kernel, by decide⟩, List.mem_of_getElem? (i := 2145) (by decide +kernel), List.mem_of_getElem? (i := 161) (by decide +kernel)⟩
abbrev kX10_nights : ax_K := (yX10_nights, cX10_nights, 11, (some .int))
theorem mX10_nights : ax_mv kX10_nights 3 := ⟨⟨wd_177, List.mem_of_getElem? (i := 2137) (by decide +kernel), by decide +kernel, by decide +kernel, by decide⟩, List.mem_of_getElem? (i := 2135) (by decide +kernel), List.mem_of_getElem? (i := 2136) (by decide +kernel)⟩
abbrev kX10_hitAlone : ax_K := (yX10_hitAlone, cX10_hitAlone, 3, (some .int))
theorem mX10_hitAlone : ax_mv kX10_hitAlone 2 := ⟨⟨wd_177, List.mem_of_getElem? (i := 2154) (by decide +kernel), by decide +kernel, by decide +kernel, by decide⟩, List.mem_of_getElem? (i := 2153) (by decide +kernel), List.mem_of_getElem? (i := 162) (by decide +kernel)⟩
abbrev kX10_darkest : ax_K := (yX10_darkest, cX10_darkest, 6, (some .int))
theorem mX10_darkest : ax_mv kX10_darkest 1 := ⟨⟨wd_177, List.mem_of_getElem? (i := 2150) (by decide +kernel), by decide +kernel, by decide +kernel, by decide⟩, List.mem_of_getElem? (i := 2148) (by decide +kernel), List.mem_of_getElem? (i := 2149) (by decide +kernel)⟩
abbrev kX10_dark : ax_K := (yX10_dark, cX10_dark, 5, (some .int))
theorem mX10_dark : ax_mv kX10_dark 2 := ⟨⟨wd_177, List.mem_of_getElem? (i := 2158) (by decide +kernel), by decide +kernel, by decide +kernel, by decide⟩, List.mem_of_getElem? (i := 2156) (by decide +kernel), List.mem_of_getElem? (i := 2157) (by decide +kernel)⟩
abbrev kX10_needs : ax_K := (yX10_needs, cX10_needs, 3, (some .int))
theorem mX10_needs : ax_mv kX10_needs 1 := ⟨⟨wd_177, List.mem_of_getElem? (i := 2162) (by decide +kernel), by decide +kernel, by decide +kernel, by decide⟩, List.mem_of_getElem? (i := 2160) (by decide +kernel), List.mem_of_getElem? (i := 2161) (by decide +kernel)⟩
abbrev kX10_dips : ax_K := (yX10_dips, cX10_dips, 6, (some .int))
theorem mX10_dips : ax_mv kX10_dips 2 := ⟨⟨wd_177, List.mem_of_getElem? (i := 2166) (by decide +kernel), by decide +kernel, by decide +kernel, by decide⟩, List.mem_of_getElem? (i := 2164) (by decide +kernel), List.mem_of_getElem? (i := 2165) (by decide +kernel)⟩
abbrev kX10_gap : ax_K := (yX10_gap, cX10_gap, 7, (some .int))
theorem mX10_gap : ax_mv kX10_gap 2 := ⟨⟨wd_177, List.mem_of_getElem? (i := 2170) (by decide +kernel), by decide +kernel, by decide +kernel, by decide⟩, List.mem_of_getElem? (i := 2168) (by decide +kernel), List.mem_of_getElem? (i := 2169) (by decide +kernel)⟩
abbrev kX10_clear : ax_K := (yX10_clear, cX10_clear, 5, (some .int))
theorem mX10_clear : ax_mv kX10_clear 1 := ⟨⟨wd_177, List.mem_of_getElem? (i := 2174) (by decide +kernel), by decide +kernel, by decide +kernel, by decide⟩, List.mem_of_getElem? (i := 2172) (by decide +kernel), List.mem_of_getElem? (i := 2173) (by decide +kernel)⟩
abbrev kX10_paces : ax_K := (yX10_paces, cX10_paces, 10, (some .int))
theorem mX10_paces : ax_mv kX10_paces 1 := ⟨⟨wd_177, List.mem_of_getElem? (i := 2178) (by decide +kernel), by decide +kernel, by decide +kernel, by decide⟩, List.mem_of_getElem? (i := 2176) (by decide +kernel), List.mem_of_getElem? (i := 2177) (by decide +kernel)⟩
abbrev kX10_finds : ax_K := (yX10_finds, cX10_finds, 5, (some .int))
theorem mX10_finds : ax_mv kX10_finds 2 := ⟨⟨wd_177, List.mem_of_getElem? (i := 2182) (by decide +kernel), by decide +kernel, by decide +kernel, by decide⟩, List.mem_of_getElem? (i := 2180) (by decide +kernel), List.mem_of_getElem? (i := 2181) (by decide +kernel)⟩
abbrev kX10_changed : ax_K := (yX10_changed, cX10_changed, 1, (some .boolean))
theorem mX10_changed : ax_mv kX10_changed 0 := ⟨⟨wd_177, List.mem_of_getElem? (i := 2190) (by decide +kernel), by decide +kernel, by decide +kernel, by decide⟩, List.mem_of_getElem? (i := 2189) (by decide +kernel), List.mem_of_getElem? (i := 163) (by decide +kernel)⟩
abbrev kX10_drives : ax_K := (yX10_drives, cX10_drives, 4, (some .int))
theorem mX10_drives : ax_mv kX10_drives 3 := ⟨⟨wd_177, List.mem_of_getElem? (i := 2186) (by decide +kernel), by decide +kernel, by decide +kernel, by decide⟩, List.mem_of_getElem? (i := 2184) (by decide +kernel), List.mem_of_getElem? (i := 2185) (by decide +kernel)⟩
abbrev kX10_stands : ax_K := (yX10_stands, cX10_stands, 4, (some .int))
theorem mX10_stands : ax_mv kX10_stands 3 := ⟨⟨wd_177, List.mem_of_getElem? (i := 2194) (by decide +kernel), by decide +kernel, by decide +kernel, by decide⟩, List.mem_of_getElem? (i := 2192) (by decide +kernel), List.mem_of_getElem? (i := 2193) (by decide +kernel)⟩
abbrev kX10_weather : ax_K := (yX10_weather, cX10_weather, 3, (some .int))
theorem mX10_weather : ax_mv kX10_weather 2 := ⟨⟨wd_177, List.mem_of_getElem? (i := 2198) (by decide +kernel), by decide +kernel, by decide +kernel, by decide⟩, List.mem_of_getElem? (i := 2196) (by decide +kernel), List.mem_of_getElem? (i := 2197) (by decide +kernel)⟩
abbrev kX10_undo : ax_K := (yX10_undo, cX10_undo, 1, (some .int))
theorem mX10_undo : ax_mv kX10_undo 0 := ⟨⟨wd_177, List.mem_of_getElem? (i := 2202) (by decide +kernel), by decide +kernel, by decide +kernel, by decide⟩, List.mem_of_getElem? (i := 2200) (by decide +kernel), List.mem_of_getElem? (i := 2201) (by decide +kernel)⟩
abbrev kX10_spots : ax_K := (yX10_spots, cX10_spots, 4, (some .int))
theorem mX10_spots : ax_mv kX10_spots 3 := ⟨⟨wd_177, List.mem_of_getElem? (i := 2214) (by decide +kernel), by decide +kernel, by decide +kernel, by decide⟩, List.mem_of_getElem? (i := 2213) (by decide +kernel), List.mem_of_getElem? (i := 165) (by decide +kernel)⟩
abbrev kX10_spotsAll : ax_K := (yX10_spotsAll, cX10_spotsAll, 5, none)
theorem mX10_spotsAll : ax_mv kX10_spotsAll 2 := ⟨⟨wd_177, List.mem_of_getElem? (i := 2210) (by decide +kernel), by decide +kernel, by decide +kernel, by decide⟩, List.mem_of_getElem? (i := 2209) (by decide +kernel), List.mem_of_getElem? (i := 164) (by decide +kernel)⟩
abbrev kX10_image : ax_K := (yX10_image, cX10_image, 1, (some .int))
theorem mX10_image : ax_mv kX10_image 0 := ⟨⟨wd_177, List.mem_of_getElem? (i := 2206) (by decide +kernel), by decide +kernel, by decide +kernel, by decide⟩, List.mem_of_getElem? (i := 2204) (by decide +kernel), List.mem_of_getElem? (i := 2205) (by decide +kernel)⟩
abbrev kX10_restore : ax_K := (yX10_restore, cX10_restore, 1, (some .int))
theorem mX10_restore : ax_mv kX10_restore 0 := ⟨⟨wd_177, List.mem_of_getElem? (i := 2218) (by decide +kernel), by decide +kernel, by decide +kernel, by decide⟩, List.mem_of_getElem? (i := 2216) (by decide +kernel), List.mem_of_getElem? (i := 2217) (by decide +kernel)⟩
abbrev kX10_status : ax_K := (yX10_status, cX10_status, 2, (some .int))
theorem mX10_status : ax_mv kX10_status 1 := ⟨⟨wd_177, List.mem_of_getElem? (i := 2222) (by decide +kernel), by decide +kernel, by decide +kernel, by decide⟩, List.mem_of_getElem? (i := 2220) (by decide +kernel), List.mem_of_getElem? (i := 2221) (by decide +kernel)⟩
abbrev kX10_count : ax_K := (yX10_count, cX10_count, 2, (some .int))
theorem mX10_count : ax_mv kX10_count 1 := ⟨⟨wd_177, List.mem_of_getElem? (i := 2226) (by decide +kernel), by decide +kernel, by decide +kernel, by decide⟩, List.mem_of_getElem? (i := 2224) (by decide +kernel), List.mem_of_getElem? (i := 2225) (by decide +kernel)⟩
abbrev kJ6_bitCount_0f7a4 : ax_K := (yJ6_bitCount_0f7a4, cJ6_bitCount_0f7a4, 1, (some .int))
theorem mJ6_bitCount_0f7a4 : ax_ms kJ6_bitCount_0f7a4 1 := ⟨⟨wd_189, List.mem_of_getElem? (i := 1289) (by decide +kernel), by decide +kernel, by decide +kernel, by decide⟩, List.mem_of_getElem? (i := 1288) (by decide +kernel)⟩
abbrev kL_road : ax_K := (yL_road, cL_road, 4, (some .int))
abbrev kL_law : ax_K := (yL_law, cL_law, 4, (some .int))
abbrev kL_rule : ax_K := (yL_rule, cL_rule, 5, (some .int))
abbrev kL_book : ax_K := (yL_book, cL_book, 4, (some .int))
abbrev kL_told : ax_K := (yL_told, cL_told, 4, (some .int))
abbrev kL_car : ax_K := (yL_car, cL_car, 5, (some .int))
abbrev kL_coat : ax_K := (yL_coat, cL_coat, 5, (some .int))
abbrev kL_at : ax_K := (yL_at, cL_at, 6, (some .int))
abbrev kL_hits : ax_K := (yL_hits, cL_hits, 4, (some .int))
abbrev kL_sees : ax_K := (yL_sees, cL_sees, 5, (some .int))
abbrev kL_sums : ax_K := (yL_sums, cL_sums, 5, (some .int))
abbrev kL_would : ax_K := (yL_would, cL_would, 7, (some .int))
abbrev kL_cost : ax_K := (yL_cost, cL_cost, 6, (some .int))
abbrev kL_duel : ax_K := (yL_duel, cL_duel, 5, (some .int))
abbrev kL_answer : ax_K := (yL_answer, cL_answer, 5, (some .int))
abbrev kL_habit : ax_K := (yL_habit, cL_habit, 5, (some .int))
abbrev kL_safe : ax_K := (yL_safe, cL_safe, 5, (some .int))
abbrev kL_loaded : ax_K := (yL_loaded, cL_loaded, 7, (some .int))
abbrev kL_blinds : ax_K := (yL_blinds, cL_blinds, 4, (some .int))
abbrev kL_old : ax_K := (yL_old, cL_old, 4, (some .int))
abbrev kL_between : ax_K := (yL_between, cL_between, 5, (some .int))
abbrev kL_gets : ax_K := (yL_gets, cL_gets, 5, (some .int))
abbrev kL_bulbs : ax_K := (yL_bulbs, cL_bulbs, 5, (some .int))
abbrev kL_distances : ax_K := (yL_distances, cL_distances, 3, (some .int))
abbrev kL_look : ax_K := (yL_look, cL_look, 4, (some .int))
abbrev kL_right : ax_K := (yL_right, cL_right, 3, (some .int))
abbrev kL_nights : ax_K := (yL_nights, cL_nights, 6, (some .int))
abbrev kL_darkest : ax_K := (yL_darkest, cL_darkest, 4, (some .int))
abbrev kL_dark : ax_K := (yL_dark, cL_dark, 5, (some .int))
abbrev kL_dips : ax_K := (yL_dips, cL_dips, 5, (some .int))
abbrev kL_gap : ax_K := (yL_gap, cL_gap, 5, (some .int))
abbrev kL_needs : ax_K := (yL_needs, cL_needs, 4, (some .int))
abbrev kL_clear : ax_K := (yL_clear, cL_clear, 4, (some .int))
abbrev kL_paces : ax_K := (yL_paces, cL_paces, 4, (some .int))
abbrev kL_finds : ax_K := (yL_finds, cL_finds, 5, (some .int))
abbrev kL_drives : ax_K := (yL_drives, cL_drives, 6, (some .int))
abbrev kL_stands : ax_K := (yL_stands, cL_stands, 6, (some .int))
abbrev kL_weather : ax_K := (yL_weather, cL_weather, 5, (some .int))
