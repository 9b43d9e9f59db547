theorem acl_0 : ax_cls 0 RX0 TX0 3 := ⟨rfl, by decide +kernel, by decide +kernel, nmX0, by decide +kernel⟩
theorem acl_1 : ax_cls 1 RX1 TX1 8 := ⟨rfl, by decide +kernel, by decide +kernel, nmX1, by decide +kernel⟩
theorem acl_2 : ax_cls 2 RX2 TX2 3 := ⟨rfl, by decide +kernel, by decide +kernel, nmX2, by decide +kernel⟩
theorem acl_3 : ax_cls 3 RX3 TX3 2 := ⟨rfl, by decide +kernel, by decide +kernel, nmX3, by decide +kernel⟩
theorem acl_4 : ax_cls 4 RX4 TX4 5 := ⟨rfl, by decide +kernel, by decide +kernel, nmX4, by decide +kernel⟩
theorem acl_5 : ax_cls 5 RX5 TX5 17 := ⟨rfl, by decide +kernel, by decide +kernel, nmX5, by decide +kernel⟩
theorem acl_6 : ax_cls 6 RX6 TX6 9 := ⟨rfl, by decide +kernel, by decide +kernel, nmX6, by decide +kernel⟩
theorem acl_7 : ax_cls 7 RX7 TX7 5 := ⟨rfl, by decide +kernel, by decide +kernel, nmX7, by decide +kernel⟩
theorem acl_8 : ax_cls 8 RX8 TX8 16 := ⟨rfl, by decide +kernel, by decide +kernel, nmX8, by decide +kernel⟩
theorem acl_9 : ax_cls 9 RX9 TX9 15 := ⟨rfl, by decide +kernel, by decide +kernel, nmX9, by decide +kernel⟩
theorem acl_10 : ax_cls 10 RX10 TX10 53 := ⟨rfl, by decide +kernel, by decide +kernel, nmX10, by decide +kernel⟩
theorem wd_obi : Cond.instanceMethod Lib.objectInit ∈ lw_tbl := ax_in1 (List.mem_of_getElem? (i := 31) rfl)
theorem wd_obc : Cond.code Lib.objectInit ⟨#[0xb1]⟩ 1 none ∈ lw_tbl := ax_in1 (List.mem_of_getElem? (i := 32) rfl)
theorem wd_maxs : Cond.static Lib.Math.max.name ∈ lw_tbl := ax_in2 (List.mem_of_getElem? (i := 239) rfl)
theorem wd_maxc : Cond.code Lib.Math.max.name Lib.Math.max.code 2 (some .int) ∈ lw_tbl := ax_in3 (List.mem_of_getElem? (i := 0) rfl)
theorem wd_mins : Cond.static Lib.Math.min.name ∈ lw_tbl := ax_in2 (List.mem_of_getElem? (i := 236) rfl)
theorem wd_minc : Cond.code Lib.Math.min.name Lib.Math.min.code 2 (some .int) ∈ lw_tbl := ax_in2 (List.mem_of_getElem? (i := 237) rfl)
abbrev kX0_init : ax_K := (yX0_init, cX0_init, 1, none)
theorem mX0_init : ax_mi kX0_init 0 := ⟨⟨wd_172, ax_in1 (List.mem_of_getElem? (i := 227) rfl), by decide +kernel, by decide +kernel, by decide⟩, ax_in1 (List.mem_of_getElem? (i := 226) rfl), rfl⟩
abbrev kX0_readFrom : ax_K := (yX0_readFrom, cX0_readFrom, 3, (some .boolean))
theorem mX0_readFrom : ax_mv kX0_readFrom 1 := ⟨⟨wd_172, ax_in4 (List.mem_of_getElem? (i := 214) rfl), by decide +kernel, by decide +kernel, by decide⟩, ax_in4 (List.mem_of_getElem? (i := 213) rfl), ax_ps4 (List.mem_of_getElem? (i := 15) rfl)⟩
abbrev kX0_readLine : ax_K := (yX0_readLine, cX0_readLine, 4, (some .boolean))
theorem mX0_readLine : ax_mv kX0_readLine 1 := ⟨⟨wd_172, ax_in4 (List.mem_of_getElem? (i := 218) rfl), by decide +kernel, by decide +kernel, by decide⟩, ax_in4 (List.mem_of_getElem? (i := 217) rfl), ax_ps5 (List.mem_of_getElem? (i := 0) rfl)⟩
abbrev kX0_tells : ax_K := (yX0_tells, cX0_tells, 3, (some .boolean))
theorem mX0_tells : ax_mv kX0_tells 1 := ⟨⟨wd_172, ax_in4 (List.mem_of_getElem? (i := 223) rfl), by decide +kernel, by decide +kernel, by decide⟩, ax_in4 (List.mem_of_getElem? (i := 222) rfl), ax_ps5 (List.mem_of_getElem? (i := 1) rfl)⟩
abbrev kX1_init : ax_K := (yX1_init, cX1_init, 1, none)
theorem mX1_init : ax_mi kX1_init 0 := ⟨⟨wd_176, ax_in2 (List.mem_of_getElem? (i := 110) rfl), by decide +kernel, by decide +kernel, by decide⟩, ax_in2 (List.mem_of_getElem? (i := 109) rfl), rfl⟩
abbrev kX1_forgetAll : ax_K := (yX1_forgetAll, cX1_forgetAll, 1, none)
theorem mX1_forgetAll : ax_mv kX1_forgetAll 0 := ⟨⟨wd_176, ax_in4 (List.mem_of_getElem? (i := 118) rfl), by decide +kernel, by decide +kernel, by decide⟩, ax_in4 (List.mem_of_getElem? (i := 117) rfl), ax_ps4 (List.mem_of_getElem? (i := 7) rfl)⟩
abbrev kX1_make : ax_K := (yX1_make, cX1_make, 6, (some .boolean))
theorem mX1_make : ax_mv kX1_make 5 := ⟨⟨wd_176, ax_in6 (List.mem_of_getElem? (i := 193) rfl), by decide +kernel, by decide +kernel, by decide⟩, ax_in6 (List.mem_of_getElem? (i := 192) rfl), ax_ps7 (List.mem_of_getElem? (i := 9) rfl)⟩
abbrev kX1_takeBack : ax_K := (yX1_takeBack, cX1_takeBack, 2, (some .boolean))
theorem mX1_takeBack : ax_mv kX1_takeBack 1 := ⟨⟨wd_176, ax_in3 (List.mem_of_getElem? (i := 91) rfl), by decide +kernel, by decide +kernel, by decide⟩, ax_in3 (List.mem_of_getElem? (i := 90) rfl), ax_ps2 (List.mem_of_getElem? (i := 14) rfl)⟩
abbrev kX1_firstOf : ax_K := (yX1_firstOf, cX1_firstOf, 3, (some .int))
theorem mX1_firstOf : ax_ms kX1_firstOf 3 := ⟨⟨wd_176, ax_in6 (List.mem_of_getElem? (i := 196) rfl), by decide +kernel, by decide +kernel, by decide⟩, ax_in6 (List.mem_of_getElem? (i := 195) rfl)⟩
abbrev kX1_secondOf : ax_K := (yX1_secondOf, cX1_secondOf, 3, (some .int))
theorem mX1_secondOf : ax_ms kX1_secondOf 3 := ⟨⟨wd_176, ax_in6 (List.mem_of_getElem? (i := 199) rfl), by decide +kernel, by decide +kernel, by decide⟩, ax_in6 (List.mem_of_getElem? (i := 198) rfl)⟩
abbrev kX1_put : ax_K := (yX1_put, cX1_put, 5, none)
theorem mX1_put : ax_ms kX1_put 5 := ⟨⟨wd_176, ax_in3 (List.mem_of_getElem? (i := 94) rfl), by decide +kernel, by decide +kernel, by decide⟩, ax_in3 (List.mem_of_getElem? (i := 93) rfl)⟩
abbrev kX1_keepImage : ax_K := (yX1_keepImage, cX1_keepImage, 4, (some .boolean))
theorem mX1_keepImage : ax_mv kX1_keepImage 1 := ⟨⟨wd_176, ax_in3 (List.mem_of_getElem? (i := 106) rfl), by decide +kernel, by decide +kernel, by decide⟩, ax_in3 (List.mem_of_getElem? (i := 105) rfl), ax_ps3 (List.mem_of_getElem? (i := 0) rfl)⟩
abbrev kX1_bringBack : ax_K := (yX1_bringBack, cX1_bringBack, 4, (some .boolean))
theorem mX1_bringBack : ax_mv kX1_bringBack 1 := ⟨⟨wd_176, ax_in3 (List.mem_of_getElem? (i := 120) rfl), by decide +kernel, by decide +kernel, by decide⟩, ax_in3 (List.mem_of_getElem? (i := 119) rfl), ax_ps3 (List.mem_of_getElem? (i := 1) rfl)⟩
abbrev kX1_copyTo : ax_K := (yX1_copyTo, cX1_copyTo, 3, (some .int))
theorem mX1_copyTo : ax_ms kX1_copyTo 3 := ⟨⟨wd_176, ax_in3 (List.mem_of_getElem? (i := 109) rfl), by decide +kernel, by decide +kernel, by decide⟩, ax_in3 (List.mem_of_getElem? (i := 108) rfl)⟩
abbrev kX1_copyFrom : ax_K := (yX1_copyFrom, cX1_copyFrom, 3, (some .int))
theorem mX1_copyFrom : ax_ms kX1_copyFrom 3 := ⟨⟨wd_176, ax_in3 (List.mem_of_getElem? (i := 123) rfl), by decide +kernel, by decide +kernel, by decide⟩, ax_in3 (List.mem_of_getElem? (i := 122) rfl)⟩
abbrev kX2_init : ax_K := (yX2_init, cX2_init, 1, none)
theorem mX2_init : ax_mi kX2_init 0 := ⟨⟨wd_171, ax_in1 (List.mem_of_getElem? (i := 171) rfl), by decide +kernel, by decide +kernel, by decide⟩, ax_in1 (List.mem_of_getElem? (i := 170) rfl), rfl⟩
abbrev kX2_add : ax_K := (yX2_add, cX2_add, 2, none)
theorem mX2_add : ax_mv kX2_add 1 := ⟨⟨wd_171, ax_in1 (List.mem_of_getElem? (i := 194) rfl), by decide +kernel, by decide +kernel, by decide⟩, ax_in1 (List.mem_of_getElem? (i := 193) rfl), ax_ps1 (List.mem_of_getElem? (i := 2) rfl)⟩
abbrev kX2_becomeUsualLaw : ax_K := (yX2_becomeUsualLaw, cX2_becomeUsualLaw, 1, none)
theorem mX2_becomeUsualLaw : ax_mv kX2_becomeUsualLaw 0 := ⟨⟨wd_171, ax_in1 (List.mem_of_getElem? (i := 190) rfl), by decide +kernel, by decide +kernel, by decide⟩, ax_in1 (List.mem_of_getElem? (i := 189) rfl), ax_ps1 (List.mem_of_getElem? (i := 1) rfl)⟩
abbrev kX2_becomeUsualRule : ax_K := (yX2_becomeUsualRule, cX2_becomeUsualRule, 1, none)
theorem mX2_becomeUsualRule : ax_mv kX2_becomeUsualRule 0 := ⟨⟨wd_171, ax_in1 (List.mem_of_getElem? (i := 198) rfl), by decide +kernel, by decide +kernel, by decide⟩, ax_in1 (List.mem_of_getElem? (i := 197) rfl), ax_ps1 (List.mem_of_getElem? (i := 3) rfl)⟩
abbrev kX2_readFrom : ax_K := (yX2_readFrom, cX2_readFrom, 2, (some .boolean))
theorem mX2_readFrom : ax_mv kX2_readFrom 1 := ⟨⟨wd_171, ax_in4 (List.mem_of_getElem? (i := 129) rfl), by decide +kernel, by decide +kernel, by decide⟩, ax_in4 (List.mem_of_getElem? (i := 128) rfl), ax_ps4 (List.mem_of_getElem? (i := 8) rfl)⟩
abbrev kX2_readSum : ax_K := (yX2_readSum, cX2_readSum, 5, (some .boolean))
theorem mX2_readSum : ax_mv kX2_readSum 2 := ⟨⟨wd_171, ax_in4 (List.mem_of_getElem? (i := 133) rfl), by decide +kernel, by decide +kernel, by decide⟩, ax_in4 (List.mem_of_getElem? (i := 132) rfl), ax_ps4 (List.mem_of_getElem? (i := 9) rfl)⟩
abbrev kX2_readProduct : ax_K := (yX2_readProduct, cX2_readProduct, 5, (some .boolean))
theorem mX2_readProduct : ax_mv kX2_readProduct 2 := ⟨⟨wd_171, ax_in4 (List.mem_of_getElem? (i := 137) rfl), by decide +kernel, by decide +kernel, by decide⟩, ax_in4 (List.mem_of_getElem? (i := 136) rfl), ax_ps4 (List.mem_of_getElem? (i := 10) rfl)⟩
abbrev kX2_readUnit : ax_K := (yX2_readUnit, cX2_readUnit, 7, (some .boolean))
theorem mX2_readUnit : ax_mv kX2_readUnit 2 := ⟨⟨wd_171, ax_in4 (List.mem_of_getElem? (i := 141) rfl), by decide +kernel, by decide +kernel, by decide⟩, ax_in4 (List.mem_of_getElem? (i := 140) rfl), ax_ps4 (List.mem_of_getElem? (i := 11) rfl)⟩
abbrev kX2_readPair : ax_K := (yX2_readPair, cX2_readPair, 4, (some .boolean))
theorem mX2_readPair : ax_mv kX2_readPair 3 := ⟨⟨wd_171, ax_in4 (List.mem_of_getElem? (i := 171) rfl), by decide +kernel, by decide +kernel, by decide⟩, ax_in4 (List.mem_of_getElem? (i := 170) rfl), ax_ps4 (List.mem_of_getElem? (i := 12) rfl)⟩
abbrev kX2_variableOf : ax_K := (yX2_variableOf, cX2_variableOf, 1, (some .int))
theorem mX2_variableOf : ax_ms kX2_variableOf 1 := ⟨⟨wd_171, ax_in4 (List.mem_of_getElem? (i := 145) rfl), by decide +kernel, by decide +kernel, by decide⟩, ax_in4 (List.mem_of_getElem? (i := 144) rfl)⟩
abbrev kX2_variableOfMeeting : ax_K := (yX2_variableOfMeeting, cX2_variableOfMeeting, 1, (some .int))
theorem mX2_variableOfMeeting : ax_ms kX2_variableOfMeeting 1 := ⟨⟨wd_171, ax_in4 (List.mem_of_getElem? (i := 155) rfl), by decide +kernel, by decide +kernel, by decide⟩, ax_in4 (List.mem_of_getElem? (i := 154) rfl)⟩
abbrev kX2_valueBy : ax_K := (yX2_valueBy, cX2_valueBy, 5, (some .int))
theorem mX2_valueBy : ax_mv kX2_valueBy 1 := ⟨⟨wd_171, ax_in3 (List.mem_of_getElem? (i := 45) rfl), by decide +kernel, by decide +kernel, by decide⟩, ax_in3 (List.mem_of_getElem? (i := 44) rfl), ax_ps2 (List.mem_of_getElem? (i := 7) rfl)⟩
abbrev kX2_variableBy : ax_K := (yX2_variableBy, cX2_variableBy, 2, (some .int))
theorem mX2_variableBy : ax_ms kX2_variableBy 2 := ⟨⟨wd_171, ax_in3 (List.mem_of_getElem? (i := 51) rfl), by decide +kernel, by decide +kernel, by decide⟩, ax_in3 (List.mem_of_getElem? (i := 50) rfl)⟩
abbrev kX2_joined : ax_K := (yX2_joined, cX2_joined, 3, (some .int))
theorem mX2_joined : ax_ms kX2_joined 3 := ⟨⟨wd_171, ax_in3 (List.mem_of_getElem? (i := 48) rfl), by decide +kernel, by decide +kernel, by decide⟩, ax_in3 (List.mem_of_getElem? (i := 47) rfl)⟩
abbrev kX3_init : ax_K := (yX3_init, cX3_init, 1, none)
theorem mX3_init : ax_mi kX3_init 0 := ⟨⟨wd_175, ax_in2 (List.mem_of_getElem? (i := 97) rfl), by decide +kernel, by decide +kernel, by decide⟩, ax_in2 (List.mem_of_getElem? (i := 96) rfl), rfl⟩
abbrev kX3_isPair : ax_K := (yX3_isPair, cX3_isPair, 2, (some .boolean))
theorem mX3_isPair : ax_ms kX3_isPair 2 := ⟨⟨wd_175, ax_in5 (List.mem_of_getElem? (i := 181) rfl), by decide +kernel, by decide +kernel, by decide⟩, ax_in5 (List.mem_of_getElem? (i := 180) rfl)⟩
abbrev kX3_put : ax_K := (yX3_put, cX3_put, 5, none)
theorem mX3_put : ax_mv kX3_put 4 := ⟨⟨wd_175, ax_in5 (List.mem_of_getElem? (i := 185) rfl), by decide +kernel, by decide +kernel, by decide⟩, ax_in5 (List.mem_of_getElem? (i := 184) rfl), ax_ps6 (List.mem_of_getElem? (i := 8) rfl)⟩
abbrev kX3_copy : ax_K := (yX3_copy, cX3_copy, 6, none)
theorem mX3_copy : ax_mv kX3_copy 4 := ⟨⟨wd_175, ax_in5 (List.mem_of_getElem? (i := 178) rfl), by decide +kernel, by decide +kernel, by decide⟩, ax_in5 (List.mem_of_getElem? (i := 177) rfl), ax_ps6 (List.mem_of_getElem? (i := 7) rfl)⟩
abbrev kX3_isRest : ax_K := (yX3_isRest, cX3_isRest, 6, (some .boolean))
theorem mX3_isRest : ax_mv kX3_isRest 3 := ⟨⟨wd_175, ax_in5 (List.mem_of_getElem? (i := 194) rfl), by decide +kernel, by decide +kernel, by decide⟩, ax_in5 (List.mem_of_getElem? (i := 193) rfl), ax_ps6 (List.mem_of_getElem? (i := 10) rfl)⟩
abbrev kX3_restsOf : ax_K := (yX3_restsOf, cX3_restsOf, 5, (some .int))
theorem mX3_restsOf : ax_mv kX3_restsOf 1 := ⟨⟨wd_175, ax_in5 (List.mem_of_getElem? (i := 190) rfl), by decide +kernel, by decide +kernel, by decide⟩, ax_in5 (List.mem_of_getElem? (i := 189) rfl), ax_ps6 (List.mem_of_getElem? (i := 9) rfl)⟩
abbrev kX3_firstRest : ax_K := (yX3_firstRest, cX3_firstRest, 4, (some .int))
theorem mX3_firstRest : ax_mv kX3_firstRest 1 := ⟨⟨wd_175, ax_in5 (List.mem_of_getElem? (i := 198) rfl), by decide +kernel, by decide +kernel, by decide⟩, ax_in5 (List.mem_of_getElem? (i := 197) rfl), ax_ps6 (List.mem_of_getElem? (i := 11) rfl)⟩
abbrev kX3_kindest : ax_K := (yX3_kindest, cX3_kindest, 5, (some .int))
theorem mX3_kindest : ax_mv kX3_kindest 1 := ⟨⟨wd_175, ax_in5 (List.mem_of_getElem? (i := 205) rfl), by decide +kernel, by decide +kernel, by decide⟩, ax_in5 (List.mem_of_getElem? (i := 204) rfl), ax_ps6 (List.mem_of_getElem? (i := 12) rfl)⟩
abbrev kX3_together : ax_K := (yX3_together, cX3_together, 2, (some .int))
theorem mX3_together : ax_mv kX3_together 1 := ⟨⟨wd_175, ax_in5 (List.mem_of_getElem? (i := 209) rfl), by decide +kernel, by decide +kernel, by decide⟩, ax_in5 (List.mem_of_getElem? (i := 208) rfl), ax_ps6 (List.mem_of_getElem? (i := 13) rfl)⟩
abbrev kX4_init : ax_K := (yX4_init, cX4_init, 1, none)
theorem mX4_init : ax_mi kX4_init 0 := ⟨⟨wd_173, ax_in2 (List.mem_of_getElem? (i := 6) rfl), by decide +kernel, by decide +kernel, by decide⟩, ax_in2 (List.mem_of_getElem? (i := 5) rfl), rfl⟩
abbrev kX4_tripOf : ax_K := (yX4_tripOf, cX4_tripOf, 2, (some (.object "DipLights$Trip")))
theorem mX4_tripOf : ax_mv kX4_tripOf 1 := ⟨⟨wd_173, ax_in3 (List.mem_of_getElem? (i := 37) rfl), by decide +kernel, by decide +kernel, by decide⟩, ax_in3 (List.mem_of_getElem? (i := 36) rfl), ax_ps2 (List.mem_of_getElem? (i := 5) rfl)⟩
abbrev kX4_run : ax_K := (yX4_run, cX4_run, 9, none)
theorem mX4_run : ax_mv kX4_run 3 := ⟨⟨wd_173, ax_in2 (List.mem_of_getElem? (i := 210) rfl), by decide +kernel, by decide +kernel, by decide⟩, ax_in2 (List.mem_of_getElem? (i := 209) rfl), ax_ps1 (List.mem_of_getElem? (i := 6) rfl)⟩
abbrev kX4_measure : ax_K := (yX4_measure, cX4_measure, 6, none)
theorem mX4_measure : ax_mv kX4_measure 2 := ⟨⟨wd_173, ax_in2 (List.mem_of_getElem? (i := 230) rfl), by decide +kernel, by decide +kernel, by decide⟩, ax_in2 (List.mem_of_getElem? (i := 229) rfl), ax_ps1 (List.mem_of_getElem? (i := 11) rfl)⟩
abbrev kX4_beamsOf : ax_K := (yX4_beamsOf, cX4_beamsOf, 4, (some .int))
theorem mX4_beamsOf : ax_mv kX4_beamsOf 3 := ⟨⟨wd_173, ax_in3 (List.mem_of_getElem? (i := 4) rfl), by decide +kernel, by decide +kernel, by decide⟩, ax_in3 (List.mem_of_getElem? (i := 3) rfl), ax_ps1 (List.mem_of_getElem? (i := 13) rfl)⟩
abbrev kX4_dazzles : ax_K := (yX4_dazzles, cX4_dazzles, 3, (some .boolean))
theorem mX4_dazzles : ax_mv kX4_dazzles 1 := ⟨⟨wd_173, ax_in3 (List.mem_of_getElem? (i := 55) rfl), by decide +kernel, by decide +kernel, by decide⟩, ax_in3 (List.mem_of_getElem? (i := 54) rfl), ax_ps2 (List.mem_of_getElem? (i := 8) rfl)⟩
abbrev kX4_keep : ax_K := (yX4_keep, cX4_keep, 4, none)
theorem mX4_keep : ax_mv kX4_keep 3 := ⟨⟨wd_173, ax_in3 (List.mem_of_getElem? (i := 68) rfl), by decide +kernel, by decide +kernel, by decide⟩, ax_in3 (List.mem_of_getElem? (i := 67) rfl), ax_ps2 (List.mem_of_getElem? (i := 11) rfl)⟩
abbrev kX4_tellValues : ax_K := (yX4_tellValues, cX4_tellValues, 5, none)
theorem mX4_tellValues : ax_mv kX4_tellValues 2 := ⟨⟨wd_173, ax_in3 (List.mem_of_getElem? (i := 20) rfl), by decide +kernel, by decide +kernel, by decide⟩, ax_in3 (List.mem_of_getElem? (i := 19) rfl), ax_ps2 (List.mem_of_getElem? (i := 1) rfl)⟩
abbrev kX4_apartIn : ax_K := (yX4_apartIn, cX4_apartIn, 2, (some .int))
theorem mX4_apartIn : ax_mv kX4_apartIn 1 := ⟨⟨wd_173, ax_in3 (List.mem_of_getElem? (i := 16) rfl), by decide +kernel, by decide +kernel, by decide⟩, ax_in3 (List.mem_of_getElem? (i := 15) rfl), ax_ps2 (List.mem_of_getElem? (i := 0) rfl)⟩
abbrev kX4_inView : ax_K := (yX4_inView, cX4_inView, 2, (some .boolean))
theorem mX4_inView : ax_mv kX4_inView 1 := ⟨⟨wd_173, ax_in3 (List.mem_of_getElem? (i := 33) rfl), by decide +kernel, by decide +kernel, by decide⟩, ax_in3 (List.mem_of_getElem? (i := 32) rfl), ax_ps2 (List.mem_of_getElem? (i := 4) rfl)⟩
abbrev kX4_far : ax_K := (yX4_far, cX4_far, 3, (some .int))
theorem mX4_far : ax_mv kX4_far 1 := ⟨⟨wd_173, ax_in3 (List.mem_of_getElem? (i := 12) rfl), by decide +kernel, by decide +kernel, by decide⟩, ax_in3 (List.mem_of_getElem? (i := 11) rfl), ax_ps1 (List.mem_of_getElem? (i := 15) rfl)⟩
abbrev kX4_beamsBy : ax_K := (yX4_beamsBy, cX4_beamsBy, 3, (some .int))
theorem mX4_beamsBy : ax_mv kX4_beamsBy 2 := ⟨⟨wd_173, ax_in3 (List.mem_of_getElem? (i := 8) rfl), by decide +kernel, by decide +kernel, by decide⟩, ax_in3 (List.mem_of_getElem? (i := 7) rfl), ax_ps1 (List.mem_of_getElem? (i := 14) rfl)⟩
abbrev kX4_everApartBy : ax_K := (yX4_everApartBy, cX4_everApartBy, 3, (some .boolean))
theorem mX4_everApartBy : ax_mv kX4_everApartBy 1 := ⟨⟨wd_173, ax_in5 (List.mem_of_getElem? (i := 174) rfl), by decide +kernel, by decide +kernel, by decide⟩, ax_in5 (List.mem_of_getElem? (i := 173) rfl), ax_ps6 (List.mem_of_getElem? (i := 6) rfl)⟩
abbrev kX4_hitBy : ax_K := (yX4_hitBy, cX4_hitBy, 5, (some .int))
theorem mX4_hitBy : ax_mv kX4_hitBy 4 := ⟨⟨wd_173, ax_in6 (List.mem_of_getElem? (i := 109) rfl), by decide +kernel, by decide +kernel, by decide⟩, ax_in6 (List.mem_of_getElem? (i := 108) rfl), ax_ps7 (List.mem_of_getElem? (i := 4) rfl)⟩
abbrev kX4_hitByCars : ax_K := (yX4_hitByCars, cX4_hitByCars, 4, (some .int))
theorem mX4_hitByCars : ax_mv kX4_hitByCars 3 := ⟨⟨wd_173, ax_in6 (List.mem_of_getElem? (i := 120) rfl), by decide +kernel, by decide +kernel, by decide⟩, ax_in6 (List.mem_of_getElem? (i := 119) rfl), ax_ps7 (List.mem_of_getElem? (i := 5) rfl)⟩
abbrev kX4_hitBits : ax_K := (yX4_hitBits, cX4_hitBits, 6, (some .int))
theorem mX4_hitBits : ax_mv kX4_hitBits 2 := ⟨⟨wd_173, ax_in5 (List.mem_of_getElem? (i := 49) rfl), by decide +kernel, by decide +kernel, by decide⟩, ax_in5 (List.mem_of_getElem? (i := 48) rfl), ax_ps5 (List.mem_of_getElem? (i := 7) rfl)⟩
abbrev kX4_hitCount : ax_K := (yX4_hitCount, cX4_hitCount, 3, (some .int))
theorem mX4_hitCount : ax_mv kX4_hitCount 2 := ⟨⟨wd_173, ax_in6 (List.mem_of_getElem? (i := 171) rfl), by decide +kernel, by decide +kernel, by decide⟩, ax_in6 (List.mem_of_getElem? (i := 170) rfl), ax_ps7 (List.mem_of_getElem? (i := 7) rfl)⟩
abbrev kX4_costOf : ax_K := (yX4_costOf, cX4_costOf, 3, (some .int))
theorem mX4_costOf : ax_mv kX4_costOf 2 := ⟨⟨wd_173, ax_in5 (List.mem_of_getElem? (i := 151) rfl), by decide +kernel, by decide +kernel, by decide⟩, ax_in5 (List.mem_of_getElem? (i := 150) rfl), ax_ps6 (List.mem_of_getElem? (i := 4) rfl)⟩
abbrev kX5_init : ax_K := (yX5_init, cX5_init, 1, none)
theorem mX5_init : ax_mi kX5_init 0 := ⟨⟨wd_170, ax_in1 (List.mem_of_getElem? (i := 84) rfl), by decide +kernel, by decide +kernel, by decide⟩, ax_in1 (List.mem_of_getElem? (i := 83) rfl), rfl⟩
abbrev kX5_empty : ax_K := (yX5_empty, cX5_empty, 2, none)
theorem mX5_empty : ax_mv kX5_empty 0 := ⟨⟨wd_170, ax_in3 (List.mem_of_getElem? (i := 236) rfl), by decide +kernel, by decide +kernel, by decide⟩, ax_in3 (List.mem_of_getElem? (i := 235) rfl), ax_ps3 (List.mem_of_getElem? (i := 8) rfl)⟩
abbrev kX5_readFrom : ax_K := (yX5_readFrom, cX5_readFrom, 4, (some .boolean))
theorem mX5_readFrom : ax_mv kX5_readFrom 1 := ⟨⟨wd_170, ax_in3 (List.mem_of_getElem? (i := 232) rfl), by decide +kernel, by decide +kernel, by decide⟩, ax_in3 (List.mem_of_getElem? (i := 231) rfl), ax_ps3 (List.mem_of_getElem? (i := 7) rfl)⟩
abbrev kX5_clauseOf : ax_K := (yX5_clauseOf, cX5_clauseOf, 1, (some .int))
theorem mX5_clauseOf : ax_ms kX5_clauseOf 1 := ⟨⟨wd_170, ax_in3 (List.mem_of_getElem? (i := 239) rfl), by decide +kernel, by decide +kernel, by decide⟩, ax_in3 (List.mem_of_getElem? (i := 238) rfl)⟩
abbrev kX5_hasRoomFor : ax_K := (yX5_hasRoomFor, cX5_hasRoomFor, 2, (some .boolean))
theorem mX5_hasRoomFor : ax_mv kX5_hasRoomFor 1 := ⟨⟨wd_170, ax_in4 (List.mem_of_getElem? (i := 67) rfl), by decide +kernel, by decide +kernel, by decide⟩, ax_in4 (List.mem_of_getElem? (i := 66) rfl), ax_ps3 (List.mem_of_getElem? (i := 11) rfl)⟩
abbrev kX5_readClause : ax_K := (yX5_readClause, cX5_readClause, 3, (some .boolean))
theorem mX5_readClause : ax_mv kX5_readClause 2 := ⟨⟨wd_170, ax_in4 (List.mem_of_getElem? (i := 72) rfl), by decide +kernel, by decide +kernel, by decide⟩, ax_in4 (List.mem_of_getElem? (i := 71) rfl), ax_ps3 (List.mem_of_getElem? (i := 12) rfl)⟩
abbrev kX5_readBend : ax_K := (yX5_readBend, cX5_readBend, 4, (some .boolean))
theorem mX5_readBend : ax_mv kX5_readBend 1 := ⟨⟨wd_170, ax_in4 (List.mem_of_getElem? (i := 85) rfl), by decide +kernel, by decide +kernel, by decide⟩, ax_in4 (List.mem_of_getElem? (i := 84) rfl), ax_ps3 (List.mem_of_getElem? (i := 15) rfl)⟩
abbrev kX5_readWet : ax_K := (yX5_readWet, cX5_readWet, 5, (some .boolean))
theorem mX5_readWet : ax_mv kX5_readWet 1 := ⟨⟨wd_170, ax_in4 (List.mem_of_getElem? (i := 89) rfl), by decide +kernel, by decide +kernel, by decide⟩, ax_in4 (List.mem_of_getElem? (i := 88) rfl), ax_ps4 (List.mem_of_getElem? (i := 0) rfl)⟩
abbrev kX5_readCoat : ax_K := (yX5_readCoat, cX5_readCoat, 4, (some .boolean))
theorem mX5_readCoat : ax_mv kX5_readCoat 1 := ⟨⟨wd_170, ax_in4 (List.mem_of_getElem? (i := 93) rfl), by decide +kernel, by decide +kernel, by decide⟩, ax_in4 (List.mem_of_getElem? (i := 92) rfl), ax_ps4 (List.mem_of_getElem? (i := 1) rfl)⟩
abbrev kX5_readReach : ax_K := (yX5_readReach, cX5_readReach, 2, (some .boolean))
theorem mX5_readReach : ax_mv kX5_readReach 1 := ⟨⟨wd_170, ax_in4 (List.mem_of_getElem? (i := 97) rfl), by decide +kernel, by decide +kernel, by decide⟩, ax_in4 (List.mem_of_getElem? (i := 96) rfl), ax_ps4 (List.mem_of_getElem? (i := 2) rfl)⟩
abbrev kX5_readCar : ax_K := (yX5_readCar, cX5_readCar, 5, (some .boolean))
theorem mX5_readCar : ax_mv kX5_readCar 1 := ⟨⟨wd_170, ax_in4 (List.mem_of_getElem? (i := 101) rfl), by decide +kernel, by decide +kernel, by decide⟩, ax_in4 (List.mem_of_getElem? (i := 100) rfl), ax_ps4 (List.mem_of_getElem? (i := 3) rfl)⟩
abbrev kX5_startOf : ax_K := (yX5_startOf, cX5_startOf, 2, (some .int))
theorem mX5_startOf : ax_mv kX5_startOf 1 := ⟨⟨wd_170, ax_in2 (List.mem_of_getElem? (i := 218) rfl), by decide +kernel, by decide +kernel, by decide⟩, ax_in2 (List.mem_of_getElem? (i := 217) rfl), ax_ps1 (List.mem_of_getElem? (i := 8) rfl)⟩
abbrev kX5_has : ax_K := (yX5_has, cX5_has, 2, (some .boolean))
theorem mX5_has : ax_mv kX5_has 1 := ⟨⟨wd_170, ax_in2 (List.mem_of_getElem? (i := 226) rfl), by decide +kernel, by decide +kernel, by decide⟩, ax_in2 (List.mem_of_getElem? (i := 225) rfl), ax_ps1 (List.mem_of_getElem? (i := 10) rfl)⟩
abbrev kX5_wetAt : ax_K := (yX5_wetAt, cX5_wetAt, 2, (some .int))
theorem mX5_wetAt : ax_mv kX5_wetAt 1 := ⟨⟨wd_170, ax_in3 (List.mem_of_getElem? (i := 28) rfl), by decide +kernel, by decide +kernel, by decide⟩, ax_in3 (List.mem_of_getElem? (i := 27) rfl), ax_ps2 (List.mem_of_getElem? (i := 3) rfl)⟩
abbrev kX5_wetCells : ax_K := (yX5_wetCells, cX5_wetCells, 3, (some .int))
theorem mX5_wetCells : ax_mv kX5_wetCells 0 := ⟨⟨wd_170, ax_in5 (List.mem_of_getElem? (i := 2) rfl), by decide +kernel, by decide +kernel, by decide⟩, ax_in5 (List.mem_of_getElem? (i := 1) rfl), ax_ps5 (List.mem_of_getElem? (i := 3) rfl)⟩
abbrev kX5_hides : ax_K := (yX5_hides, cX5_hides, 6, (some .boolean))
theorem mX5_hides : ax_mv kX5_hides 2 := ⟨⟨wd_170, ax_in2 (List.mem_of_getElem? (i := 234) rfl), by decide +kernel, by decide +kernel, by decide⟩, ax_in2 (List.mem_of_getElem? (i := 233) rfl), ax_ps1 (List.mem_of_getElem? (i := 12) rfl)⟩
abbrev kX5_reachBy : ax_K := (yX5_reachBy, cX5_reachBy, 2, (some .int))
theorem mX5_reachBy : ax_mv kX5_reachBy 1 := ⟨⟨wd_170, ax_in3 (List.mem_of_getElem? (i := 24) rfl), by decide +kernel, by decide +kernel, by decide⟩, ax_in3 (List.mem_of_getElem? (i := 23) rfl), ax_ps2 (List.mem_of_getElem? (i := 2) rfl)⟩
abbrev kX5_blindFor : ax_K := (yX5_blindFor, cX5_blindFor, 2, (some .int))
theorem mX5_blindFor : ax_mv kX5_blindFor 1 := ⟨⟨wd_170, ax_in3 (List.mem_of_getElem? (i := 59) rfl), by decide +kernel, by decide +kernel, by decide⟩, ax_in3 (List.mem_of_getElem? (i := 58) rfl), ax_ps2 (List.mem_of_getElem? (i := 9) rfl)⟩
abbrev kX5_cellOfDraw : ax_K := (yX5_cellOfDraw, cX5_cellOfDraw, 2, (some .int))
theorem mX5_cellOfDraw : ax_mv kX5_cellOfDraw 1 := ⟨⟨wd_170, ax_in6 (List.mem_of_getElem? (i := 105) rfl), by decide +kernel, by decide +kernel, by decide⟩, ax_in6 (List.mem_of_getElem? (i := 104) rfl), ax_ps7 (List.mem_of_getElem? (i := 3) rfl)⟩
abbrev kX6_init : ax_K := (yX6_init, cX6_init, 1, none)
theorem mX6_init : ax_mi kX6_init 0 := ⟨⟨wd_168, ax_in1 (List.mem_of_getElem? (i := 37) rfl), by decide +kernel, by decide +kernel, by decide⟩, ax_in1 (List.mem_of_getElem? (i := 36) rfl), rfl⟩
abbrev kX6_put : ax_K := (yX6_put, cX6_put, 3, none)
theorem mX6_put : ax_mv kX6_put 1 := ⟨⟨wd_168, ax_in2 (List.mem_of_getElem? (i := 194) rfl), by decide +kernel, by decide +kernel, by decide⟩, ax_in2 (List.mem_of_getElem? (i := 193) rfl), ax_ps1 (List.mem_of_getElem? (i := 4) rfl)⟩
abbrev kX6_beginText : ax_K := (yX6_beginText, cX6_beginText, 2, none)
theorem mX6_beginText : ax_mv kX6_beginText 1 := ⟨⟨wd_168, ax_in3 (List.mem_of_getElem? (i := 219) rfl), by decide +kernel, by decide +kernel, by decide⟩, ax_in3 (List.mem_of_getElem? (i := 218) rfl), ax_ps3 (List.mem_of_getElem? (i := 5) rfl)⟩
abbrev kX6_answerOfFault : ax_K := (yX6_answerOfFault, cX6_answerOfFault, 1, (some .int))
theorem mX6_answerOfFault : ax_mv kX6_answerOfFault 0 := ⟨⟨wd_168, ax_in4 (List.mem_of_getElem? (i := 113) rfl), by decide +kernel, by decide +kernel, by decide⟩, ax_in4 (List.mem_of_getElem? (i := 112) rfl), ax_ps4 (List.mem_of_getElem? (i := 6) rfl)⟩
abbrev kX6_fail : ax_K := (yX6_fail, cX6_fail, 2, (some .boolean))
theorem mX6_fail : ax_mv kX6_fail 1 := ⟨⟨wd_168, ax_in4 (List.mem_of_getElem? (i := 63) rfl), by decide +kernel, by decide +kernel, by decide⟩, ax_in4 (List.mem_of_getElem? (i := 62) rfl), ax_ps3 (List.mem_of_getElem? (i := 10) rfl)⟩
abbrev kX6_advance : ax_K := (yX6_advance, cX6_advance, 1, none)
theorem mX6_advance : ax_mv kX6_advance 0 := ⟨⟨wd_168, ax_in3 (List.mem_of_getElem? (i := 224) rfl), by decide +kernel, by decide +kernel, by decide⟩, ax_in3 (List.mem_of_getElem? (i := 223) rfl), ax_ps3 (List.mem_of_getElem? (i := 6) rfl)⟩
abbrev kX6_tokenOf : ax_K := (yX6_tokenOf, cX6_tokenOf, 1, (some .int))
theorem mX6_tokenOf : ax_ms kX6_tokenOf 1 := ⟨⟨wd_168, ax_in3 (List.mem_of_getElem? (i := 227) rfl), by decide +kernel, by decide +kernel, by decide⟩, ax_in3 (List.mem_of_getElem? (i := 226) rfl)⟩
abbrev kX6_isWord : ax_K := (yX6_isWord, cX6_isWord, 4, (some .boolean))
theorem mX6_isWord : ax_mv kX6_isWord 1 := ⟨⟨wd_168, ax_in4 (List.mem_of_getElem? (i := 4) rfl), by decide +kernel, by decide +kernel, by decide⟩, ax_in4 (List.mem_of_getElem? (i := 3) rfl), ax_ps3 (List.mem_of_getElem? (i := 9) rfl)⟩
abbrev kX6_isSign : ax_K := (yX6_isSign, cX6_isSign, 2, (some .boolean))
theorem mX6_isSign : ax_mv kX6_isSign 1 := ⟨⟨wd_168, ax_in4 (List.mem_of_getElem? (i := 109) rfl), by decide +kernel, by decide +kernel, by decide⟩, ax_in4 (List.mem_of_getElem? (i := 108) rfl), ax_ps4 (List.mem_of_getElem? (i := 5) rfl)⟩
abbrev kX6_takeSign : ax_K := (yX6_takeSign, cX6_takeSign, 2, (some .boolean))
theorem mX6_takeSign : ax_mv kX6_takeSign 1 := ⟨⟨wd_168, ax_in4 (List.mem_of_getElem? (i := 105) rfl), by decide +kernel, by decide +kernel, by decide⟩, ax_in4 (List.mem_of_getElem? (i := 104) rfl), ax_ps4 (List.mem_of_getElem? (i := 4) rfl)⟩
abbrev kX6_standsNumber : ax_K := (yX6_standsNumber, cX6_standsNumber, 3, (some .boolean))
theorem mX6_standsNumber : ax_mv kX6_standsNumber 2 := ⟨⟨wd_168, ax_in4 (List.mem_of_getElem? (i := 80) rfl), by decide +kernel, by decide +kernel, by decide⟩, ax_in4 (List.mem_of_getElem? (i := 79) rfl), ax_ps3 (List.mem_of_getElem? (i := 14) rfl)⟩
abbrev kX6_takeNumber : ax_K := (yX6_takeNumber, cX6_takeNumber, 4, (some .int))
theorem mX6_takeNumber : ax_mv kX6_takeNumber 2 := ⟨⟨wd_168, ax_in4 (List.mem_of_getElem? (i := 76) rfl), by decide +kernel, by decide +kernel, by decide⟩, ax_in4 (List.mem_of_getElem? (i := 75) rfl), ax_ps3 (List.mem_of_getElem? (i := 13) rfl)⟩
abbrev kX7_init : ax_K := (yX7_init, cX7_init, 1, none)
theorem mX7_init : ax_mi kX7_init 0 := ⟨⟨wd_169, ax_in1 (List.mem_of_getElem? (i := 78) rfl), by decide +kernel, by decide +kernel, by decide⟩, ax_in1 (List.mem_of_getElem? (i := 77) rfl), rfl⟩
abbrev kX7_forgetFormulas : ax_K := (yX7_forgetFormulas, cX7_forgetFormulas, 1, none)
theorem mX7_forgetFormulas : ax_mv kX7_forgetFormulas 0 := ⟨⟨wd_169, ax_in1 (List.mem_of_getElem? (i := 186) rfl), by decide +kernel, by decide +kernel, by decide⟩, ax_in1 (List.mem_of_getElem? (i := 185) rfl), ax_ps1 (List.mem_of_getElem? (i := 0) rfl)⟩
abbrev kX7_swapRule : ax_K := (yX7_swapRule, cX7_swapRule, 4, (some (.object "DipLights$Formula")))
theorem mX7_swapRule : ax_mv kX7_swapRule 2 := ⟨⟨wd_169, ax_in4 (List.mem_of_getElem? (i := 203) rfl), by decide +kernel, by decide +kernel, by decide⟩, ax_in4 (List.mem_of_getElem? (i := 202) rfl), ax_ps4 (List.mem_of_getElem? (i := 14) rfl)⟩
abbrev kX7_valuesOfNobody : ax_K := (yX7_valuesOfNobody, cX7_valuesOfNobody, 2, (some (.array .int)))
theorem mX7_valuesOfNobody : ax_mv kX7_valuesOfNobody 0 := ⟨⟨wd_169, ax_in5 (List.mem_of_getElem? (i := 118) rfl), by decide +kernel, by decide +kernel, by decide⟩, ax_in5 (List.mem_of_getElem? (i := 117) rfl), ax_ps6 (List.mem_of_getElem? (i := 2) rfl)⟩
abbrev kX7_sightByLaw : ax_K := (yX7_sightByLaw, cX7_sightByLaw, 1, (some .int))
theorem mX7_sightByLaw : ax_mv kX7_sightByLaw 0 := ⟨⟨wd_169, ax_in3 (List.mem_of_getElem? (i := 72) rfl), by decide +kernel, by decide +kernel, by decide⟩, ax_in3 (List.mem_of_getElem? (i := 71) rfl), ax_ps2 (List.mem_of_getElem? (i := 12) rfl)⟩
abbrev kX7_beamsByRule : ax_K := (yX7_beamsByRule, cX7_beamsByRule, 2, (some .int))
theorem mX7_beamsByRule : ax_mv kX7_beamsByRule 1 := ⟨⟨wd_169, ax_in3 (List.mem_of_getElem? (i := 41) rfl), by decide +kernel, by decide +kernel, by decide⟩, ax_in3 (List.mem_of_getElem? (i := 40) rfl), ax_ps2 (List.mem_of_getElem? (i := 6) rfl)⟩
abbrev kX8_init : ax_K := (yX8_init, cX8_init, 2, none)
theorem mX8_init : ax_mi kX8_init 1 := ⟨⟨wd_174, ax_in2 (List.mem_of_getElem? (i := 12) rfl), by decide +kernel, by decide +kernel, by decide⟩, ax_in2 (List.mem_of_getElem? (i := 11) rfl), rfl⟩
abbrev kX8_begin : ax_K := (yX8_begin, cX8_begin, 2, none)
theorem mX8_begin : ax_mv kX8_begin 1 := ⟨⟨wd_174, ax_in2 (List.mem_of_getElem? (i := 214) rfl), by decide +kernel, by decide +kernel, by decide⟩, ax_in2 (List.mem_of_getElem? (i := 213) rfl), ax_ps1 (List.mem_of_getElem? (i := 7) rfl)⟩
abbrev kX8_isOn : ax_K := (yX8_isOn, cX8_isOn, 2, (some .boolean))
theorem mX8_isOn : ax_mv kX8_isOn 1 := ⟨⟨wd_174, ax_in2 (List.mem_of_getElem? (i := 222) rfl), by decide +kernel, by decide +kernel, by decide⟩, ax_in2 (List.mem_of_getElem? (i := 221) rfl), ax_ps1 (List.mem_of_getElem? (i := 9) rfl)⟩
abbrev kX8_becomeBlind : ax_K := (yX8_becomeBlind, cX8_becomeBlind, 3, none)
theorem mX8_becomeBlind : ax_mv kX8_becomeBlind 2 := ⟨⟨wd_174, ax_in3 (List.mem_of_getElem? (i := 63) rfl), by decide +kernel, by decide +kernel, by decide⟩, ax_in3 (List.mem_of_getElem? (i := 62) rfl), ax_ps2 (List.mem_of_getElem? (i := 10) rfl)⟩
abbrev kX8_keep : ax_K := (yX8_keep, cX8_keep, 5, none)
theorem mX8_keep : ax_mv kX8_keep 4 := ⟨⟨wd_174, ax_in3 (List.mem_of_getElem? (i := 78) rfl), by decide +kernel, by decide +kernel, by decide⟩, ax_in3 (List.mem_of_getElem? (i := 77) rfl), ax_ps2 (List.mem_of_getElem? (i := 13) rfl)⟩
abbrev kX8_unsafe : ax_K := (yX8_unsafe, cX8_unsafe, 2, (some .int))
theorem mX8_unsafe : ax_mv kX8_unsafe 1 := ⟨⟨wd_174, ax_in5 (List.mem_of_getElem? (i := 37) rfl), by decide +kernel, by decide +kernel, by decide⟩, ax_in5 (List.mem_of_getElem? (i := 36) rfl), ax_ps5 (List.mem_of_getElem? (i := 6) rfl)⟩
abbrev kX8_unsafeTenths : ax_K := (yX8_unsafeTenths, cX8_unsafeTenths, 3, (some .int))
theorem mX8_unsafeTenths : ax_mv kX8_unsafeTenths 0 := ⟨⟨wd_174, ax_in5 (List.mem_of_getElem? (i := 86) rfl), by decide +kernel, by decide +kernel, by decide⟩, ax_in5 (List.mem_of_getElem? (i := 85) rfl), ax_ps5 (List.mem_of_getElem? (i := 12) rfl)⟩
abbrev kX8_glareTenths : ax_K := (yX8_glareTenths, cX8_glareTenths, 3, (some .int))
theorem mX8_glareTenths : ax_mv kX8_glareTenths 0 := ⟨⟨wd_174, ax_in5 (List.mem_of_getElem? (i := 91) rfl), by decide +kernel, by decide +kernel, by decide⟩, ax_in5 (List.mem_of_getElem? (i := 90) rfl), ax_ps5 (List.mem_of_getElem? (i := 13) rfl)⟩
abbrev kX8_blindTenths : ax_K := (yX8_blindTenths, cX8_blindTenths, 3, (some .int))
theorem mX8_blindTenths : ax_mv kX8_blindTenths 0 := ⟨⟨wd_174, ax_in5 (List.mem_of_getElem? (i := 95) rfl), by decide +kernel, by decide +kernel, by decide⟩, ax_in5 (List.mem_of_getElem? (i := 94) rfl), ax_ps5 (List.mem_of_getElem? (i := 14) rfl)⟩
abbrev kX8_fullTenths : ax_K := (yX8_fullTenths, cX8_fullTenths, 3, (some .int))
theorem mX8_fullTenths : ax_mv kX8_fullTenths 0 := ⟨⟨wd_174, ax_in5 (List.mem_of_getElem? (i := 99) rfl), by decide +kernel, by decide +kernel, by decide⟩, ax_in5 (List.mem_of_getElem? (i := 98) rfl), ax_ps5 (List.mem_of_getElem? (i := 15) rfl)⟩
abbrev kX8_beamChanges : ax_K := (yX8_beamChanges, cX8_beamChanges, 4, (some .int))
theorem mX8_beamChanges : ax_mv kX8_beamChanges 0 := ⟨⟨wd_174, ax_in5 (List.mem_of_getElem? (i := 103) rfl), by decide +kernel, by decide +kernel, by decide⟩, ax_in5 (List.mem_of_getElem? (i := 102) rfl), ax_ps6 (List.mem_of_getElem? (i := 0) rfl)⟩
abbrev kX8_leastSight : ax_K := (yX8_leastSight, cX8_leastSight, 3, (some .int))
theorem mX8_leastSight : ax_mv kX8_leastSight 0 := ⟨⟨wd_174, ax_in5 (List.mem_of_getElem? (i := 107) rfl), by decide +kernel, by decide +kernel, by decide⟩, ax_in5 (List.mem_of_getElem? (i := 106) rfl), ax_ps6 (List.mem_of_getElem? (i := 1) rfl)⟩
abbrev kX8_firstBeams : ax_K := (yX8_firstBeams, cX8_firstBeams, 4, (some .int))
theorem mX8_firstBeams : ax_mv kX8_firstBeams 2 := ⟨⟨wd_174, ax_in6 (List.mem_of_getElem? (i := 139) rfl), by decide +kernel, by decide +kernel, by decide⟩, ax_in6 (List.mem_of_getElem? (i := 138) rfl), ax_ps7 (List.mem_of_getElem? (i := 6) rfl)⟩
abbrev kX8_ahead : ax_K := (yX8_ahead, cX8_ahead, 3, (some .int))
theorem mX8_ahead : ax_mv kX8_ahead 2 := ⟨⟨wd_174, ax_in5 (List.mem_of_getElem? (i := 61) rfl), by decide +kernel, by decide +kernel, by decide⟩, ax_in5 (List.mem_of_getElem? (i := 60) rfl), ax_ps5 (List.mem_of_getElem? (i := 10) rfl)⟩
abbrev kX8_seenIn : ax_K := (yX8_seenIn, cX8_seenIn, 6, (some .int))
theorem mX8_seenIn : ax_mv kX8_seenIn 3 := ⟨⟨wd_174, ax_in5 (List.mem_of_getElem? (i := 65) rfl), by decide +kernel, by decide +kernel, by decide⟩, ax_in5 (List.mem_of_getElem? (i := 64) rfl), ax_ps5 (List.mem_of_getElem? (i := 11) rfl)⟩
abbrev kX8_reachedIn : ax_K := (yX8_reachedIn, cX8_reachedIn, 4, (some .int))
theorem mX8_reachedIn : ax_mv kX8_reachedIn 1 := ⟨⟨wd_174, ax_in5 (List.mem_of_getElem? (i := 57) rfl), by decide +kernel, by decide +kernel, by decide⟩, ax_in5 (List.mem_of_getElem? (i := 56) rfl), ax_ps5 (List.mem_of_getElem? (i := 9) rfl)⟩
abbrev kX8_doesHit : ax_K := (yX8_doesHit, cX8_doesHit, 6, (some .boolean))
theorem mX8_doesHit : ax_mv kX8_doesHit 3 := ⟨⟨wd_174, ax_in5 (List.mem_of_getElem? (i := 53) rfl), by decide +kernel, by decide +kernel, by decide⟩, ax_in5 (List.mem_of_getElem? (i := 52) rfl), ax_ps5 (List.mem_of_getElem? (i := 8) rfl)⟩
abbrev kX9_init : ax_K := (yX9_init, cX9_init, 1, none)
theorem mX9_init : ax_mi kX9_init 0 := ⟨⟨wd_167, ax_in1 (List.mem_of_getElem? (i := 29) rfl), by decide +kernel, by decide +kernel, by decide⟩, ax_in1 (List.mem_of_getElem? (i := 28) rfl), rfl⟩
abbrev kX9_feed : ax_K := (yX9_feed, cX9_feed, 6, (some .int))
theorem mX9_feed : ax_mv kX9_feed 5 := ⟨⟨wd_167, ax_in2 (List.mem_of_getElem? (i := 190) rfl), by decide +kernel, by decide +kernel, by decide⟩, ax_in2 (List.mem_of_getElem? (i := 188) rfl), ax_in2 (List.mem_of_getElem? (i := 189) rfl)⟩
abbrev kX9_road : ax_K := (yX9_road, cX9_road, 3, (some .int))
theorem mX9_road : ax_mv kX9_road 1 := ⟨⟨wd_167, ax_in3 (List.mem_of_getElem? (i := 139) rfl), by decide +kernel, by decide +kernel, by decide⟩, ax_in3 (List.mem_of_getElem? (i := 137) rfl), ax_in3 (List.mem_of_getElem? (i := 138) rfl)⟩
abbrev kX9_law : ax_K := (yX9_law, cX9_law, 3, (some .int))
theorem mX9_law : ax_mv kX9_law 1 := ⟨⟨wd_167, ax_in4 (List.mem_of_getElem? (i := 125) rfl), by decide +kernel, by decide +kernel, by decide⟩, ax_in4 (List.mem_of_getElem? (i := 123) rfl), ax_in4 (List.mem_of_getElem? (i := 124) rfl)⟩
abbrev kX9_rule : ax_K := (yX9_rule, cX9_rule, 3, (some .int))
theorem mX9_rule : ax_mv kX9_rule 2 := ⟨⟨wd_167, ax_in4 (List.mem_of_getElem? (i := 179) rfl), by decide +kernel, by decide +kernel, by decide⟩, ax_in4 (List.mem_of_getElem? (i := 177) rfl), ax_in4 (List.mem_of_getElem? (i := 178) rfl)⟩
abbrev kX9_book : ax_K := (yX9_book, cX9_book, 3, (some .int))
theorem mX9_book : ax_mv kX9_book 1 := ⟨⟨wd_167, ax_in4 (List.mem_of_getElem? (i := 210) rfl), by decide +kernel, by decide +kernel, by decide⟩, ax_in4 (List.mem_of_getElem? (i := 208) rfl), ax_in4 (List.mem_of_getElem? (i := 209) rfl)⟩
abbrev kX9_fault : ax_K := (yX9_fault, cX9_fault, 1, (some .int))
theorem mX9_fault : ax_mv kX9_fault 0 := ⟨⟨wd_167, ax_in2 (List.mem_of_getElem? (i := 198) rfl), by decide +kernel, by decide +kernel, by decide⟩, ax_in2 (List.mem_of_getElem? (i := 196) rfl), ax_in2 (List.mem_of_getElem? (i := 197) rfl)⟩
abbrev kX9_takeText : ax_K := (yX9_takeText, cX9_takeText, 3, none)
theorem mX9_takeText : ax_mv kX9_takeText 2 := ⟨⟨wd_167, ax_in3 (List.mem_of_getElem? (i := 143) rfl), by decide +kernel, by decide +kernel, by decide⟩, ax_in3 (List.mem_of_getElem? (i := 142) rfl), ax_ps3 (List.mem_of_getElem? (i := 2) rfl)⟩
abbrev kX9_meetingChanged : ax_K := (yX9_meetingChanged, cX9_meetingChanged, 1, none)
theorem mX9_meetingChanged : ax_mv kX9_meetingChanged 0 := ⟨⟨wd_167, ax_in3 (List.mem_of_getElem? (i := 98) rfl), by decide +kernel, by decide +kernel, by decide⟩, ax_in3 (List.mem_of_getElem? (i := 97) rfl), ax_ps2 (List.mem_of_getElem? (i := 15) rfl)⟩
abbrev kX9_told : ax_K := (yX9_told, cX9_told, 3, (some .int))
theorem mX9_told : ax_mv kX9_told 1 := ⟨⟨wd_167, ax_in4 (List.mem_of_getElem? (i := 234) rfl), by decide +kernel, by decide +kernel, by decide⟩, ax_in4 (List.mem_of_getElem? (i := 232) rfl), ax_in4 (List.mem_of_getElem? (i := 233) rfl)⟩
abbrev kX9_car : ax_K := (yX9_car, cX9_car, 4, (some .int))
theorem mX9_car : ax_mv kX9_car 2 := ⟨⟨wd_167, ax_in5 (List.mem_of_getElem? (i := 9) rfl), by decide +kernel, by decide +kernel, by decide⟩, ax_in5 (List.mem_of_getElem? (i := 7) rfl), ax_in5 (List.mem_of_getElem? (i := 8) rfl)⟩
abbrev kX9_coat : ax_K := (yX9_coat, cX9_coat, 3, (some .int))
theorem mX9_coat : ax_mv kX9_coat 2 := ⟨⟨wd_167, ax_in5 (List.mem_of_getElem? (i := 21) rfl), by decide +kernel, by decide +kernel, by decide⟩, ax_in5 (List.mem_of_getElem? (i := 19) rfl), ax_in5 (List.mem_of_getElem? (i := 20) rfl)⟩
abbrev kX9_freshMeeting : ax_K := (yX9_freshMeeting, cX9_freshMeeting, 1, (some (.object "DipLights$Meeting")))
theorem mX9_freshMeeting : ax_mv kX9_freshMeeting 0 := ⟨⟨wd_167, ax_in2 (List.mem_of_getElem? (i := 206) rfl), by decide +kernel, by decide +kernel, by decide⟩, ax_in2 (List.mem_of_getElem? (i := 205) rfl), ax_ps1 (List.mem_of_getElem? (i := 5) rfl)⟩
abbrev kX9_tenths : ax_K := (yX9_tenths, cX9_tenths, 1, (some .int))
theorem mX9_tenths : ax_mv kX9_tenths 0 := ⟨⟨wd_167, ax_in2 (List.mem_of_getElem? (i := 202) rfl), by decide +kernel, by decide +kernel, by decide⟩, ax_in2 (List.mem_of_getElem? (i := 200) rfl), ax_in2 (List.mem_of_getElem? (i := 201) rfl)⟩
abbrev kX9_at : ax_K := (yX9_at, cX9_at, 6, (some .int))
theorem mX9_at : ax_mv kX9_at 3 := ⟨⟨wd_167, ax_in5 (List.mem_of_getElem? (i := 32) rfl), by decide +kernel, by decide +kernel, by decide⟩, ax_in5 (List.mem_of_getElem? (i := 30) rfl), ax_in5 (List.mem_of_getElem? (i := 31) rfl)⟩
abbrev kX9_passes : ax_K := (yX9_passes, cX9_passes, 1, (some .int))
theorem mX9_passes : ax_mv kX9_passes 0 := ⟨⟨wd_167, ax_in3 (List.mem_of_getElem? (i := 83) rfl), by decide +kernel, by decide +kernel, by decide⟩, ax_in3 (List.mem_of_getElem? (i := 81) rfl), ax_in3 (List.mem_of_getElem? (i := 82) rfl)⟩
abbrev kX9_hits : ax_K := (yX9_hits, cX9_hits, 2, (some .int))
theorem mX9_hits : ax_mv kX9_hits 1 := ⟨⟨wd_167, ax_in5 (List.mem_of_getElem? (i := 45) rfl), by decide +kernel, by decide +kernel, by decide⟩, ax_in5 (List.mem_of_getElem? (i := 43) rfl), ax_in5 (List.mem_of_getElem? (i := 44) rfl)⟩
abbrev kX9_sees : ax_K := (yX9_sees, cX9_sees, 6, (some .int))
theorem mX9_sees : ax_mv kX9_sees 2 := ⟨⟨wd_167, ax_in5 (List.mem_of_getElem? (i := 73) rfl), by decide +kernel, by decide +kernel, by decide⟩, ax_in5 (List.mem_of_getElem? (i := 71) rfl), ax_in5 (List.mem_of_getElem? (i := 72) rfl)⟩
abbrev kX9_sums : ax_K := (yX9_sums, cX9_sums, 4, (some .int))
theorem mX9_sums : ax_mv kX9_sums 2 := ⟨⟨wd_167, ax_in5 (List.mem_of_getElem? (i := 82) rfl), by decide +kernel, by decide +kernel, by decide⟩, ax_in5 (List.mem_of_getElem? (i := 80) rfl), ax_in5 (List.mem_of_getElem? (i := 81) rfl)⟩
abbrev kX9_would : ax_K := (yX9_would, cX9_would, 6, (some .int))
theorem mX9_would : ax_mv kX9_would 4 := ⟨⟨wd_167, ax_in5 (List.mem_of_getElem? (i := 114) rfl), by decide +kernel, by decide +kernel, by decide⟩, ax_in5 (List.mem_of_getElem? (i := 112) rfl), ax_in5 (List.mem_of_getElem? (i := 113) rfl)⟩
abbrev kX9_cost : ax_K := (yX9_cost, cX9_cost, 4, (some .int))
theorem mX9_cost : ax_mv kX9_cost 3 := ⟨⟨wd_167, ax_in5 (List.mem_of_getElem? (i := 127) rfl), by decide +kernel, by decide +kernel, by decide⟩, ax_in5 (List.mem_of_getElem? (i := 125) rfl), ax_in5 (List.mem_of_getElem? (i := 126) rfl)⟩
abbrev kX9_duel : ax_K := (yX9_duel, cX9_duel, 4, (some .int))
theorem mX9_duel : ax_mv kX9_duel 2 := ⟨⟨wd_167, ax_in5 (List.mem_of_getElem? (i := 166) rfl), by decide +kernel, by decide +kernel, by decide⟩, ax_in5 (List.mem_of_getElem? (i := 164) rfl), ax_in5 (List.mem_of_getElem? (i := 165) rfl)⟩
abbrev kX9_pairNumber : ax_K := (yX9_pairNumber, cX9_pairNumber, 2, (some .int))
theorem mX9_pairNumber : ax_ms kX9_pairNumber 2 := ⟨⟨wd_167, ax_in5 (List.mem_of_getElem? (i := 201) rfl), by decide +kernel, by decide +kernel, by decide⟩, ax_in5 (List.mem_of_getElem? (i := 200) rfl)⟩
abbrev kX9_fillDuel : ax_K := (yX9_fillDuel, cX9_fillDuel, 5, none)
theorem mX9_fillDuel : ax_mv kX9_fillDuel 2 := ⟨⟨wd_167, ax_in5 (List.mem_of_getElem? (i := 170) rfl), by decide +kernel, by decide +kernel, by decide⟩, ax_in5 (List.mem_of_getElem? (i := 169) rfl), ax_ps6 (List.mem_of_getElem? (i := 5) rfl)⟩
abbrev kX9_answer : ax_K := (yX9_answer, cX9_answer, 7, (some .int))
theorem mX9_answer : ax_mv kX9_answer 2 := ⟨⟨wd_167, ax_in5 (List.mem_of_getElem? (i := 217) rfl), by decide +kernel, by decide +kernel, by decide⟩, ax_in5 (List.mem_of_getElem? (i := 215) rfl), ax_in5 (List.mem_of_getElem? (i := 216) rfl)⟩
abbrev kX9_habit : ax_K := (yX9_habit, cX9_habit, 6, (some .int))
theorem mX9_habit : ax_mv kX9_habit 2 := ⟨⟨wd_167, ax_in5 (List.mem_of_getElem? (i := 225) rfl), by decide +kernel, by decide +kernel, by decide⟩, ax_in5 (List.mem_of_getElem? (i := 223) rfl), ax_in5 (List.mem_of_getElem? (i := 224) rfl)⟩
abbrev kX9_nextHabit : ax_K := (yX9_nextHabit, cX9_nextHabit, 2, (some .int))
theorem mX9_nextHabit : ax_mv kX9_nextHabit 1 := ⟨⟨wd_167, ax_in5 (List.mem_of_getElem? (i := 229) rfl), by decide +kernel, by decide +kernel, by decide⟩, ax_in5 (List.mem_of_getElem? (i := 228) rfl), ax_ps6 (List.mem_of_getElem? (i := 14) rfl)⟩
abbrev kX9_leastVisited : ax_K := (yX9_leastVisited, cX9_leastVisited, 3, (some .int))
theorem mX9_leastVisited : ax_mv kX9_leastVisited 1 := ⟨⟨wd_167, ax_in5 (List.mem_of_getElem? (i := 235) rfl), by decide +kernel, by decide +kernel, by decide⟩, ax_in5 (List.mem_of_getElem? (i := 234) rfl), ax_ps6 (List.mem_of_getElem? (i := 15) rfl)⟩
abbrev kX9_greatestVisited : ax_K := (yX9_greatestVisited, cX9_greatestVisited, 3, (some .int))
theorem mX9_greatestVisited : ax_mv kX9_greatestVisited 1 := ⟨⟨wd_167, ax_in5 (List.mem_of_getElem? (i := 239) rfl), by decide +kernel, by decide +kernel, by decide⟩, ax_in5 (List.mem_of_getElem? (i := 238) rfl), ax_ps7 (List.mem_of_getElem? (i := 0) rfl)⟩
abbrev kX9_safe : ax_K := (yX9_safe, cX9_safe, 6, (some .int))
theorem mX9_safe : ax_mv kX9_safe 2 := ⟨⟨wd_167, ax_in6 (List.mem_of_getElem? (i := 6) rfl), by decide +kernel, by decide +kernel, by decide⟩, ax_in6 (List.mem_of_getElem? (i := 4) rfl), ax_in6 (List.mem_of_getElem? (i := 5) rfl)⟩
abbrev kX9_loaded : ax_K := (yX9_loaded, cX9_loaded, 11, (some .long))
theorem mX9_loaded : ax_mv kX9_loaded 4 := ⟨⟨wd_167, ax_in6 (List.mem_of_getElem? (i := 14) rfl), by decide +kernel, by decide +kernel, by decide⟩, ax_in6 (List.mem_of_getElem? (i := 12) rfl), ax_in6 (List.mem_of_getElem? (i := 13) rfl)⟩
abbrev kX9_power : ax_K := (yX9_power, cX9_power, 5, (some .long))
theorem mX9_power : ax_ms kX9_power 2 := ⟨⟨wd_167, ax_in6 (List.mem_of_getElem? (i := 17) rfl), by decide +kernel, by decide +kernel, by decide⟩, ax_in6 (List.mem_of_getElem? (i := 16) rfl)⟩
abbrev kX9_commonDivisor : ax_K := (yX9_commonDivisor, cX9_commonDivisor, 11, (some .long))
theorem mX9_commonDivisor : ax_ms kX9_commonDivisor 2 := ⟨⟨wd_167, ax_in6 (List.mem_of_getElem? (i := 20) rfl), by decide +kernel, by decide +kernel, by decide⟩, ax_in6 (List.mem_of_getElem? (i := 19) rfl)⟩
abbrev kX9_blinds : ax_K := (yX9_blinds, cX9_blinds, 2, (some .int))
theorem mX9_blinds : ax_mv kX9_blinds 1 := ⟨⟨wd_167, ax_in6 (List.mem_of_getElem? (i := 27) rfl), by decide +kernel, by decide +kernel, by decide⟩, ax_in6 (List.mem_of_getElem? (i := 25) rfl), ax_in6 (List.mem_of_getElem? (i := 26) rfl)⟩
abbrev kX9_old : ax_K := (yX9_old, cX9_old, 3, (some .int))
theorem mX9_old : ax_mv kX9_old 1 := ⟨⟨wd_167, ax_in6 (List.mem_of_getElem? (i := 35) rfl), by decide +kernel, by decide +kernel, by decide⟩, ax_in6 (List.mem_of_getElem? (i := 33) rfl), ax_in6 (List.mem_of_getElem? (i := 34) rfl)⟩
abbrev kX9_between : ax_K := (yX9_between, cX9_between, 3, (some .boolean))
theorem mX9_between : ax_mv kX9_between 2 := ⟨⟨wd_167, ax_in6 (List.mem_of_getElem? (i := 42) rfl), by decide +kernel, by decide +kernel, by decide⟩, ax_in6 (List.mem_of_getElem? (i := 40) rfl), ax_in6 (List.mem_of_getElem? (i := 41) rfl)⟩
abbrev kX9_gets : ax_K := (yX9_gets, cX9_gets, 3, (some .int))
theorem mX9_gets : ax_mv kX9_gets 2 := ⟨⟨wd_167, ax_in6 (List.mem_of_getElem? (i := 49) rfl), by decide +kernel, by decide +kernel, by decide⟩, ax_in6 (List.mem_of_getElem? (i := 47) rfl), ax_in6 (List.mem_of_getElem? (i := 48) rfl)⟩
abbrev kX9_gain : ax_K := (yX9_gain, cX9_gain, 3, (some .int))
theorem mX9_gain : ax_ms kX9_gain 2 := ⟨⟨wd_167, ax_in6 (List.mem_of_getElem? (i := 52) rfl), by decide +kernel, by decide +kernel, by decide⟩, ax_in6 (List.mem_of_getElem? (i := 51) rfl)⟩
abbrev kX9_bulbs : ax_K := (yX9_bulbs, cX9_bulbs, 5, (some .int))
theorem mX9_bulbs : ax_mv kX9_bulbs 2 := ⟨⟨wd_167, ax_in6 (List.mem_of_getElem? (i := 59) rfl), by decide +kernel, by decide +kernel, by decide⟩, ax_in6 (List.mem_of_getElem? (i := 57) rfl), ax_in6 (List.mem_of_getElem? (i := 58) rfl)⟩
abbrev kX9_distances : ax_K := (yX9_distances, cX9_distances, 1, (some .long))
theorem mX9_distances : ax_mv kX9_distances 0 := ⟨⟨wd_167, ax_in6 (List.mem_of_getElem? (i := 66) rfl), by decide +kernel, by decide +kernel, by decide⟩, ax_in6 (List.mem_of_getElem? (i := 64) rfl), ax_in6 (List.mem_of_getElem? (i := 65) rfl)⟩
abbrev kX9_distanceBits : ax_K := (yX9_distanceBits, cX9_distanceBits, 5, (some .long))
theorem mX9_distanceBits : ax_mv kX9_distanceBits 1 := ⟨⟨wd_167, ax_in6 (List.mem_of_getElem? (i := 70) rfl), by decide +kernel, by decide +kernel, by decide⟩, ax_in6 (List.mem_of_getElem? (i := 69) rfl), ax_ps7 (List.mem_of_getElem? (i := 1) rfl)⟩
abbrev kX9_bookFits : ax_K := (yX9_bookFits, cX9_bookFits, 5, (some .boolean))
theorem mX9_bookFits : ax_mv kX9_bookFits 2 := ⟨⟨wd_167, ax_in6 (List.mem_of_getElem? (i := 74) rfl), by decide +kernel, by decide +kernel, by decide⟩, ax_in6 (List.mem_of_getElem? (i := 73) rfl), ax_ps7 (List.mem_of_getElem? (i := 2) rfl)⟩
abbrev kX9_look : ax_K := (yX9_look, cX9_look, 9, (some .int))
theorem mX9_look : ax_mv kX9_look 1 := ⟨⟨wd_167, ax_in6 (List.mem_of_getElem? (i := 82) rfl), by decide +kernel, by decide +kernel, by decide⟩, ax_in6 (List.mem_of_getElem? (i := 80) rfl), ax_in6 (List.mem_of_getElem? (i := 81) rfl)⟩
abbrev kX9_worstLeft : ax_K := (yX9_worstLeft, cX9_worstLeft, 8, (some .int))
theorem mX9_worstLeft : ax_ms kX9_worstLeft 3 := ⟨⟨wd_167, ax_in6 (List.mem_of_getElem? (i := 85) rfl), by decide +kernel, by decide +kernel, by decide⟩, ax_in6 (List.mem_of_getElem? (i := 84) rfl)⟩
abbrev kX9_right : ax_K := (yX9_right, cX9_right, 4, (some .int))
theorem mX9_right : ax_mv kX9_right 0 := ⟨⟨wd_167, ax_in6 (List.mem_of_getElem? (i := 93) rfl), by decide +kernel, by decide +kernel, by decide⟩, ax_in6 (List.mem_of_getElem? (i := 91) rfl), ax_in6 (List.mem_of_getElem? (i := 92) rfl)⟩
abbrev kX9_nights : ax_K := (yX9_nights, cX9_nights, 16, (some .int))
theorem mX9_nights : ax_mv kX9_nights 3 := ⟨⟨wd_167, ax_in6 (List.mem_of_getElem? (i := 100) rfl), by decide +kernel, by decide +kernel, by decide⟩, ax_in6 (List.mem_of_getElem? (i := 98) rfl), ax_in6 (List.mem_of_getElem? (i := 99) rfl)⟩
abbrev kX9_darkest : ax_K := (yX9_darkest, cX9_darkest, 6, (some .int))
theorem mX9_darkest : ax_mv kX9_darkest 1 := ⟨⟨wd_167, ax_in6 (List.mem_of_getElem? (i := 116) rfl), by decide +kernel, by decide +kernel, by decide⟩, ax_in6 (List.mem_of_getElem? (i := 114) rfl), ax_in6 (List.mem_of_getElem? (i := 115) rfl)⟩
abbrev kX9_dark : ax_K := (yX9_dark, cX9_dark, 5, (some .int))
theorem mX9_dark : ax_mv kX9_dark 2 := ⟨⟨wd_167, ax_in6 (List.mem_of_getElem? (i := 128) rfl), by decide +kernel, by decide +kernel, by decide⟩, ax_in6 (List.mem_of_getElem? (i := 126) rfl), ax_in6 (List.mem_of_getElem? (i := 127) rfl)⟩
abbrev kX9_dips : ax_K := (yX9_dips, cX9_dips, 5, (some .int))
theorem mX9_dips : ax_mv kX9_dips 2 := ⟨⟨wd_167, ax_in6 (List.mem_of_getElem? (i := 135) rfl), by decide +kernel, by decide +kernel, by decide⟩, ax_in6 (List.mem_of_getElem? (i := 133) rfl), ax_in6 (List.mem_of_getElem? (i := 134) rfl)⟩
abbrev kX9_gap : ax_K := (yX9_gap, cX9_gap, 8, (some .int))
theorem mX9_gap : ax_mv kX9_gap 2 := ⟨⟨wd_167, ax_in6 (List.mem_of_getElem? (i := 146) rfl), by decide +kernel, by decide +kernel, by decide⟩, ax_in6 (List.mem_of_getElem? (i := 144) rfl), ax_in6 (List.mem_of_getElem? (i := 145) rfl)⟩
abbrev kX9_needs : ax_K := (yX9_needs, cX9_needs, 3, (some .int))
theorem mX9_needs : ax_mv kX9_needs 1 := ⟨⟨wd_167, ax_in6 (List.mem_of_getElem? (i := 153) rfl), by decide +kernel, by decide +kernel, by decide⟩, ax_in6 (List.mem_of_getElem? (i := 151) rfl), ax_in6 (List.mem_of_getElem? (i := 152) rfl)⟩
abbrev kX9_clear : ax_K := (yX9_clear, cX9_clear, 6, (some .int))
theorem mX9_clear : ax_mv kX9_clear 1 := ⟨⟨wd_167, ax_in6 (List.mem_of_getElem? (i := 160) rfl), by decide +kernel, by decide +kernel, by decide⟩, ax_in6 (List.mem_of_getElem? (i := 158) rfl), ax_in6 (List.mem_of_getElem? (i := 159) rfl)⟩
abbrev kX9_paces : ax_K := (yX9_paces, cX9_paces, 11, (some .int))
theorem mX9_paces : ax_mv kX9_paces 1 := ⟨⟨wd_167, ax_in6 (List.mem_of_getElem? (i := 167) rfl), by decide +kernel, by decide +kernel, by decide⟩, ax_in6 (List.mem_of_getElem? (i := 165) rfl), ax_in6 (List.mem_of_getElem? (i := 166) rfl)⟩
abbrev kX9_finds : ax_K := (yX9_finds, cX9_finds, 9, (some .int))
theorem mX9_finds : ax_mv kX9_finds 2 := ⟨⟨wd_167, ax_in6 (List.mem_of_getElem? (i := 178) rfl), by decide +kernel, by decide +kernel, by decide⟩, ax_in6 (List.mem_of_getElem? (i := 176) rfl), ax_in6 (List.mem_of_getElem? (i := 177) rfl)⟩
abbrev kX9_drives : ax_K := (yX9_drives, cX9_drives, 4, (some .int))
theorem mX9_drives : ax_mv kX9_drives 3 := ⟨⟨wd_167, ax_in6 (List.mem_of_getElem? (i := 185) rfl), by decide +kernel, by decide +kernel, by decide⟩, ax_in6 (List.mem_of_getElem? (i := 183) rfl), ax_in6 (List.mem_of_getElem? (i := 184) rfl)⟩
abbrev kX9_stands : ax_K := (yX9_stands, cX9_stands, 4, (some .int))
theorem mX9_stands : ax_mv kX9_stands 3 := ⟨⟨wd_167, ax_in6 (List.mem_of_getElem? (i := 206) rfl), by decide +kernel, by decide +kernel, by decide⟩, ax_in6 (List.mem_of_getElem? (i := 204) rfl), ax_in6 (List.mem_of_getElem? (i := 205) rfl)⟩
abbrev kX9_weather : ax_K := (yX9_weather, cX9_weather, 3, (some .int))
theorem mX9_weather : ax_mv kX9_weather 2 := ⟨⟨wd_167, ax_in6 (List.mem_of_getElem? (i := 213) rfl), by decide +kernel, by decide +kernel, by decide⟩, ax_in6 (List.mem_of_getElem? (i := 211) rfl), ax_in6 (List.mem_of_getElem? (i := 212) rfl)⟩
abbrev kX9_change : ax_K := (yX9_change, cX9_change, 5, (some .int))
theorem mX9_change : ax_mv kX9_change 4 := ⟨⟨wd_167, ax_in6 (List.mem_of_getElem? (i := 189) rfl), by decide +kernel, by decide +kernel, by decide⟩, ax_in6 (List.mem_of_getElem? (i := 188) rfl), ax_ps7 (List.mem_of_getElem? (i := 8) rfl)⟩
abbrev kX9_undo : ax_K := (yX9_undo, cX9_undo, 1, (some .int))
theorem mX9_undo : ax_mv kX9_undo 0 := ⟨⟨wd_167, ax_in3 (List.mem_of_getElem? (i := 87) rfl), by decide +kernel, by decide +kernel, by decide⟩, ax_in3 (List.mem_of_getElem? (i := 85) rfl), ax_in3 (List.mem_of_getElem? (i := 86) rfl)⟩
abbrev kX9_image : ax_K := (yX9_image, cX9_image, 1, (some .int))
theorem mX9_image : ax_mv kX9_image 0 := ⟨⟨wd_167, ax_in3 (List.mem_of_getElem? (i := 102) rfl), by decide +kernel, by decide +kernel, by decide⟩, ax_in3 (List.mem_of_getElem? (i := 100) rfl), ax_in3 (List.mem_of_getElem? (i := 101) rfl)⟩
abbrev kX9_restore : ax_K := (yX9_restore, cX9_restore, 1, (some .int))
theorem mX9_restore : ax_mv kX9_restore 0 := ⟨⟨wd_167, ax_in3 (List.mem_of_getElem? (i := 116) rfl), by decide +kernel, by decide +kernel, by decide⟩, ax_in3 (List.mem_of_getElem? (i := 114) rfl), ax_in3 (List.mem_of_getElem? (i := 115) rfl)⟩
abbrev kX9_status : ax_K := (yX9_status, cX9_status, 2, (some .int))
theorem mX9_status : ax_mv kX9_status 1 := ⟨⟨wd_167, ax_in3 (List.mem_of_getElem? (i := 127) rfl), by decide +kernel, by decide +kernel, by decide⟩, ax_in3 (List.mem_of_getElem? (i := 125) rfl), ax_in3 (List.mem_of_getElem? (i := 126) rfl)⟩
abbrev kX9_count : ax_K := (yX9_count, cX9_count, 2, (some .int))
theorem mX9_count : ax_mv kX9_count 1 := ⟨⟨wd_167, ax_in3 (List.mem_of_getElem? (i := 131) rfl), by decide +kernel, by decide +kernel, by decide⟩, ax_in3 (List.mem_of_getElem? (i := 129) rfl), ax_in3 (List.mem_of_getElem? (i := 130) rfl)⟩
abbrev kX9_needElement : ax_K := (yX9_needElement, cX9_needElement, 2, none)
theorem mX9_needElement : ax_mv kX9_needElement 1 := ⟨⟨wd_167, ax_in4 (List.mem_of_getElem? (i := 183) rfl), by decide +kernel, by decide +kernel, by decide⟩, ax_in4 (List.mem_of_getElem? (i := 182) rfl), ax_ps4 (List.mem_of_getElem? (i := 13) rfl)⟩
abbrev kX9_needCar : ax_K := (yX9_needCar, cX9_needCar, 2, none)
theorem mX9_needCar : ax_mv kX9_needCar 1 := ⟨⟨wd_167, ax_in5 (List.mem_of_getElem? (i := 13) rfl), by decide +kernel, by decide +kernel, by decide⟩, ax_in5 (List.mem_of_getElem? (i := 12) rfl), ax_ps5 (List.mem_of_getElem? (i := 4) rfl)⟩
abbrev kX9_needCoat : ax_K := (yX9_needCoat, cX9_needCoat, 2, none)
theorem mX9_needCoat : ax_mv kX9_needCoat 1 := ⟨⟨wd_167, ax_in5 (List.mem_of_getElem? (i := 25) rfl), by decide +kernel, by decide +kernel, by decide⟩, ax_in5 (List.mem_of_getElem? (i := 24) rfl), ax_ps5 (List.mem_of_getElem? (i := 5) rfl)⟩
abbrev kX9_needArgument : ax_K := (yX9_needArgument, cX9_needArgument, 2, none)
theorem mX9_needArgument : ax_mv kX9_needArgument 1 := ⟨⟨wd_167, ax_in3 (List.mem_of_getElem? (i := 147) rfl), by decide +kernel, by decide +kernel, by decide⟩, ax_in3 (List.mem_of_getElem? (i := 146) rfl), ax_ps3 (List.mem_of_getElem? (i := 3) rfl)⟩
abbrev kX9_needRange : ax_K := (yX9_needRange, cX9_needRange, 4, none)
theorem mX9_needRange : ax_mv kX9_needRange 3 := ⟨⟨wd_167, ax_in4 (List.mem_of_getElem? (i := 238) rfl), by decide +kernel, by decide +kernel, by decide⟩, ax_in4 (List.mem_of_getElem? (i := 237) rfl), ax_ps5 (List.mem_of_getElem? (i := 2) rfl)⟩
abbrev kX9_needTwoCars : ax_K := (yX9_needTwoCars, cX9_needTwoCars, 1, none)
theorem mX9_needTwoCars : ax_mv kX9_needTwoCars 0 := ⟨⟨wd_167, ax_in5 (List.mem_of_getElem? (i := 131) rfl), by decide +kernel, by decide +kernel, by decide⟩, ax_in5 (List.mem_of_getElem? (i := 130) rfl), ax_ps6 (List.mem_of_getElem? (i := 3) rfl)⟩
abbrev kX10_init : ax_K := (yX10_init, cX10_init, 1, none)
theorem mX10_init : ax_mi kX10_init 0 := ⟨⟨wd_177, ax_in6 (List.mem_of_getElem? (i := 218) rfl), by decide +kernel, by decide +kernel, by decide⟩, ax_in6 (List.mem_of_getElem? (i := 217) rfl), rfl⟩
abbrev kX10_tellsNothing : ax_K := (yX10_tellsNothing, cX10_tellsNothing, 2, none)
theorem mX10_tellsNothing : ax_mv kX10_tellsNothing 0 := ⟨⟨wd_177, ax_in6 (List.mem_of_getElem? (i := 226) rfl), by decide +kernel, by decide +kernel, by decide⟩, ax_in6 (List.mem_of_getElem? (i := 225) rfl), ax_ps7 (List.mem_of_getElem? (i := 10) rfl)⟩
abbrev kX10_thrown : ax_K := (yX10_thrown, cX10_thrown, 1, (some .int))
theorem mX10_thrown : ax_mv kX10_thrown 0 := ⟨⟨wd_177, ax_in7 (List.mem_of_getElem? (i := 157) rfl), by decide +kernel, by decide +kernel, by decide⟩, ax_in7 (List.mem_of_getElem? (i := 155) rfl), ax_in7 (List.mem_of_getElem? (i := 156) rfl)⟩
abbrev kX10_bad : ax_K := (yX10_bad, cX10_bad, 4, (some .boolean))
theorem mX10_bad : ax_mv kX10_bad 3 := ⟨⟨wd_177, ax_in7 (List.mem_of_getElem? (i := 172) rfl), by decide +kernel, by decide +kernel, by decide⟩, ax_in7 (List.mem_of_getElem? (i := 171) rfl), ax_ps7 (List.mem_of_getElem? (i := 12) rfl)⟩
abbrev kX10_in : ax_K := (yX10_in, cX10_in, 3, (some .boolean))
theorem mX10_in : ax_ms kX10_in 3 := ⟨⟨wd_177, ax_in7 (List.mem_of_getElem? (i := 168) rfl), by decide +kernel, by decide +kernel, by decide⟩, ax_in7 (List.mem_of_getElem? (i := 167) rfl)⟩
abbrev kX10_less : ax_K := (yX10_less, cX10_less, 2, (some .int))
theorem mX10_less : ax_ms kX10_less 2 := ⟨⟨wd_177, ax_in8 (List.mem_of_getElem? (i := 61) rfl), by decide +kernel, by decide +kernel, by decide⟩, ax_in8 (List.mem_of_getElem? (i := 60) rfl)⟩
abbrev kX10_more : ax_K := (yX10_more, cX10_more, 2, (some .int))
theorem mX10_more : ax_ms kX10_more 2 := ⟨⟨wd_177, ax_in8 (List.mem_of_getElem? (i := 64) rfl), by decide +kernel, by decide +kernel, by decide⟩, ax_in8 (List.mem_of_getElem? (i := 63) rfl)⟩
abbrev kX10_far : ax_K := (yX10_far, cX10_far, 2, (some .int))
theorem mX10_far : ax_ms kX10_far 2 := ⟨⟨wd_177, ax_in8 (List.mem_of_getElem? (i := 119) rfl), by decide +kernel, by decide +kernel, by decide⟩, ax_in8 (List.mem_of_getElem? (i := 118) rfl)⟩
abbrev kX10_feed : ax_K := (yX10_feed, cX10_feed, 8, (some .int))
theorem mX10_feed : ax_mv kX10_feed 5 := ⟨⟨wd_177, ax_in7 (List.mem_of_getElem? (i := 161) rfl), by decide +kernel, by decide +kernel, by decide⟩, ax_in7 (List.mem_of_getElem? (i := 159) rfl), ax_in7 (List.mem_of_getElem? (i := 160) rfl)⟩
abbrev kX10_byteAt : ax_K := (yX10_byteAt, cX10_byteAt, 2, (some .int))
theorem mX10_byteAt : ax_mv kX10_byteAt 1 := ⟨⟨wd_177, ax_in7 (List.mem_of_getElem? (i := 184) rfl), by decide +kernel, by decide +kernel, by decide⟩, ax_in7 (List.mem_of_getElem? (i := 183) rfl), ax_ps7 (List.mem_of_getElem? (i := 15) rfl)⟩
abbrev kX10_blanks : ax_K := (yX10_blanks, cX10_blanks, 1, none)
theorem mX10_blanks : ax_mv kX10_blanks 0 := ⟨⟨wd_177, ax_in7 (List.mem_of_getElem? (i := 180) rfl), by decide +kernel, by decide +kernel, by decide⟩, ax_in7 (List.mem_of_getElem? (i := 179) rfl), ax_ps7 (List.mem_of_getElem? (i := 14) rfl)⟩
abbrev kX10_wrong : ax_K := (yX10_wrong, cX10_wrong, 3, none)
theorem mX10_wrong : ax_mv kX10_wrong 2 := ⟨⟨wd_177, ax_in7 (List.mem_of_getElem? (i := 210) rfl), by decide +kernel, by decide +kernel, by decide⟩, ax_in7 (List.mem_of_getElem? (i := 209) rfl), ax_ps8 (List.mem_of_getElem? (i := 4) rfl)⟩
abbrev kX10_isDigit : ax_K := (yX10_isDigit, cX10_isDigit, 1, (some .boolean))
theorem mX10_isDigit : ax_ms kX10_isDigit 1 := ⟨⟨wd_177, ax_in7 (List.mem_of_getElem? (i := 225) rfl), by decide +kernel, by decide +kernel, by decide⟩, ax_in7 (List.mem_of_getElem? (i := 224) rfl)⟩
abbrev kX10_isSmall : ax_K := (yX10_isSmall, cX10_isSmall, 1, (some .boolean))
theorem mX10_isSmall : ax_ms kX10_isSmall 1 := ⟨⟨wd_177, ax_in7 (List.mem_of_getElem? (i := 203) rfl), by decide +kernel, by decide +kernel, by decide⟩, ax_in7 (List.mem_of_getElem? (i := 202) rfl)⟩
abbrev kX10_number : ax_K := (yX10_number, cX10_number, 5, (some .int))
theorem mX10_number : ax_mv kX10_number 2 := ⟨⟨wd_177, ax_in7 (List.mem_of_getElem? (i := 222) rfl), by decide +kernel, by decide +kernel, by decide⟩, ax_in7 (List.mem_of_getElem? (i := 221) rfl), ax_ps8 (List.mem_of_getElem? (i := 7) rfl)⟩
abbrev kX10_wordHere : ax_K := (yX10_wordHere, cX10_wordHere, 3, (some .int))
theorem mX10_wordHere : ax_mv kX10_wordHere 0 := ⟨⟨wd_177, ax_in7 (List.mem_of_getElem? (i := 200) rfl), by decide +kernel, by decide +kernel, by decide⟩, ax_in7 (List.mem_of_getElem? (i := 199) rfl), ax_ps8 (List.mem_of_getElem? (i := 3) rfl)⟩
abbrev kX10_six : ax_K := (yX10_six, cX10_six, 7, (some .int))
theorem mX10_six : ax_ms kX10_six 6 := ⟨⟨wd_177, ax_in7 (List.mem_of_getElem? (i := 206) rfl), by decide +kernel, by decide +kernel, by decide⟩, ax_in7 (List.mem_of_getElem? (i := 205) rfl)⟩
abbrev kX10_isWord : ax_K := (yX10_isWord, cX10_isWord, 7, (some .boolean))
theorem mX10_isWord : ax_mv kX10_isWord 6 := ⟨⟨wd_177, ax_in7 (List.mem_of_getElem? (i := 196) rfl), by decide +kernel, by decide +kernel, by decide⟩, ax_in7 (List.mem_of_getElem? (i := 195) rfl), ax_ps8 (List.mem_of_getElem? (i := 2) rfl)⟩
abbrev kX10_skipWord : ax_K := (yX10_skipWord, cX10_skipWord, 1, none)
theorem mX10_skipWord : ax_mv kX10_skipWord 0 := ⟨⟨wd_177, ax_in7 (List.mem_of_getElem? (i := 218) rfl), by decide +kernel, by decide +kernel, by decide⟩, ax_in7 (List.mem_of_getElem? (i := 217) rfl), ax_ps8 (List.mem_of_getElem? (i := 6) rfl)⟩
abbrev kX10_takes : ax_K := (yX10_takes, cX10_takes, 8, (some .boolean))
theorem mX10_takes : ax_mv kX10_takes 6 := ⟨⟨wd_177, ax_in8 (List.mem_of_getElem? (i := 34) rfl), by decide +kernel, by decide +kernel, by decide⟩, ax_in8 (List.mem_of_getElem? (i := 33) rfl), ax_ps9 (List.mem_of_getElem? (i := 2) rfl)⟩
abbrev kX10_sign : ax_K := (yX10_sign, cX10_sign, 2, none)
theorem mX10_sign : ax_mv kX10_sign 1 := ⟨⟨wd_177, ax_in7 (List.mem_of_getElem? (i := 234) rfl), by decide +kernel, by decide +kernel, by decide⟩, ax_in7 (List.mem_of_getElem? (i := 233) rfl), ax_ps8 (List.mem_of_getElem? (i := 9) rfl)⟩
abbrev kX10_takesSign : ax_K := (yX10_takesSign, cX10_takesSign, 3, (some .boolean))
theorem mX10_takesSign : ax_mv kX10_takesSign 1 := ⟨⟨wd_177, ax_in8 (List.mem_of_getElem? (i := 38) rfl), by decide +kernel, by decide +kernel, by decide⟩, ax_in8 (List.mem_of_getElem? (i := 37) rfl), ax_ps9 (List.mem_of_getElem? (i := 3) rfl)⟩
abbrev kX10_starts : ax_K := (yX10_starts, cX10_starts, 2, none)
theorem mX10_starts : ax_mv kX10_starts 1 := ⟨⟨wd_177, ax_in7 (List.mem_of_getElem? (i := 176) rfl), by decide +kernel, by decide +kernel, by decide⟩, ax_in7 (List.mem_of_getElem? (i := 175) rfl), ax_ps7 (List.mem_of_getElem? (i := 13) rfl)⟩
abbrev kX10_ends : ax_K := (yX10_ends, cX10_ends, 1, (some .int))
theorem mX10_ends : ax_mv kX10_ends 0 := ⟨⟨wd_177, ax_in7 (List.mem_of_getElem? (i := 238) rfl), by decide +kernel, by decide +kernel, by decide⟩, ax_in7 (List.mem_of_getElem? (i := 237) rfl), ax_ps8 (List.mem_of_getElem? (i := 10) rfl)⟩
abbrev kX10_kindHere : ax_K := (yX10_kindHere, cX10_kindHere, 1, (some .int))
theorem mX10_kindHere : ax_mv kX10_kindHere 0 := ⟨⟨wd_177, ax_in7 (List.mem_of_getElem? (i := 192) rfl), by decide +kernel, by decide +kernel, by decide⟩, ax_in7 (List.mem_of_getElem? (i := 191) rfl), ax_ps8 (List.mem_of_getElem? (i := 1) rfl)⟩
abbrev kX10_isFull : ax_K := (yX10_isFull, cX10_isFull, 2, (some .boolean))
theorem mX10_isFull : ax_mv kX10_isFull 1 := ⟨⟨wd_177, ax_in7 (List.mem_of_getElem? (i := 214) rfl), by decide +kernel, by decide +kernel, by decide⟩, ax_in7 (List.mem_of_getElem? (i := 213) rfl), ax_ps8 (List.mem_of_getElem? (i := 5) rfl)⟩
abbrev kX10_cellHere : ax_K := (yX10_cellHere, cX10_cellHere, 1, (some .int))
theorem mX10_cellHere : ax_mv kX10_cellHere 0 := ⟨⟨wd_177, ax_in7 (List.mem_of_getElem? (i := 230) rfl), by decide +kernel, by decide +kernel, by decide⟩, ax_in7 (List.mem_of_getElem? (i := 229) rfl), ax_ps8 (List.mem_of_getElem? (i := 8) rfl)⟩
abbrev kX10_clause : ax_K := (yX10_clause, cX10_clause, 4, none)
theorem mX10_clause : ax_mv kX10_clause 0 := ⟨⟨wd_177, ax_in7 (List.mem_of_getElem? (i := 188) rfl), by decide +kernel, by decide +kernel, by decide⟩, ax_in7 (List.mem_of_getElem? (i := 187) rfl), ax_ps8 (List.mem_of_getElem? (i := 0) rfl)⟩
abbrev kX10_road : ax_K := (yX10_road, cX10_road, 2, (some .int))
theorem mX10_road : ax_mv kX10_road 1 := ⟨⟨wd_177, ax_in7 (List.mem_of_getElem? (i := 165) rfl), by decide +kernel, by decide +kernel, by decide⟩, ax_in7 (List.mem_of_getElem? (i := 163) rfl), ax_in7 (List.mem_of_getElem? (i := 164) rfl)⟩
abbrev kX10_copies : ax_K := (yX10_copies, cX10_copies, 4, none)
theorem mX10_copies : ax_ms kX10_copies 3 := ⟨⟨wd_177, ax_in6 (List.mem_of_getElem? (i := 233) rfl), by decide +kernel, by decide +kernel, by decide⟩, ax_in6 (List.mem_of_getElem? (i := 232) rfl)⟩
abbrev kX10_standsNow : ax_K := (yX10_standsNow, cX10_standsNow, 2, none)
theorem mX10_standsNow : ax_mv kX10_standsNow 0 := ⟨⟨wd_177, ax_in6 (List.mem_of_getElem? (i := 230) rfl), by decide +kernel, by decide +kernel, by decide⟩, ax_in6 (List.mem_of_getElem? (i := 229) rfl), ax_ps7 (List.mem_of_getElem? (i := 11) rfl)⟩
abbrev kX10_notes : ax_K := (yX10_notes, cX10_notes, 3, none)
theorem mX10_notes : ax_mv kX10_notes 2 := ⟨⟨wd_177, ax_in8 (List.mem_of_getElem? (i := 26) rfl), by decide +kernel, by decide +kernel, by decide⟩, ax_in8 (List.mem_of_getElem? (i := 25) rfl), ax_ps9 (List.mem_of_getElem? (i := 0) rfl)⟩
abbrev kX10_opens : ax_K := (yX10_opens, cX10_opens, 1, (some .boolean))
theorem mX10_opens : ax_mv kX10_opens 0 := ⟨⟨wd_177, ax_in8 (List.mem_of_getElem? (i := 22) rfl), by decide +kernel, by decide +kernel, by decide⟩, ax_in8 (List.mem_of_getElem? (i := 21) rfl), ax_ps8 (List.mem_of_getElem? (i := 15) rfl)⟩
abbrev kX10_sum : ax_K := (yX10_sum, cX10_sum, 2, none)
theorem mX10_sum : ax_mv kX10_sum 0 := ⟨⟨wd_177, ax_in8 (List.mem_of_getElem? (i := 10) rfl), by decide +kernel, by decide +kernel, by decide⟩, ax_in8 (List.mem_of_getElem? (i := 9) rfl), ax_ps8 (List.mem_of_getElem? (i := 12) rfl)⟩
abbrev kX10_product : ax_K := (yX10_product, cX10_product, 2, none)
theorem mX10_product : ax_mv kX10_product 0 := ⟨⟨wd_177, ax_in8 (List.mem_of_getElem? (i := 14) rfl), by decide +kernel, by decide +kernel, by decide⟩, ax_in8 (List.mem_of_getElem? (i := 13) rfl), ax_ps8 (List.mem_of_getElem? (i := 13) rfl)⟩
abbrev kX10_knownHere : ax_K := (yX10_knownHere, cX10_knownHere, 1, (some .int))
theorem mX10_knownHere : ax_mv kX10_knownHere 0 := ⟨⟨wd_177, ax_in8 (List.mem_of_getElem? (i := 30) rfl), by decide +kernel, by decide +kernel, by decide⟩, ax_in8 (List.mem_of_getElem? (i := 29) rfl), ax_ps9 (List.mem_of_getElem? (i := 1) rfl)⟩
abbrev kX10_one : ax_K := (yX10_one, cX10_one, 3, none)
theorem mX10_one : ax_mv kX10_one 0 := ⟨⟨wd_177, ax_in8 (List.mem_of_getElem? (i := 18) rfl), by decide +kernel, by decide +kernel, by decide⟩, ax_in8 (List.mem_of_getElem? (i := 17) rfl), ax_ps8 (List.mem_of_getElem? (i := 14) rfl)⟩
abbrev kX10_reads : ax_K := (yX10_reads, cX10_reads, 3, (some .int))
theorem mX10_reads : ax_mv kX10_reads 2 := ⟨⟨wd_177, ax_in8 (List.mem_of_getElem? (i := 6) rfl), by decide +kernel, by decide +kernel, by decide⟩, ax_in8 (List.mem_of_getElem? (i := 5) rfl), ax_ps8 (List.mem_of_getElem? (i := 11) rfl)⟩
abbrev kX10_law : ax_K := (yX10_law, cX10_law, 2, (some .int))
theorem mX10_law : ax_mv kX10_law 1 := ⟨⟨wd_177, ax_in8 (List.mem_of_getElem? (i := 2) rfl), by decide +kernel, by decide +kernel, by decide⟩, ax_in8 (List.mem_of_getElem? (i := 0) rfl), ax_in8 (List.mem_of_getElem? (i := 1) rfl)⟩
abbrev kX10_rule : ax_K := (yX10_rule, cX10_rule, 3, (some .int))
theorem mX10_rule : ax_mv kX10_rule 2 := ⟨⟨wd_177, ax_in8 (List.mem_of_getElem? (i := 42) rfl), by decide +kernel, by decide +kernel, by decide⟩, ax_in8 (List.mem_of_getElem? (i := 40) rfl), ax_in8 (List.mem_of_getElem? (i := 41) rfl)⟩
abbrev kX10_by : ax_K := (yX10_by, cX10_by, 3, (some .int))
theorem mX10_by : ax_ms kX10_by 3 := ⟨⟨wd_177, ax_in8 (List.mem_of_getElem? (i := 130) rfl), by decide +kernel, by decide +kernel, by decide⟩, ax_in8 (List.mem_of_getElem? (i := 129) rfl)⟩
abbrev kX10_worked : ax_K := (yX10_worked, cX10_worked, 7, (some .int))
theorem mX10_worked : ax_mv kX10_worked 1 := ⟨⟨wd_177, ax_in8 (List.mem_of_getElem? (i := 127) rfl), by decide +kernel, by decide +kernel, by decide⟩, ax_in8 (List.mem_of_getElem? (i := 126) rfl), ax_ps10 (List.mem_of_getElem? (i := 0) rfl)⟩
abbrev kX10_sightBy : ax_K := (yX10_sightBy, cX10_sightBy, 2, (some .int))
theorem mX10_sightBy : ax_mv kX10_sightBy 0 := ⟨⟨wd_177, ax_in8 (List.mem_of_getElem? (i := 142) rfl), by decide +kernel, by decide +kernel, by decide⟩, ax_in8 (List.mem_of_getElem? (i := 141) rfl), ax_ps10 (List.mem_of_getElem? (i := 3) rfl)⟩
abbrev kX10_beamsBy : ax_K := (yX10_beamsBy, cX10_beamsBy, 3, (some .int))
theorem mX10_beamsBy : ax_mv kX10_beamsBy 1 := ⟨⟨wd_177, ax_in8 (List.mem_of_getElem? (i := 123) rfl), by decide +kernel, by decide +kernel, by decide⟩, ax_in8 (List.mem_of_getElem? (i := 122) rfl), ax_ps9 (List.mem_of_getElem? (i := 15) rfl)⟩
abbrev kX10_book : ax_K := (yX10_book, cX10_book, 6, (some .int))
theorem mX10_book : ax_mv kX10_book 1 := ⟨⟨wd_177, ax_in8 (List.mem_of_getElem? (i := 46) rfl), by decide +kernel, by decide +kernel, by decide⟩, ax_in8 (List.mem_of_getElem? (i := 44) rfl), ax_in8 (List.mem_of_getElem? (i := 45) rfl)⟩
abbrev kX10_fault : ax_K := (yX10_fault, cX10_fault, 1, (some .int))
theorem mX10_fault : ax_mv kX10_fault 0 := ⟨⟨wd_177, ax_in8 (List.mem_of_getElem? (i := 50) rfl), by decide +kernel, by decide +kernel, by decide⟩, ax_in8 (List.mem_of_getElem? (i := 48) rfl), ax_in8 (List.mem_of_getElem? (i := 49) rfl)⟩
abbrev kX10_paceOf : ax_K := (yX10_paceOf, cX10_paceOf, 2, (some .int))
theorem mX10_paceOf : ax_mv kX10_paceOf 1 := ⟨⟨wd_177, ax_in8 (List.mem_of_getElem? (i := 80) rfl), by decide +kernel, by decide +kernel, by decide⟩, ax_in8 (List.mem_of_getElem? (i := 79) rfl), ax_ps9 (List.mem_of_getElem? (i := 7) rfl)⟩
abbrev kX10_tiltOf : ax_K := (yX10_tiltOf, cX10_tiltOf, 2, (some .int))
theorem mX10_tiltOf : ax_mv kX10_tiltOf 1 := ⟨⟨wd_177, ax_in8 (List.mem_of_getElem? (i := 84) rfl), by decide +kernel, by decide +kernel, by decide⟩, ax_in8 (List.mem_of_getElem? (i := 83) rfl), ax_ps9 (List.mem_of_getElem? (i := 8) rfl)⟩
abbrev kX10_isWet : ax_K := (yX10_isWet, cX10_isWet, 3, (some .boolean))
theorem mX10_isWet : ax_mv kX10_isWet 1 := ⟨⟨wd_177, ax_in8 (List.mem_of_getElem? (i := 68) rfl), by decide +kernel, by decide +kernel, by decide⟩, ax_in8 (List.mem_of_getElem? (i := 67) rfl), ax_ps9 (List.mem_of_getElem? (i := 5) rfl)⟩
abbrev kX10_isBendBetween : ax_K := (yX10_isBendBetween, cX10_isBendBetween, 4, (some .boolean))
theorem mX10_isBendBetween : ax_mv kX10_isBendBetween 2 := ⟨⟨wd_177, ax_in8 (List.mem_of_getElem? (i := 58) rfl), by decide +kernel, by decide +kernel, by decide⟩, ax_in8 (List.mem_of_getElem? (i := 57) rfl), ax_ps9 (List.mem_of_getElem? (i := 4) rfl)⟩
abbrev kX10_isOn : ax_K := (yX10_isOn, cX10_isOn, 2, (some .boolean))
theorem mX10_isOn : ax_mv kX10_isOn 1 := ⟨⟨wd_177, ax_in8 (List.mem_of_getElem? (i := 108) rfl), by decide +kernel, by decide +kernel, by decide⟩, ax_in8 (List.mem_of_getElem? (i := 107) rfl), ax_ps9 (List.mem_of_getElem? (i := 12) rfl)⟩
abbrev kX10_stopOf : ax_K := (yX10_stopOf, cX10_stopOf, 3, (some .int))
theorem mX10_stopOf : ax_mv kX10_stopOf 2 := ⟨⟨wd_177, ax_in8 (List.mem_of_getElem? (i := 146) rfl), by decide +kernel, by decide +kernel, by decide⟩, ax_in8 (List.mem_of_getElem? (i := 145) rfl), ax_ps10 (List.mem_of_getElem? (i := 4) rfl)⟩
abbrev kX10_blindsFor : ax_K := (yX10_blindsFor, cX10_blindsFor, 2, (some .int))
theorem mX10_blindsFor : ax_mv kX10_blindsFor 1 := ⟨⟨wd_177, ax_in8 (List.mem_of_getElem? (i := 134) rfl), by decide +kernel, by decide +kernel, by decide⟩, ax_in8 (List.mem_of_getElem? (i := 133) rfl), ax_ps10 (List.mem_of_getElem? (i := 1) rfl)⟩
abbrev kX10_knows : ax_K := (yX10_knows, cX10_knows, 7, none)
theorem mX10_knows : ax_mv kX10_knows 6 := ⟨⟨wd_177, ax_in8 (List.mem_of_getElem? (i := 116) rfl), by decide +kernel, by decide +kernel, by decide⟩, ax_in8 (List.mem_of_getElem? (i := 115) rfl), ax_ps9 (List.mem_of_getElem? (i := 14) rfl)⟩
abbrev kX10_meets : ax_K := (yX10_meets, cX10_meets, 5, none)
theorem mX10_meets : ax_mv kX10_meets 2 := ⟨⟨wd_177, ax_in8 (List.mem_of_getElem? (i := 104) rfl), by decide +kernel, by decide +kernel, by decide⟩, ax_in8 (List.mem_of_getElem? (i := 103) rfl), ax_ps9 (List.mem_of_getElem? (i := 11) rfl)⟩
abbrev kX10_goesTenth : ax_K := (yX10_goesTenth, cX10_goesTenth, 7, none)
theorem mX10_goesTenth : ax_mv kX10_goesTenth 2 := ⟨⟨wd_177, ax_in8 (List.mem_of_getElem? (i := 112) rfl), by decide +kernel, by decide +kernel, by decide⟩, ax_in8 (List.mem_of_getElem? (i := 111) rfl), ax_ps9 (List.mem_of_getElem? (i := 13) rfl)⟩
abbrev kX10_looksOut : ax_K := (yX10_looksOut, cX10_looksOut, 13, none)
theorem mX10_looksOut : ax_mv kX10_looksOut 4 := ⟨⟨wd_177, ax_in8 (List.mem_of_getElem? (i := 138) rfl), by decide +kernel, by decide +kernel, by decide⟩, ax_in8 (List.mem_of_getElem? (i := 137) rfl), ax_ps10 (List.mem_of_getElem? (i := 2) rfl)⟩
abbrev kX10_leaves : ax_K := (yX10_leaves, cX10_leaves, 2, none)
theorem mX10_leaves : ax_mv kX10_leaves 0 := ⟨⟨wd_177, ax_in8 (List.mem_of_getElem? (i := 150) rfl), by decide +kernel, by decide +kernel, by decide⟩, ax_in8 (List.mem_of_getElem? (i := 149) rfl), ax_ps10 (List.mem_of_getElem? (i := 5) rfl)⟩
abbrev kX10_asTold : ax_K := (yX10_asTold, cX10_asTold, 1, none)
theorem mX10_asTold : ax_mv kX10_asTold 0 := ⟨⟨wd_177, ax_in8 (List.mem_of_getElem? (i := 100) rfl), by decide +kernel, by decide +kernel, by decide⟩, ax_in8 (List.mem_of_getElem? (i := 99) rfl), ax_ps9 (List.mem_of_getElem? (i := 10) rfl)⟩
abbrev kX10_ones : ax_K := (yX10_ones, cX10_ones, 3, (some .int))
theorem mX10_ones : ax_ms kX10_ones 1 := ⟨⟨wd_177, ax_in8 (List.mem_of_getElem? (i := 197) rfl), by decide +kernel, by decide +kernel, by decide⟩, ax_in8 (List.mem_of_getElem? (i := 196) rfl)⟩
abbrev kX10_unsafeOf : ax_K := (yX10_unsafeOf, cX10_unsafeOf, 4, (some .int))
theorem mX10_unsafeOf : ax_mv kX10_unsafeOf 1 := ⟨⟨wd_177, ax_in8 (List.mem_of_getElem? (i := 174) rfl), by decide +kernel, by decide +kernel, by decide⟩, ax_in8 (List.mem_of_getElem? (i := 173) rfl), ax_ps10 (List.mem_of_getElem? (i := 6) rfl)⟩
abbrev kX10_costOf : ax_K := (yX10_costOf, cX10_costOf, 2, (some .int))
theorem mX10_costOf : ax_mv kX10_costOf 1 := ⟨⟨wd_177, ax_in8 (List.mem_of_getElem? (i := 194) rfl), by decide +kernel, by decide +kernel, by decide⟩, ax_in8 (List.mem_of_getElem? (i := 193) rfl), ax_ps10 (List.mem_of_getElem? (i := 9) rfl)⟩
abbrev kX10_told : ax_K := (yX10_told, cX10_told, 4, (some .int))
theorem mX10_told : ax_mv kX10_told 1 := ⟨⟨wd_177, ax_in8 (List.mem_of_getElem? (i := 54) rfl), by decide +kernel, by decide +kernel, by decide⟩, ax_in8 (List.mem_of_getElem? (i := 52) rfl), ax_in8 (List.mem_of_getElem? (i := 53) rfl)⟩
abbrev kX10_isCar : ax_K := (yX10_isCar, cX10_isCar, 2, (some .boolean))
theorem mX10_isCar : ax_mv kX10_isCar 1 := ⟨⟨wd_177, ax_in8 (List.mem_of_getElem? (i := 76) rfl), by decide +kernel, by decide +kernel, by decide⟩, ax_in8 (List.mem_of_getElem? (i := 75) rfl), ax_ps9 (List.mem_of_getElem? (i := 6) rfl)⟩
abbrev kX10_isCoat : ax_K := (yX10_isCoat, cX10_isCoat, 2, (some .boolean))
theorem mX10_isCoat : ax_mv kX10_isCoat 1 := ⟨⟨wd_177, ax_in8 (List.mem_of_getElem? (i := 92) rfl), by decide +kernel, by decide +kernel, by decide⟩, ax_in8 (List.mem_of_getElem? (i := 91) rfl), ax_ps9 (List.mem_of_getElem? (i := 9) rfl)⟩
abbrev kX10_car : ax_K := (yX10_car, cX10_car, 3, (some .int))
theorem mX10_car : ax_mv kX10_car 2 := ⟨⟨wd_177, ax_in8 (List.mem_of_getElem? (i := 72) rfl), by decide +kernel, by decide +kernel, by decide⟩, ax_in8 (List.mem_of_getElem? (i := 70) rfl), ax_in8 (List.mem_of_getElem? (i := 71) rfl)⟩
abbrev kX10_coat : ax_K := (yX10_coat, cX10_coat, 3, (some .int))
theorem mX10_coat : ax_mv kX10_coat 2 := ⟨⟨wd_177, ax_in8 (List.mem_of_getElem? (i := 88) rfl), by decide +kernel, by decide +kernel, by decide⟩, ax_in8 (List.mem_of_getElem? (i := 86) rfl), ax_in8 (List.mem_of_getElem? (i := 87) rfl)⟩
abbrev kX10_tenths : ax_K := (yX10_tenths, cX10_tenths, 1, (some .int))
theorem mX10_tenths : ax_mv kX10_tenths 0 := ⟨⟨wd_177, ax_in8 (List.mem_of_getElem? (i := 96) rfl), by decide +kernel, by decide +kernel, by decide⟩, ax_in8 (List.mem_of_getElem? (i := 94) rfl), ax_in8 (List.mem_of_getElem? (i := 95) rfl)⟩
abbrev kX10_at : ax_K := (yX10_at, cX10_at, 4, (some .int))
theorem mX10_at : ax_mv kX10_at 3 := ⟨⟨wd_177, ax_in8 (List.mem_of_getElem? (i := 154) rfl), by decide +kernel, by decide +kernel, by decide⟩, ax_in8 (List.mem_of_getElem? (i := 152) rfl), ax_in8 (List.mem_of_getElem? (i := 153) rfl)⟩
abbrev kX10_passes : ax_K := (yX10_passes, cX10_passes, 1, (some .int))
theorem mX10_passes : ax_mv kX10_passes 0 := ⟨⟨wd_177, ax_in8 (List.mem_of_getElem? (i := 158) rfl), by decide +kernel, by decide +kernel, by decide⟩, ax_in8 (List.mem_of_getElem? (i := 156) rfl), ax_in8 (List.mem_of_getElem? (i := 157) rfl)⟩
abbrev kX10_hits : ax_K := (yX10_hits, cX10_hits, 2, (some .int))
theorem mX10_hits : ax_mv kX10_hits 1 := ⟨⟨wd_177, ax_in8 (List.mem_of_getElem? (i := 162) rfl), by decide +kernel, by decide +kernel, by decide⟩, ax_in8 (List.mem_of_getElem? (i := 160) rfl), ax_in8 (List.mem_of_getElem? (i := 161) rfl)⟩
abbrev kX10_sees : ax_K := (yX10_sees, cX10_sees, 3, (some .int))
theorem mX10_sees : ax_mv kX10_sees 2 := ⟨⟨wd_177, ax_in8 (List.mem_of_getElem? (i := 166) rfl), by decide +kernel, by decide +kernel, by decide⟩, ax_in8 (List.mem_of_getElem? (i := 164) rfl), ax_in8 (List.mem_of_getElem? (i := 165) rfl)⟩
abbrev kX10_sums : ax_K := (yX10_sums, cX10_sums, 10, (some .int))
theorem mX10_sums : ax_mv kX10_sums 2 := ⟨⟨wd_177, ax_in8 (List.mem_of_getElem? (i := 170) rfl), by decide +kernel, by decide +kernel, by decide⟩, ax_in8 (List.mem_of_getElem? (i := 168) rfl), ax_in8 (List.mem_of_getElem? (i := 169) rfl)⟩
abbrev kX10_would : ax_K := (yX10_would, cX10_would, 6, (some .int))
theorem mX10_would : ax_mv kX10_would 4 := ⟨⟨wd_177, ax_in8 (List.mem_of_getElem? (i := 178) rfl), by decide +kernel, by decide +kernel, by decide⟩, ax_in8 (List.mem_of_getElem? (i := 176) rfl), ax_in8 (List.mem_of_getElem? (i := 177) rfl)⟩
abbrev kX10_notTwo : ax_K := (yX10_notTwo, cX10_notTwo, 2, (some .boolean))
theorem mX10_notTwo : ax_mv kX10_notTwo 1 := ⟨⟨wd_177, ax_in8 (List.mem_of_getElem? (i := 186) rfl), by decide +kernel, by decide +kernel, by decide⟩, ax_in8 (List.mem_of_getElem? (i := 185) rfl), ax_ps10 (List.mem_of_getElem? (i := 7) rfl)⟩
abbrev kX10_costBy : ax_K := (yX10_costBy, cX10_costBy, 4, (some .int))
theorem mX10_costBy : ax_mv kX10_costBy 3 := ⟨⟨wd_177, ax_in8 (List.mem_of_getElem? (i := 190) rfl), by decide +kernel, by decide +kernel, by decide⟩, ax_in8 (List.mem_of_getElem? (i := 189) rfl), ax_ps10 (List.mem_of_getElem? (i := 8) rfl)⟩
abbrev kX10_cost : ax_K := (yX10_cost, cX10_cost, 4, (some .int))
theorem mX10_cost : ax_mv kX10_cost 3 := ⟨⟨wd_177, ax_in8 (List.mem_of_getElem? (i := 182) rfl), by decide +kernel, by decide +kernel, by decide⟩, ax_in8 (List.mem_of_getElem? (i := 180) rfl), ax_in8 (List.mem_of_getElem? (i := 181) rfl)⟩
abbrev kX10_isRest : ax_K := (yX10_isRest, cX10_isRest, 5, (some .boolean))
theorem mX10_isRest : ax_mv kX10_isRest 3 := ⟨⟨wd_177, ax_in8 (List.mem_of_getElem? (i := 205) rfl), by decide +kernel, by decide +kernel, by decide⟩, ax_in8 (List.mem_of_getElem? (i := 204) rfl), ax_ps10 (List.mem_of_getElem? (i := 10) rfl)⟩
abbrev kX10_duel : ax_K := (yX10_duel, cX10_duel, 9, (some .int))
theorem mX10_duel : ax_mv kX10_duel 2 := ⟨⟨wd_177, ax_in8 (List.mem_of_getElem? (i := 201) rfl), by decide +kernel, by decide +kernel, by decide⟩, ax_in8 (List.mem_of_getElem? (i := 199) rfl), ax_in8 (List.mem_of_getElem? (i := 200) rfl)⟩
abbrev kX10_answer : ax_K := (yX10_answer, cX10_answer, 7, (some .int))
theorem mX10_answer : ax_mv kX10_answer 2 := ⟨⟨wd_177, ax_in8 (List.mem_of_getElem? (i := 209) rfl), by decide +kernel, by decide +kernel, by decide⟩, ax_in8 (List.mem_of_getElem? (i := 207) rfl), ax_in8 (List.mem_of_getElem? (i := 208) rfl)⟩
abbrev kX10_habitBehind : ax_K := (yX10_habitBehind, cX10_habitBehind, 4, (some .int))
theorem mX10_habitBehind : ax_mv kX10_habitBehind 1 := ⟨⟨wd_177, ax_in8 (List.mem_of_getElem? (i := 217) rfl), by decide +kernel, by decide +kernel, by decide⟩, ax_in8 (List.mem_of_getElem? (i := 216) rfl), ax_ps10 (List.mem_of_getElem? (i := 11) rfl)⟩
abbrev kX10_habit : ax_K := (yX10_habit, cX10_habit, 9, (some .int))
theorem mX10_habit : ax_mv kX10_habit 2 := ⟨⟨wd_177, ax_in8 (List.mem_of_getElem? (i := 213) rfl), by decide +kernel, by decide +kernel, by decide⟩, ax_in8 (List.mem_of_getElem? (i := 211) rfl), ax_in8 (List.mem_of_getElem? (i := 212) rfl)⟩
abbrev kX10_safe : ax_K := (yX10_safe, cX10_safe, 6, (some .int))
theorem mX10_safe : ax_mv kX10_safe 2 := ⟨⟨wd_177, ax_in8 (List.mem_of_getElem? (i := 221) rfl), by decide +kernel, by decide +kernel, by decide⟩, ax_in8 (List.mem_of_getElem? (i := 219) rfl), ax_in8 (List.mem_of_getElem? (i := 220) rfl)⟩
abbrev kX10_power : ax_K := (yX10_power, cX10_power, 6, (some .long))
theorem mX10_power : ax_ms kX10_power 2 := ⟨⟨wd_177, ax_in8 (List.mem_of_getElem? (i := 229) rfl), by decide +kernel, by decide +kernel, by decide⟩, ax_in8 (List.mem_of_getElem? (i := 228) rfl)⟩
abbrev kX10_loaded : ax_K := (yX10_loaded, cX10_loaded, 15, (some .long))
theorem mX10_loaded : ax_mv kX10_loaded 4 := ⟨⟨wd_177, ax_in8 (List.mem_of_getElem? (i := 225) rfl), by decide +kernel, by decide +kernel, by decide⟩, ax_in8 (List.mem_of_getElem? (i := 223) rfl), ax_in8 (List.mem_of_getElem? (i := 224) rfl)⟩
abbrev kX10_blinds : ax_K := (yX10_blinds, cX10_blinds, 2, (some .int))
theorem mX10_blinds : ax_mv kX10_blinds 1 := ⟨⟨wd_177, ax_in8 (List.mem_of_getElem? (i := 236) rfl), by decide +kernel, by decide +kernel, by decide⟩, ax_in8 (List.mem_of_getElem? (i := 234) rfl), ax_in8 (List.mem_of_getElem? (i := 235) rfl)⟩
abbrev kX10_old : ax_K := (yX10_old, cX10_old, 3, (some .int))
theorem mX10_old : ax_mv kX10_old 1 := ⟨⟨wd_177, ax_in9 (List.mem_of_getElem? (i := 0) rfl), by decide +kernel, by decide +kernel, by decide⟩, ax_in8 (List.mem_of_getElem? (i := 238) rfl), ax_in8 (List.mem_of_getElem? (i := 239) rfl)⟩
abbrev kX10_between : ax_K := (yX10_between, cX10_between, 3, (some .boolean))
theorem mX10_between : ax_mv kX10_between 2 := ⟨⟨wd_177, ax_in9 (List.mem_of_getElem? (i := 4) rfl), by decide +kernel, by decide +kernel, by decide⟩, ax_in9 (List.mem_of_getElem? (i := 2) rfl), ax_in9 (List.mem_of_getElem? (i := 3) rfl)⟩
abbrev kX10_getsBy : ax_K := (yX10_getsBy, cX10_getsBy, 3, (some .int))
theorem mX10_getsBy : ax_ms kX10_getsBy 2 := ⟨⟨wd_177, ax_in9 (List.mem_of_getElem? (i := 11) rfl), by decide +kernel, by decide +kernel, by decide⟩, ax_in9 (List.mem_of_getElem? (i := 10) rfl)⟩
abbrev kX10_gets : ax_K := (yX10_gets, cX10_gets, 3, (some .int))
theorem mX10_gets : ax_mv kX10_gets 2 := ⟨⟨wd_177, ax_in9 (List.mem_of_getElem? (i := 8) rfl), by decide +kernel, by decide +kernel, by decide⟩, ax_in9 (List.mem_of_getElem? (i := 6) rfl), ax_in9 (List.mem_of_getElem? (i := 7) rfl)⟩
abbrev kX10_isBright : ax_K := (yX10_isBright, cX10_isBright, 4, (some .boolean))
theorem mX10_isBright : ax_ms kX10_isBright 3 := ⟨⟨wd_177, ax_in9 (List.mem_of_getElem? (i := 18) rfl), by decide +kernel, by decide +kernel, by decide⟩, ax_in9 (List.mem_of_getElem? (i := 17) rfl)⟩
abbrev kX10_bulbs : ax_K := (yX10_bulbs, cX10_bulbs, 7, (some .int))
theorem mX10_bulbs : ax_mv kX10_bulbs 2 := ⟨⟨wd_177, ax_in9 (List.mem_of_getElem? (i := 15) rfl), by decide +kernel, by decide +kernel, by decide⟩, ax_in9 (List.mem_of_getElem? (i := 13) rfl), ax_in9 (List.mem_of_getElem? (i := 14) rfl)⟩
abbrev kX10_isLine : ax_K := (yX10_isLine, cX10_isLine, 3, (some .boolean))
theorem mX10_isLine : ax_mv kX10_isLine 1 := ⟨⟨wd_177, ax_in9 (List.mem_of_getElem? (i := 34) rfl), by decide +kernel, by decide +kernel, by decide⟩, ax_in9 (List.mem_of_getElem? (i := 33) rfl), ax_ps10 (List.mem_of_getElem? (i := 14) rfl)⟩
abbrev kX10_rightLines : ax_K := (yX10_rightLines, cX10_rightLines, 2, (some .int))
theorem mX10_rightLines : ax_mv kX10_rightLines 0 := ⟨⟨wd_177, ax_in9 (List.mem_of_getElem? (i := 30) rfl), by decide +kernel, by decide +kernel, by decide⟩, ax_in9 (List.mem_of_getElem? (i := 29) rfl), ax_ps10 (List.mem_of_getElem? (i := 13) rfl)⟩
abbrev kX10_distancesNow : ax_K := (yX10_distancesNow, cX10_distancesNow, 4, (some .long))
theorem mX10_distancesNow : ax_mv kX10_distancesNow 0 := ⟨⟨wd_177, ax_in9 (List.mem_of_getElem? (i := 26) rfl), by decide +kernel, by decide +kernel, by decide⟩, ax_in9 (List.mem_of_getElem? (i := 25) rfl), ax_ps10 (List.mem_of_getElem? (i := 12) rfl)⟩
abbrev kX10_distances : ax_K := (yX10_distances, cX10_distances, 1, (some .long))
theorem mX10_distances : ax_mv kX10_distances 0 := ⟨⟨wd_177, ax_in9 (List.mem_of_getElem? (i := 22) rfl), by decide +kernel, by decide +kernel, by decide⟩, ax_in9 (List.mem_of_getElem? (i := 20) rfl), ax_in9 (List.mem_of_getElem? (i := 21) rfl)⟩
abbrev kX10_isInBook : ax_K := (yX10_isInBook, cX10_isInBook, 3, (some .boolean))
theorem mX10_isInBook : ax_mv kX10_isInBook 1 := ⟨⟨wd_177, ax_in9 (List.mem_of_getElem? (i := 42) rfl), by decide +kernel, by decide +kernel, by decide⟩, ax_in9 (List.mem_of_getElem? (i := 41) rfl), ax_ps10 (List.mem_of_getElem? (i := 15) rfl)⟩
abbrev kX10_look : ax_K := (yX10_look, cX10_look, 9, (some .int))
theorem mX10_look : ax_mv kX10_look 1 := ⟨⟨wd_177, ax_in9 (List.mem_of_getElem? (i := 38) rfl), by decide +kernel, by decide +kernel, by decide⟩, ax_in9 (List.mem_of_getElem? (i := 36) rfl), ax_in9 (List.mem_of_getElem? (i := 37) rfl)⟩
abbrev kX10_right : ax_K := (yX10_right, cX10_right, 1, (some .int))
theorem mX10_right : ax_mv kX10_right 0 := ⟨⟨wd_177, ax_in9 (List.mem_of_getElem? (i := 46) rfl), by decide +kernel, by decide +kernel, by decide⟩, ax_in9 (List.mem_of_getElem? (i := 44) rfl), ax_in9 (List.mem_of_getElem? (i := 45) rfl)⟩
abbrev kX10_puts : ax_K := (yX10_puts, cX10_puts, 1, none)
theorem mX10_puts : ax_mv kX10_puts 0 := ⟨⟨wd_177, ax_in9 (List.mem_of_getElem? (i := 54) rfl), by decide +kernel, by decide +kernel, by decide⟩, ax_in9 (List.mem_of_getElem? (i := 53) rfl), ax_ps11 (List.mem_of_getElem? (i := 0) rfl)⟩
abbrev kX10_putsBack : ax_K := (yX10_putsBack, cX10_putsBack, 1, none)
theorem mX10_putsBack : ax_mv kX10_putsBack 0 := ⟨⟨wd_177, ax_in9 (List.mem_of_getElem? (i := 59) rfl), by decide +kernel, by decide +kernel, by decide⟩, ax_in9 (List.mem_of_getElem? (i := 58) rfl), ax_ps11 (List.mem_of_getElem? (i := 1) rfl)⟩
abbrev kX10_nights : ax_K := (yX10_nights, cX10_nights, 11, (some .int))
theorem mX10_nights : ax_mv kX10_nights 3 := ⟨⟨wd_177, ax_in9 (List.mem_of_getElem? (i := 50) rfl), by decide +kernel, by decide +kernel, by decide⟩, ax_in9 (List.mem_of_getElem? (i := 48) rfl), ax_in9 (List.mem_of_getElem? (i := 49) rfl)⟩
abbrev kX10_hitAlone : ax_K := (yX10_hitAlone, cX10_hitAlone, 3, (some .int))
theorem mX10_hitAlone : ax_mv kX10_hitAlone 2 := ⟨⟨wd_177, ax_in9 (List.mem_of_getElem? (i := 67) rfl), by decide +kernel, by decide +kernel, by decide⟩, ax_in9 (List.mem_of_getElem? (i := 66) rfl), ax_ps11 (List.mem_of_getElem? (i := 2) rfl)⟩
abbrev kX10_darkest : ax_K := (yX10_darkest, cX10_darkest, 6, (some .int))
theorem mX10_darkest : ax_mv kX10_darkest 1 := ⟨⟨wd_177, ax_in9 (List.mem_of_getElem? (i := 63) rfl), by decide +kernel, by decide +kernel, by decide⟩, ax_in9 (List.mem_of_getElem? (i := 61) rfl), ax_in9 (List.mem_of_getElem? (i := 62) rfl)⟩
abbrev kX10_dark : ax_K := (yX10_dark, cX10_dark, 5, (some .int))
theorem mX10_dark : ax_mv kX10_dark 2 := ⟨⟨wd_177, ax_in9 (List.mem_of_getElem? (i := 71) rfl), by decide +kernel, by decide +kernel, by decide⟩, ax_in9 (List.mem_of_getElem? (i := 69) rfl), ax_in9 (List.mem_of_getElem? (i := 70) rfl)⟩
abbrev kX10_needs : ax_K := (yX10_needs, cX10_needs, 3, (some .int))
theorem mX10_needs : ax_mv kX10_needs 1 := ⟨⟨wd_177, ax_in9 (List.mem_of_getElem? (i := 75) rfl), by decide +kernel, by decide +kernel, by decide⟩, ax_in9 (List.mem_of_getElem? (i := 73) rfl), ax_in9 (List.mem_of_getElem? (i := 74) rfl)⟩
abbrev kX10_dips : ax_K := (yX10_dips, cX10_dips, 6, (some .int))
theorem mX10_dips : ax_mv kX10_dips 2 := ⟨⟨wd_177, ax_in9 (List.mem_of_getElem? (i := 79) rfl), by decide +kernel, by decide +kernel, by decide⟩, ax_in9 (List.mem_of_getElem? (i := 77) rfl), ax_in9 (List.mem_of_getElem? (i := 78) rfl)⟩
abbrev kX10_gap : ax_K := (yX10_gap, cX10_gap, 7, (some .int))
theorem mX10_gap : ax_mv kX10_gap 2 := ⟨⟨wd_177, ax_in9 (List.mem_of_getElem? (i := 83) rfl), by decide +kernel, by decide +kernel, by decide⟩, ax_in9 (List.mem_of_getElem? (i := 81) rfl), ax_in9 (List.mem_of_getElem? (i := 82) rfl)⟩
abbrev kX10_clear : ax_K := (yX10_clear, cX10_clear, 5, (some .int))
theorem mX10_clear : ax_mv kX10_clear 1 := ⟨⟨wd_177, ax_in9 (List.mem_of_getElem? (i := 87) rfl), by decide +kernel, by decide +kernel, by decide⟩, ax_in9 (List.mem_of_getElem? (i := 85) rfl), ax_in9 (List.mem_of_getElem? (i := 86) rfl)⟩
abbrev kX10_paces : ax_K := (yX10_paces, cX10_paces, 10, (some .int))
theorem mX10_paces : ax_mv kX10_paces 1 := ⟨⟨wd_177, ax_in9 (List.mem_of_getElem? (i := 91) rfl), by decide +kernel, by decide +kernel, by decide⟩, ax_in9 (List.mem_of_getElem? (i := 89) rfl), ax_in9 (List.mem_of_getElem? (i := 90) rfl)⟩
abbrev kX10_finds : ax_K := (yX10_finds, cX10_finds, 5, (some .int))
theorem mX10_finds : ax_mv kX10_finds 2 := ⟨⟨wd_177, ax_in9 (List.mem_of_getElem? (i := 95) rfl), by decide +kernel, by decide +kernel, by decide⟩, ax_in9 (List.mem_of_getElem? (i := 93) rfl), ax_in9 (List.mem_of_getElem? (i := 94) rfl)⟩
abbrev kX10_changed : ax_K := (yX10_changed, cX10_changed, 1, (some .boolean))
theorem mX10_changed : ax_mv kX10_changed 0 := ⟨⟨wd_177, ax_in9 (List.mem_of_getElem? (i := 103) rfl), by decide +kernel, by decide +kernel, by decide⟩, ax_in9 (List.mem_of_getElem? (i := 102) rfl), ax_ps11 (List.mem_of_getElem? (i := 3) rfl)⟩
abbrev kX10_drives : ax_K := (yX10_drives, cX10_drives, 4, (some .int))
theorem mX10_drives : ax_mv kX10_drives 3 := ⟨⟨wd_177, ax_in9 (List.mem_of_getElem? (i := 99) rfl), by decide +kernel, by decide +kernel, by decide⟩, ax_in9 (List.mem_of_getElem? (i := 97) rfl), ax_in9 (List.mem_of_getElem? (i := 98) rfl)⟩
abbrev kX10_stands : ax_K := (yX10_stands, cX10_stands, 4, (some .int))
theorem mX10_stands : ax_mv kX10_stands 3 := ⟨⟨wd_177, ax_in9 (List.mem_of_getElem? (i := 107) rfl), by decide +kernel, by decide +kernel, by decide⟩, ax_in9 (List.mem_of_getElem? (i := 105) rfl), ax_in9 (List.mem_of_getElem? (i := 106) rfl)⟩
abbrev kX10_weather : ax_K := (yX10_weather, cX10_weather, 3, (some .int))
theorem mX10_weather : ax_mv kX10_weather 2 := ⟨⟨wd_177, ax_in9 (List.mem_of_getElem? (i := 111) rfl), by decide +kernel, by decide +kernel, by decide⟩, ax_in9 (List.mem_of_getElem? (i := 109) rfl), ax_in9 (List.mem_of_getElem? (i := 110) rfl)⟩
abbrev kX10_undo : ax_K := (yX10_undo, cX10_undo, 1, (some .int))
theorem mX10_undo : ax_mv kX10_undo 0 := ⟨⟨wd_177, ax_in9 (List.mem_of_getElem? (i := 115) rfl), by decide +kernel, by decide +kernel, by decide⟩, ax_in9 (List.mem_of_getElem? (i := 113) rfl), ax_in9 (List.mem_of_getElem? (i := 114) rfl)⟩
abbrev kX10_spots : ax_K := (yX10_spots, cX10_spots, 4, (some .int))
theorem mX10_spots : ax_mv kX10_spots 3 := ⟨⟨wd_177, ax_in9 (List.mem_of_getElem? (i := 127) rfl), by decide +kernel, by decide +kernel, by decide⟩, ax_in9 (List.mem_of_getElem? (i := 126) rfl), ax_ps11 (List.mem_of_getElem? (i := 5) rfl)⟩
abbrev kX10_spotsAll : ax_K := (yX10_spotsAll, cX10_spotsAll, 5, none)
theorem mX10_spotsAll : ax_mv kX10_spotsAll 2 := ⟨⟨wd_177, ax_in9 (List.mem_of_getElem? (i := 123) rfl), by decide +kernel, by decide +kernel, by decide⟩, ax_in9 (List.mem_of_getElem? (i := 122) rfl), ax_ps11 (List.mem_of_getElem? (i := 4) rfl)⟩
abbrev kX10_image : ax_K := (yX10_image, cX10_image, 1, (some .int))
theorem mX10_image : ax_mv kX10_image 0 := ⟨⟨wd_177, ax_in9 (List.mem_of_getElem? (i := 119) rfl), by decide +kernel, by decide +kernel, by decide⟩, ax_in9 (List.mem_of_getElem? (i := 117) rfl), ax_in9 (List.mem_of_getElem? (i := 118) rfl)⟩
abbrev kX10_restore : ax_K := (yX10_restore, cX10_restore, 1, (some .int))
theorem mX10_restore : ax_mv kX10_restore 0 := ⟨⟨wd_177, ax_in9 (List.mem_of_getElem? (i := 131) rfl), by decide +kernel, by decide +kernel, by decide⟩, ax_in9 (List.mem_of_getElem? (i := 129) rfl), ax_in9 (List.mem_of_getElem? (i := 130) rfl)⟩
abbrev kX10_status : ax_K := (yX10_status, cX10_status, 2, (some .int))
theorem mX10_status : ax_mv kX10_status 1 := ⟨⟨wd_177, ax_in9 (List.mem_of_getElem? (i := 135) rfl), by decide +kernel, by decide +kernel, by decide⟩, ax_in9 (List.mem_of_getElem? (i := 133) rfl), ax_in9 (List.mem_of_getElem? (i := 134) rfl)⟩
abbrev kX10_count : ax_K := (yX10_count, cX10_count, 2, (some .int))
theorem mX10_count : ax_mv kX10_count 1 := ⟨⟨wd_177, ax_in9 (List.mem_of_getElem? (i := 139) rfl), by decide +kernel, by decide +kernel, by decide⟩, ax_in9 (List.mem_of_getElem? (i := 137) rfl), ax_in9 (List.mem_of_getElem? (i := 138) rfl)⟩
abbrev kJ6_bitCount_0f7a4 : ax_K := (yJ6_bitCount_0f7a4, cJ6_bitCount_0f7a4, 1, (some .int))
theorem mJ6_bitCount_0f7a4 : ax_ms kJ6_bitCount_0f7a4 1 := ⟨⟨wd_189, ax_in5 (List.mem_of_getElem? (i := 155) rfl), by decide +kernel, by decide +kernel, by decide⟩, ax_in5 (List.mem_of_getElem? (i := 154) rfl)⟩
abbrev kL_road : ax_K := (yL_road, cL_road, 4, (some .int))
abbrev kL_law : ax_K := (yL_law, cL_law, 4, (some .int))
abbrev kL_rule : ax_K := (yL_rule, cL_rule, 5, (some .int))
abbrev kL_book : ax_K := (yL_book, cL_book, 4, (some .int))
abbrev kL_told : ax_K := (yL_told, cL_told, 4, (some .int))
abbrev kL_car : ax_K := (yL_car, cL_car, 5, (some .int))
abbrev kL_coat : ax_K := (yL_coat, cL_coat, 5, (some .int))
abbrev kL_at : ax_K := (yL_at, cL_at, 6, (some .int))
abbrev kL_hits : ax_K := (yL_hits, cL_hits, 4, (some .int))
abbrev kL_sees : ax_K := (yL_sees, cL_sees, 5, (some .int))
abbrev kL_sums : ax_K := (yL_sums, cL_sums, 5, (some .int))
abbrev kL_would : ax_K := (yL_would, cL_would, 7, (some .int))
abbrev kL_cost : ax_K := (yL_cost, cL_cost, 6, (some .int))
abbrev kL_duel : ax_K := (yL_duel, cL_duel, 5, (some .int))
abbrev kL_answer : ax_K := (yL_answer, cL_answer, 5, (some .int))
abbrev kL_habit : ax_K := (yL_habit, cL_habit, 5, (some .int))
abbrev kL_safe : ax_K := (yL_safe, cL_safe, 5, (some .int))
abbrev kL_loaded : ax_K := (yL_loaded, cL_loaded, 7, (some .int))
abbrev kL_blinds : ax_K := (yL_blinds, cL_blinds, 4, (some .int))
abbrev kL_old : ax_K := (yL_old, cL_old, 4, (some .int))
abbrev kL_between : ax_K := (yL_between, cL_between, 5, (some .int))
abbrev kL_gets : ax_K := (yL_gets, cL_gets, 5, (some .int))
abbrev kL_bulbs : ax_K := (yL_bulbs, cL_bulbs, 5, (some .int))
abbrev kL_distances : ax_K := (yL_distances, cL_distances, 3, (some .int))
abbrev kL_look : ax_K := (yL_look, cL_look, 4, (some .int))
abbrev kL_right : ax_K := (yL_right, cL_right, 3, (some .int))
abbrev kL_nights : ax_K := (yL_nights, cL_nights, 6, (some .int))
abbrev kL_darkest : ax_K := (yL_darkest, cL_darkest, 4, (some .int))
abbrev kL_dark : ax_K := (yL_dark, cL_dark, 5, (some .int))
abbrev kL_dips : ax_K := (yL_dips, cL_dips, 5, (some .int))
abbrev kL_gap : ax_K := (yL_gap, cL_gap, 5, (some .int))
abbrev kL_needs : ax_K := (yL_needs, cL_needs, 4, (some .int))
abbrev kL_clear : ax_K := (yL_clear, cL_clear, 4, (some .int))
abbrev kL_paces : ax_K := (yL_paces, cL_paces, 4, (some .int))
abbrev kL_finds : ax_K := (yL_finds, cL_finds, 5, (some .int))
abbrev kL_drives : ax_K := (yL_drives, cL_drives, 6, (some .int))
abbrev kL_stands : ax_K := (yL_stands, cL_stands, 6, (some .int))
abbrev kL_weather : ax_K := (yL_weather, cL_weather, 5, (some .int))
