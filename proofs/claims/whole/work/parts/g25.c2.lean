set_option maxRecDepth 1000000 in
set_option maxHeartbeats 0 in
theorem c_Co_countedDelay : zcj zyi 192 false false [102, 103, 108] 4 zc_Co_countedDelay [[], [], [], [7003, 12033, 12035, 1011], [], [], [], [], [7143], [], [], [], [7109], [], [], [], [], [], [7109], [], [], [], [7143], [], [], [], [7111], [], [], [], [], [7111], [], [], [], [], [], [7019, 11161, 9055, 9056], [], [], [], [], [], [], [7143], [], [], [], [7115], [], [], [], [], [], [], [7115], [], [], [], []] = true := by decide +kernel
set_option maxRecDepth 1000000 in
set_option maxHeartbeats 0 in
theorem c_Un_dropLaunch : zcj zyi 283 false false [103, 109] 4 zc_Un_dropLaunch [[], [], [], [], [], [], [7085], [], [], [], [], [], [], [7082], [], [], [], [], [11032], [], [], [10229], [], [], [], [], [], [], [], [7082], [], [], [], [], [7082], [], [], [], [], [], [], [], [], [], [], [], [], [], [], [], [], [7004, 11089, 11091, 1000], [], [], []] = true := by decide +kernel
set_option maxRecDepth 1000000 in
set_option maxHeartbeats 0 in
theorem c_Co_fail : zcj zyi 200 false false [102, 110, 0, 0, 0] 7 zc_Co_fail [[], [10230], [], [], [], [], [], [], [], [], [10032], [], [], [], [], [], [], [10033], [], [], [], [], [], [], [], [], [10234], [], [], [], [], [], [], [], [], [], [], [10035], [], [], [], [], [], [], [], [], [], [], [], [], [7141], [], [], [], [], [], [], [], [7004, 12021, 12022, 12023], [], [], [], [], [], [], [], [], [], [7138], [], [], [], [], [10013], [], [], [7002, 11093, 11094, 11095], [], [], []] = true := by decide +kernel
set_option maxRecDepth 1000000 in
set_option maxHeartbeats 0 in
theorem c_Gr_placeIn : zcj zyi 204 false false [111, 0] 3 zc_Gr_placeIn [[], [], [7029, 11125, 11126, 11127], [], [], [], [], [], [], [], [], [7007, 11129, 11075, 11076], [], [], [], [], [], [], [7198], [], [], [], [], [], [], []] = true := by decide +kernel
set_option maxRecDepth 1000000 in
set_option maxHeartbeats 0 in
theorem c_Gr_leastPlace : zcj zyi 205 false false [111] 4 zc_Gr_leastPlace [[], [], [], [], [], [], [], [], [], [], [], [7029, 11121, 11123, 1003], [], [], [], [], [], [], [], [], [], [], [], [], [], [], [], [], [], [], [], [], [], [], [], [], [], [], [], []] = true := by decide +kernel
set_option maxRecDepth 1000000 in
set_option maxHeartbeats 0 in
theorem c_Gr_lanesUnderMask : zcj zyi 206 false false [111] 4 zc_Gr_lanesUnderMask [[], [7029, 11117, 11118, 11119], [], [], [], [], [], [], [], [], [], [], [], [], [], [], [], [], [], [], [], [7029, 11121, 11123, 1003], [], [], [], [], [], [], [], [], [], [], [], [], [], [], [], [], [], [], [], []] = true := by decide +kernel
set_option maxRecDepth 1000000 in
set_option maxHeartbeats 0 in
theorem c_Ke_instructionAt : zcj zyi 224 false false [107, 0] 2 zc_Ke_instructionAt [[], [], [], [8171], [], [], [], [], [7001, 0, 8069], [], [], [], [], [], [], [8169], [], [], [], [], [], [], [], [], []] = true := by decide +kernel
set_option maxRecDepth 1000000 in
set_option maxHeartbeats 0 in
theorem c_Th_goOn : zcj zyi 261 false false [106, 108, 0] 3 zc_Th_goOn [[], [9024], [], [], [], [], [], [], [], [], [], [], [7202], [], [], [], [], [], [], [9024], [], [], [], [], [], [], [], [], [], [], [7202], [], [], [], [], [], [], [9024], [], [], [], [], [], [], [], [], [9024], [], [], [], [], [], [], [], [], [], [9029], [], [], [7007, 12016, 11154, 11155], [], [], [], [], [], [], [], [9034], [], [], [], [7007, 10222, 10224, 14], [], [], [], [], [], [], [], [7200], [], [], [], [], [], [7007, 10222, 10224, 14], [], [], []] = true := by decide +kernel
set_option maxRecDepth 1000000 in
set_option maxHeartbeats 0 in
theorem c_Co_carryOut : zcj zyi 186 false false [102, 103, 111] 9 zc_Co_carryOut [[], [7029, 11134, 11118, 11119], [], [], [], [], [11031], [], [], [10230], [], [], [10017], [], [], [], [], [], [], [], [7015, 11135, 11136, 11137], [], [], [], [], [], [], [], [], [], [], [], [], [7143], [], [], [], [7105], [], [], [], [], [7105], [], [], [], [], [7029, 11139, 11140, 11141], [], [], [7151], [], [], [], [], [], [], [7003, 11143, 11145, 1005], [], [], [], [], [], [], [], [], [], [], [], [], [], [], [7029, 11147, 11126, 11127], [], [], [], [], [], [], [], [], [], [], [7151], [], [], [], [], [7001, 0, 11158], [], [], [], [], [], [], [], [], [], [], [], [], [], [], [], [], [7003, 11166, 11168, 1006], [], [], [], [], [], [], [], [], [], [], [], [], [], [11031], [], [], [], [], [7195], [], [], [], [], [], [7003, 12017, 12019, 1009], [], [], [], [], [], [], [], [], [], [], [8174], [], [], [7007, 12025, 12026, 12027], [], [], [], [7143], [], [], [], [7107], [], [], [], [], [7107], [], [], [], [], [], [], [], [], [], [], [7145], [], [], [], [], [], [], [7003, 12029, 12031, 1010], [], [], [], [11042], [], [], [], []] = true := by decide +kernel
set_option maxRecDepth 1000000 in
set_option maxHeartbeats 0 in
theorem c_Bl_isAllWaiting : zcj zyi 173 false false [110] 1 zc_Bl_isAllWaiting [[], [10235], [], [], [], [10235], [], [], [], [7007, 11071, 11072], [], [], [], [], [], [], [10235], [], [], [], [10235], [], [], [], [7007, 11078, 11079], [], [], [], [], [], [], [], [], [], [], []] = true := by decide +kernel
set_option maxRecDepth 1000000 in
set_option maxHeartbeats 0 in
theorem c_Th_isEnded : zcj zyi 257 false false [106] 1 zc_Th_isEnded [[], [7202], [], [], [], [], [], [], [], [], [], [], [], [], []] = true := by decide +kernel
set_option maxRecDepth 1000000 in
set_option maxHeartbeats 0 in
theorem c_Gr_hasEnded : zcj zyi 209 false false [111] 3 zc_Gr_hasEnded [[], [], [], [], [], [], [], [], [], [7029, 11125, 11126, 11127], [], [], [], [], [], [], [], [], [7007, 12073, 12074, 12075], [], [], [], [], [], [], [], [], [], [], [], [], [], [], []] = true := by decide +kernel
set_option maxRecDepth 1000000 in
set_option maxHeartbeats 0 in
theorem c_Bl_writeEndedGroups : zcj zyi 178 false false [110, 122] 3 zc_Bl_writeEndedGroups [[], [], [], [], [10238], [], [], [], [], [], [], [], [10238], [], [], [], [], [7029, 12069, 12070, 12071], [], [], [], [], [], [], [10238], [], [], [], [], [], [7029, 12077, 11163, 11164], [], [], [], [], [], [], [], [], [], []] = true := by decide +kernel
set_option maxRecDepth 1000000 in
set_option maxHeartbeats 0 in
theorem c_Bl_lowestWaiting : zcj zyi 174 false false [110] 1 zc_Bl_lowestWaiting [[], [10235], [], [], [], [10235], [], [], [], [7007, 11078, 11079], [], [], []] = true := by decide +kernel
set_option maxRecDepth 1000000 in
set_option maxHeartbeats 0 in
theorem c_Th_release_36 : zcj zyi 267 false false [136, 0, 0, 0] 5 zc_Th_release_36 [[], [], [], [], [], [], [], [], [], [], [], [], [], [], [], [], [], [], [], [], [7007, 11081, 11082, 11083], [], [], [], [], [], [], [], [], [], [7200], [], [], [], [], [], [], [], [], [], [], [], [], [], [], [], [], [], [], [], [], [], [], [], [], [], [], [], [], [], [], [], [], [], [], [7007, 11081, 11082, 11083], [], [], [], [], [], [], [], [], [], [], [], [7202], [], [], [], [], [], [], [], [], [], [], [7007, 10222, 10224, 14], [], [], [], [], [], [], [], [], [], []] = true := by decide +kernel
set_option maxRecDepth 1000000 in
set_option maxHeartbeats 0 in
theorem c_Bl_passBarrier : zcj zyi 175 false false [110, 0] 2 zc_Bl_passBarrier [[], [10235], [], [], [], [10235], [], [], [], [], [], [10228], [], [], [10014], [], [], [8170], [], [], [7007, 12094, 12095], [], [], [], [], [], [], [], [], [11004], [], [], [], [7028, 12097, 10220], [], [], [], [11005], [], [], [], [7028, 12097, 10220], [], [], [], []] = true := by decide +kernel
set_option maxRecDepth 1000000 in
set_option maxHeartbeats 0 in
theorem c_Co_lookAtBarrier : zcj zyi 198 false false [102, 110] 3 zc_Co_lookAtBarrier [[], [7027, 12086, 12087, 12088], [], [], [], [], [], [], [], [], [], [], [7201], [], [], [7027, 12090, 12091, 12092], [], [], [], [], [], [], [7143], [], [], [], [7117], [], [], [], [], [7117], [], [], [], [], [], [], [], [], [7195], [], [], [], [7201], [], [], [], [], [7003, 12017, 12019, 1009], [], [], []] = true := by decide +kernel
set_option maxRecDepth 1000000 in
set_option maxHeartbeats 0 in
theorem c_Co_settle : zcj zyi 197 false false [102, 110] 2 zc_Co_settle [[], [], [7139], [], [], [7027, 12065, 12066, 12067], [], [], [], [7027, 12078, 12079, 12080], [], [], [], [], [], [], [], [7003, 12082, 12084, 2000], [], [], [], [], [7003, 11063, 11065, 15], [], [], []] = true := by decide +kernel
set_option maxRecDepth 1000000 in
set_option maxHeartbeats 0 in
theorem c_La_isSpoiled : zcj zyi 232 false false [109] 1 zc_La_isSpoiled [[], [10029], [], [], [], [], [], [], [], [], [10029], [], [], [], [], [], [], [], [], [], [], [], [], []] = true := by decide +kernel
set_option maxRecDepth 1000000 in
set_option maxHeartbeats 0 in
theorem c_Le_decide : zcj zyi 250 false false [109] 1 zc_Le_decide [[], [10007], [], [], [], [], [], [], [10007], [], [], [7025, 10165, 10166, 10167], [], [], [], [], [], [], [10009], [], [], [], [], [], [], [10009], [], [], [7025, 10165, 10166, 10167], [], [], [], [], [], [], [], [], [10031], [], [], [], [], [], [], [10009], [], [], [], [], [], [], [10009], [], [], [7025, 9235, 8048, 8049], [], [], [], [], [], [], [], [], [10031], [], [], []] = true := by decide +kernel
set_option maxRecDepth 1000000 in
set_option maxHeartbeats 0 in
theorem c_Le_startIn : zcj zyi 249 false false [101, 0] 4 zc_Le_startIn [[], [], [], [], [7055], [], [], [], [], [], [], [7052], [], [], [], [], [], [], [10005], [], [], [], [], [], [], [], [7025, 9235, 8048, 8049], [], [], [], [], [], [], [], [], [], [10031], [], [], [], [], [], [], [], [], [7002, 10162, 10163], [], [], [], [7025, 9235, 8048, 8049], [], [], [], [], [], [], [], [], [], [], [], [], []] = true := by decide +kernel
set_option maxRecDepth 1000000 in
set_option maxHeartbeats 0 in
theorem c_Le_startQueued : zcj zyi 248 false false [101] 2 zc_Le_startQueued [[], [], [], [], [], [], [], [], [], [7002, 10158, 10160, 9], [], [], [], [], [], [], [], [], [], [], [], [], [7055], [], [], [], [], [], [], [7052], [], [], [], [], [10011], [], [], [], [], [], [], [7052], [], [], [], [], [10031], [], [], [], [], [], [], [], [], [7052], [], [], [], [], [], [], [10031], [], [], [], [], [], [], [], [], []] = true := by decide +kernel
set_option maxRecDepth 1000000 in
set_option maxHeartbeats 0 in
theorem c_Gr_canAct : zcj zyi 210 false false [111, 0] 2 zc_Gr_canAct [[], [7029, 11117, 11118, 11119], [], [], [], [], [], [], [], [], [11043], [], [], [], [], [], [], [], [], [], [], []] = true := by decide +kernel
set_option maxRecDepth 1000000 in
set_option maxHeartbeats 0 in
theorem c_Un_indexOfLast : zcj zyi 286 false false [103] 2 zc_Un_indexOfLast [[], [], [], [], [7085], [], [], [], [], [], [], [7082], [], [], [], [], [], [7088], [], [], [], [], [], [], [], [], [], [], [], [], [], [], []] = true := by decide +kernel
set_option maxRecDepth 1000000 in
set_option maxHeartbeats 0 in
theorem c_Un_choose : zcj zyi 285 false false [103, 0, 0] 6 zc_Un_choose [[], [], [], [], [], [], [], [7004, 11109, 11111, 1002], [], [], [], [], [], [], [], [], [], [], [], [], [], [], [], [7085], [], [], [], [], [], [], [], [], [], [], [], [], [7085], [], [], [], [], [], [], [], [], [], [], [], [], [], [], [], [7085], [], [], [], [], [], [], [7082], [], [], [], [], [], [], [7029, 11113, 11114, 11115], [], [], [], [], [], [], [], [7082], [], [], [], [], [], [7088], [], [], [], [7088], [], [], [], [], [], [], [], [], [], [], []] = true := by decide +kernel
set_option maxRecDepth 1000000 in
set_option maxHeartbeats 0 in
theorem c_Co_letCycleCome : zcj zyi 180 false false [102] 3 zc_Co_letCycleCome [[], [7138], [], [], [7002, 10154, 10155, 10156], [], [], [], [7003, 10169, 10171, 10], [], [], [], [7003, 10183, 10185, 11], [], [], [], [], [], [], [], [], [], [], [7141], [], [], [], [], [], [7147], [], [], [], [7145], [], [], [7004, 11105, 11106, 11107], [], [], [], [], [], [], [], [], [], [7141], [], [], [], [], [], [7003, 11130, 11132, 1004], [], [], [], [], [], [], [], [11031], [], [], [7003, 12061, 12063, 1015], [], [], [], [], [], [], [], [], [], [7145], [], [], [], [], [], [], [], [], [], [7003, 12098, 12100, 2001], [], [], [], [], [7145], [], [], [], [], [7145], [], [], []] = true := by decide +kernel
set_option maxRecDepth 1000000 in
set_option maxHeartbeats 0 in
theorem c_X_step : zcj zyi 21 false true [100, 0] 5 zc_X_step [[], [], [], [], [7001, 8068, 8069], [], [], [], [], [], [8071, 8116], [], [], [], [], [], [], [], [], [7238], [], [], [7144], [], [], [7106], [], [], [], [], [], [], [], [], [], [], [], [], [], [7238], [], [], [7003, 10150, 10151, 10152], [], [], [], [], [], [], [], [], [], [7238], [], [], [7144], [], [], [7106], [], [], [], [], [], []] = true := by decide +kernel
set_option maxRecDepth 1000000 in
set_option maxHeartbeats 0 in
theorem c_Le_isAllOver : zcj zyi 247 false false [101] 2 zc_Le_isAllOver [[], [], [], [], [7055], [], [], [], [], [], [], [7052], [], [], [], [], [7025, 9235, 8048, 8049], [], [], [], [], [], [], [], [], [], [], [], [], [], [], []] = true := by decide +kernel
set_option maxRecDepth 1000000 in
set_option maxHeartbeats 0 in
theorem c_X_run : zcj zyi 22 false true [100, 0] 3 zc_X_run [[], [], [], [], [], [7001, 8068, 8069], [], [], [], [], [], [8071, 8116], [], [], [], [], [], [], [], [], [], [], [], [], [], [], [], [7237], [], [], [7002, 12109, 12110, 12111], [], [], [], [], [], [], [7238], [], [], [7003, 10150, 10151, 10152], [], [], [], [], [], [], [], [], [], []] = true := by decide +kernel
set_option maxRecDepth 1000000 in
set_option maxHeartbeats 0 in
theorem c_X_setOrder : zcj zyi 23 false true [100, 0] 3 zc_X_setOrder [[], [], [], [], [], [], [], [], [], [], [], [], [], [], [], [], [], [], [8071, 8116], [], [], [], [], [], [], [], [], [7238], [], [], [7148], [], [], [], [], [7238], [], [], [], [7148], [], [], [], []] = true := by decide +kernel
set_option maxRecDepth 1000000 in
set_option maxHeartbeats 0 in
theorem c_X_cycle : zcj zyi 24 false false [100] 1 zc_X_cycle [[], [7238], [], [], [7146], [], [], []] = true := by decide +kernel
set_option maxRecDepth 1000000 in
set_option maxHeartbeats 0 in
theorem c_X_unitAt : zcj zyi 50 false true [100, 0] 2 zc_X_unitAt [[], [], [], [7001, 8068, 8069], [], [], [], [], [], [9001, 9010], [], [], [], [], [], [], [], [], [7238], [], [], [7142], [], [], [], [], []] = true := by decide +kernel
set_option maxRecDepth 1000000 in
set_option maxHeartbeats 0 in
theorem c_X_groups : zcj zyi 25 false true [100, 0] 2 zc_X_groups [[], [], [7001, 12127, 12129, 2002], [], [], [7087], [], [], []] = true := by decide +kernel
set_option maxRecDepth 1000000 in
set_option maxHeartbeats 0 in
theorem c_Un_groupOf : zcj zyi 277 false false [103, 0] 2 zc_Un_groupOf [[], [], [], [7085], [], [], [], [], [7001, 0, 8069], [], [], [], [], [], [], [7082], [], [], [], [], [], [], [], [], []] = true := by decide +kernel
set_option maxRecDepth 1000000 in
set_option maxHeartbeats 0 in
theorem c_X_groupAt : zcj zyi 51 false true [100, 0, 0] 4 zc_X_groupAt [[], [], [7001, 12127, 12129, 2002], [], [], [], [7004, 12142, 12143, 12144], [], [], [], [], [], [], [], [9001, 9010], [], [], [], [], [], [], [], [], []] = true := by decide +kernel
set_option maxRecDepth 1000000 in
set_option maxHeartbeats 0 in
theorem c_X_threadAt : zcj zyi 26 false true [100, 0, 0] 4 zc_X_threadAt [[], [], [], [7001, 12138, 12140, 2003], [], [], [], [], [], [], [], [11033], [], [], [10231], [], [], [10003], [], [], [], [], [], [], [11033], [], [], [10233], [], [], [], [], [], [11036], [], [], [], []] = true := by decide +kernel
set_option maxRecDepth 1000000 in
set_option maxHeartbeats 0 in
theorem c_X_place : zcj zyi 27 false true [100, 0, 0] 4 zc_X_place [[], [], [], [7001, 12138, 12140, 2003], [], [], [7029, 12154, 11118, 11119], [], [], [], [], [], [], [], [], [10121, 10130], [], [], [], [], [], [], [], [], []] = true := by decide +kernel
set_option maxRecDepth 1000000 in
set_option maxHeartbeats 0 in
theorem c_X_mask : zcj zyi 28 false true [100, 0, 0] 3 zc_X_mask [[], [], [], [7001, 12138, 12140, 2003], [], [], [7029, 12162, 11140, 11141], [], [], []] = true := by decide +kernel
set_option maxRecDepth 1000000 in
set_option maxHeartbeats 0 in
theorem c_Gr_isPlaceOfLower : zcj zyi 208 false false [111, 0] 3 zc_Gr_isPlaceOfLower [[], [], [], [], [], [], [], [], [], [7029, 11121, 11123, 1003], [], [], [], [], [7029, 11121, 11123, 1003], [], [], [], [], [], [], [], [], [], [], [], [], [], [], []] = true := by decide +kernel
set_option maxRecDepth 1000000 in
set_option maxHeartbeats 0 in
theorem c_Gr_differentPlaces : zcj zyi 207 false false [111] 3 zc_Gr_differentPlaces [[], [], [], [], [], [], [], [], [], [], [], [7029, 11121, 11123, 1003], [], [], [], [], [], [], [], [], [7029, 12174, 12176, 2004], [], [], [], [], [], [], [], [], [], [], [], [], [], [], [], []] = true := by decide +kernel
set_option maxRecDepth 1000000 in
set_option maxHeartbeats 0 in
theorem c_X_places : zcj zyi 29 false true [100, 0, 0] 3 zc_X_places [[], [], [], [7001, 12138, 12140, 2003], [], [], [7029, 12170, 12171, 12172], [], [], []] = true := by decide +kernel
set_option maxRecDepth 1000000 in
set_option maxHeartbeats 0 in
theorem c_Gr_whyIdle : zcj zyi 211 false false [111, 0] 2 zc_Gr_whyIdle [[], [7029, 11117, 11118, 11119], [], [], [], [], [], [], [], [7029, 12189, 12070, 12071], [], [], [], [], [], [], [], [], [], [], [], [], [], [], [], [11043], [], [], [], [], [], [], [], [], [], [], [], [], []] = true := by decide +kernel
set_option maxRecDepth 1000000 in
set_option maxHeartbeats 0 in
theorem c_X_reason : zcj zyi 30 false true [100, 0, 0] 3 zc_X_reason [[], [], [], [7001, 12138, 12140, 2003], [], [], [], [7238], [], [], [7146], [], [], [7029, 12185, 12186, 12187], [], [], []] = true := by decide +kernel
set_option maxRecDepth 1000000 in
set_option maxHeartbeats 0 in
theorem c_X_register : zcj zyi 31 false true [100, 0, 0, 0, 0] 7 zc_X_register [[], [], [], [7001, 12138, 12140, 2003], [], [], [], [], [], [], [], [7029, 12197, 11126, 11127], [], [], [], [], [], [], [], [], [], [], [], [11033], [], [], [10231], [], [], [10018], [], [], [], [], [7015, 12198, 9144, 9145], [], [], [], [], [], [9001, 9010], [], [], [], [], [], [], [], [], [], [], [], [7007, 11218, 11154, 11155], [], [], []] = true := by decide +kernel
set_option maxRecDepth 1000000 in
set_option maxHeartbeats 0 in
theorem c_X_shared : zcj zyi 32 false true [100, 0, 0, 0] 5 zc_X_shared [[], [], [], [7001, 12138, 12140, 2003], [], [], [11033], [], [], [], [], [], [], [], [7027, 12206, 11225, 11226], [], [], [], [], [], [9001, 9010], [], [], [], [], [], [], [], [], [], [11003], [], [], [], [], []] = true := by decide +kernel
set_option maxRecDepth 1000000 in
set_option maxHeartbeats 0 in
theorem c_X_buffered : zcj zyi 33 false true [100, 0, 0] 3 zc_X_buffered [[], [], [], [7001, 12138, 12140, 2003], [], [], [11041], [], [], []] = true := by decide +kernel
set_option maxRecDepth 1000000 in
set_option maxHeartbeats 0 in
theorem c_X_failedAt : zcj zyi 49 false true [100, 0] 3 zc_X_failedAt [[], [], [7001, 9200, 9202, 5], [], [], [], [], [10030], [], [], [], [], [], [], [], [10121, 10130], [], [], [], [], [], [], [], [], []] = true := by decide +kernel
set_option maxRecDepth 1000000 in
set_option maxHeartbeats 0 in
theorem c_X_fault : zcj zyi 34 false true [100, 0] 2 zc_X_fault [[], [], [7001, 12221, 12223, 2005], [], [], [10034], [], [], []] = true := by decide +kernel
set_option maxRecDepth 1000000 in
set_option maxHeartbeats 0 in
theorem c_X_faultAt : zcj zyi 35 false true [100, 0] 2 zc_X_faultAt [[], [], [7001, 12221, 12223, 2005], [], [], [10036], [], [], []] = true := by decide +kernel
set_option maxRecDepth 1000000 in
set_option maxHeartbeats 0 in
theorem c_X_isRacing : zcj zyi 36 false true [100, 0, 0] 4 zc_X_isRacing [[], [], [7001, 9200, 9202, 5], [], [], [], [], [7001, 9178, 9179], [], [], [], [], [], [9001, 9010], [], [], [], [], [], [], [], [], [10043], [], [], [], [], []] = true := by decide +kernel
set_option maxRecDepth 1000000 in
set_option maxHeartbeats 0 in
theorem c_X_races : zcj zyi 37 false true [100, 0] 2 zc_X_races [[], [], [7001, 9200, 9202, 5], [], [], [10046], [], [], []] = true := by decide +kernel
set_option maxRecDepth 1000000 in
set_option maxHeartbeats 0 in
theorem c_Ke_hasLetterOf : zcj zyi 226 false false [107, 3] 3 zc_Ke_hasLetterOf [[], [], [], [], [8171], [], [], [], [], [], [], [8169], [], [], [], [], [], [7019, 13018, 9055, 9056], [], [], [], [], [], [], [], [], [], [], [], [], [], [], []] = true := by decide +kernel
set_option maxRecDepth 1000000 in
set_option maxHeartbeats 0 in
theorem c_Re_begin : zcj zyi 269 false false [105, 107, 0, 0, 122] 6 zc_Re_begin [[], [], [7219], [], [], [], [], [], [], [7008, 13023, 9088], [], [], [7220], [], [], [], [], [7221], [], [], [], [], [], [], [], [], [], [], [], [], [], [], [], [], [], [], [], [], [], [7214], [], [], [], [], [], [], [], [], [], [], [], [], [], [], [], [], []] = true := by decide +kernel
set_option maxRecDepth 1000000 in
set_option maxHeartbeats 0 in
theorem c_Th_lowestOfWaiting_30 : zcj zyi 264 false false [130, 0] 3 zc_Th_lowestOfWaiting_30 [[], [], [], [], [], [], [], [], [], [], [], [], [], [], [], [], [7007, 11081, 11082, 11083], [], [], [], [], [], [], [], [], [], [], [], [], [], [], [], [], []] = true := by decide +kernel
set_option maxRecDepth 1000000 in
set_option maxHeartbeats 0 in
theorem c_Th_release_30 : zcj zyi 266 false false [130, 0, 0, 0] 5 zc_Th_release_30 [[], [], [], [], [], [], [], [], [], [], [], [], [], [], [], [], [], [], [], [], [7007, 11081, 11082, 11083], [], [], [], [], [], [], [], [], [], [7200], [], [], [], [], [], [], [], [], [], [], [], [], [], [], [], [], [], [], [], [], [], [], [], [], [], [], [], [], [], [], [], [], [], [], [7007, 11081, 11082, 11083], [], [], [], [], [], [], [], [], [], [], [], [7202], [], [], [], [], [], [], [], [], [], [], [7007, 10222, 10224, 14], [], [], [], [], [], [], [], [], [], []] = true := by decide +kernel
set_option maxRecDepth 1000000 in
set_option maxHeartbeats 0 in
theorem c_X_exchange_28 : zcj zyi 61 false false [128, 0, 106, 108] 6 zc_X_exchange_28 [[], [], [], [], [], [], [], [9039], [], [], [7007, 11218, 11154, 11155], [], [], [], [], [], [], [], [9026], [], [], [], [], [], [], [], [], [], [], [], [], [], [], [], [], [], [], [], [], [9031], [], [], [], [], [7007, 11219, 11196, 11197], [], [], []] = true := by decide +kernel
set_option maxRecDepth 1000000 in
set_option maxHeartbeats 0 in
theorem c_Re_carryGlobal : zcj zyi 274 false false [105, 106, 108, 0] 4 zc_Re_carryGlobal [[], [7001, 0, 9179], [], [], [], [], [], [], [], [], [9023], [], [], [], [], [], [], [], [], [], [9028], [], [], [], [7214], [], [], [], [], [7007, 13053, 11196, 11197], [], [], [], [], [], [], [9023], [], [], [], [], [], [], [], [], [7214], [], [], [], [], [], [9033], [], [], [7007, 13045, 11154, 11155], [], [], [], [], [], [], [], [7214], [], [], [], [], [], [7001, 0, 11216], [], [], [], []] = true := by decide +kernel
set_option maxRecDepth 1000000 in
set_option maxHeartbeats 0 in
theorem c_Re_carryShared : zcj zyi 275 false false [105, 106, 108, 0] 4 zc_Re_carryShared [[], [], [], [7219], [], [], [8168], [], [], [], [], [7001, 0, 8069], [], [], [], [], [], [], [], [], [9023], [], [], [], [], [], [], [], [], [], [9028], [], [], [], [7216], [], [], [], [], [7007, 13053, 11196, 11197], [], [], [], [], [], [], [7216], [], [], [], [], [], [9033], [], [], [7007, 13045, 11154, 11155], [], [], [], [], []] = true := by decide +kernel
