set_option maxRecDepth 1000000 in
set_option maxHeartbeats 0 in
theorem c_M_runBarrier : zcj zyi 158 false false [112, 0] 5 zc_M_runBarrier [[], [], [], [], [], [], [], [], [], [], [], [], [], [], [13178], [], [], [], [], [], [], [], [], [], [], [], [], [], [], [], [], [], [], [], [], [], [13177], [], [], [], [], [], [], [], [], [], [], [], [], [], [], [], [13177], [], [], [], [], [], [], [], [], [], [], [], [], [], [], [], [], [], [], [], [], [], [], [], [], [], [], [13178], [], [], [], [], [], [], [], [], [], [], [], [13178], [], [], [], [], [], [], [], [], [13177], [], [], [], [], [], [], [], [], [], [], [], [], [], [], [], [], [], [], [], [], [], [], [], [], [], [], [], [], [], [], [], [], [], [], [], [], []] = true := by decide +kernel
set_option maxRecDepth 1000000 in
set_option maxHeartbeats 0 in
theorem c_M_runBlock : zcj zyi 159 false false [112, 0, 0, 0, 0] 8 zc_M_runBlock [[], [], [], [], [], [], [], [], [], [], [], [13177], [], [], [], [], [], [], [], [13178], [], [], [], [], [], [], [], [], [13179], [], [], [], [], [], [], [], [13175], [], [], [], [], [], [], [], [], [], [], [], [], [], [], [], [], [], [13176], [], [], [], [], [], [], [], [], [], [], [], [], [], [], [], [], [], [], [], [], [], [], [], [], [], [], [], [], [], [], [], [], [], [], [], [], [], [], [], [], [], [], [], [], [], [], [], [], [], [], [], [], [], [], [], [], [], [], [], [], [], [], [], [], [], [], [], [7009, 15223, 15225, 6002], [], [], [], [], [], [], [], [], [], [], [], [], [], [], [], [7009, 15227, 15229, 6003], [], [], [], [], [], [], [], [], [], [], [], [], [], [], [], [], [], [], [], []] = true := by decide +kernel
set_option maxRecDepth 1000000 in
set_option maxHeartbeats 0 in
theorem c_M_serial : zcj zyi 160 false false [112, 0, 0, 0, 0, 0] 9 zc_M_serial [[], [], [13106], [], [], [], [], [], [7009, 14109, 14111, 2012], [], [], [], [], [], [], [], [7009, 14134, 14135], [], [], [], [], [], [], [], [], [], [], [], [7009, 14101, 14103, 2011], [], [], [], [], [], [], [], [], [], [], [7009, 14098, 14099], [], [], [], [], [], [], [], [], [], [7009, 14098, 14099], [], [], [], [], [], [], [], [], [], [], [], [7009, 14101, 14103, 2011], [], [], [], [], [], [], [], [], [], [], [], [], [], [], [], [], [], [], [], [], [], [], [], [13113], [], [], [], [], [], [], [], [], [], [], [], [], [], [], [13115], [], [], [], [], [], [], [], [], [], [], [], [13115], [], [], [], [], [], [], [], [], [], [], [], [13115], [], [], [], [], [], [], [], [], [], [], [], [], [], [], [], [], [], [], [], [], [], [], [], [], [], [], [], [7009, 14101, 14103, 2011], [], [], [], [], [], [], [], [], [], [], [], [], [], [], [], [], [], [], [13174], [], [], [], [], [], [13109], [], [], [], [], [], [], [], [], [], [], [], [], [], [], [], [], [], [], [], [], [], [], [], [], [], [], [], [], [], [], [], [], [], [], [], [], [], [], [], [], [], [], [], [], [], [], [], [], [], [], [7009, 15219, 15221, 6001], [], [], [], [], [], [], [], [], [], [], [], [], [], [], [], [], [], [], [], [], [], [], [7009, 14101, 14103, 2011], [], [], [], [], [], [], [], [], [], [], [13174], [], [], [], [], [], []] = true := by decide +kernel
set_option maxRecDepth 1000000 in
set_option maxHeartbeats 0 in
theorem c_M_lanes : zcj zyi 161 false false [112] 1 zc_M_lanes [[], [], [13106], [], [], [], [13160], [], [], []] = true := by decide +kernel
set_option maxRecDepth 1000000 in
set_option maxHeartbeats 0 in
theorem c_M_misses : zcj zyi 162 false false [112] 1 zc_M_misses [[], [], [13106], [], [], [], [13164], [], [], []] = true := by decide +kernel
set_option maxRecDepth 1000000 in
set_option maxHeartbeats 0 in
theorem c_M_lost : zcj zyi 163 false false [112] 1 zc_M_lost [[], [], [13106], [], [], [], [13165], [], [], []] = true := by decide +kernel
set_option maxRecDepth 1000000 in
set_option maxHeartbeats 0 in
theorem c_M_barriers : zcj zyi 164 false false [112] 1 zc_M_barriers [[], [], [13106], [], [], [], [13166], [], [], []] = true := by decide +kernel
set_option maxRecDepth 1000000 in
set_option maxHeartbeats 0 in
theorem c_M_refused : zcj zyi 165 false false [112] 1 zc_M_refused [[], [], [13106], [], [], [], [13167], [], [], []] = true := by decide +kernel
set_option maxRecDepth 1000000 in
set_option maxHeartbeats 0 in
theorem c_M_usedShare : zcj zyi 166 false false [112] 1 zc_M_usedShare [[], [], [13106], [], [], [], [], [13161], [], [], [], [], [], [], [], [], [], [], [], [7009, 14101, 14103, 2011], [], [], [], [], [], [], [], [], [], [], [13160], [], [], [], [], [], [13161], [], [], [], [], [], []] = true := by decide +kernel
set_option maxRecDepth 1000000 in
set_option maxHeartbeats 0 in
theorem c_M_meanDelay : zcj zyi 167 false false [112] 1 zc_M_meanDelay [[], [], [13106], [], [], [], [], [13162], [], [], [], [], [], [], [], [], [], [], [], [7009, 14101, 14103, 2011], [], [], [], [], [], [], [], [], [], [], [13163], [], [], [], [], [13162], [], [], [], [], []] = true := by decide +kernel
set_option maxRecDepth 1000000 in
set_option maxHeartbeats 0 in
theorem c_M_isSound : zcj zyi 168 false false [112] 1 zc_M_isSound [[], [], [13106], [], [], [], []] = true := by decide +kernel
set_option maxRecDepth 1000000 in
set_option maxHeartbeats 0 in
theorem c_Lw_addKernel : zcj zyi 289 false false [100, 0, 0, 151] 5 zc_Lw_addKernel [[], [], [], [], [], [7001, 8064, 8065, 8066, 8062, 8063], [], [], [], [], [], [], [], [], [], [], [], [], [], [], [], [], []] = true := by decide +kernel
set_option maxRecDepth 1000000 in
set_option maxHeartbeats 0 in
theorem c_Lw_code : zcj zyi 290 false false [100, 0, 0, 0, 0, 0, 151] 8 zc_Lw_code [[], [], [], [], [], [], [], [], [], [], [], [7001, 8228, 8229, 8230, 8195, 8062, 8063], [], [], [], [], [], [], [], [], [], [], [], [], [], [], [], [], [], [], [], [], []] = true := by decide +kernel
set_option maxRecDepth 1000000 in
set_option maxHeartbeats 0 in
theorem c_Lw_fits : zcj zyi 291 false false [100, 0, 0, 151] 5 zc_Lw_fits [[], [], [], [], [], [7001, 9159, 9160, 9161, 8195, 8062], [], [], [], [], [], [], [], [], [], [], [], [], [], [], [], [], []] = true := by decide +kernel
set_option maxRecDepth 1000000 in
set_option maxHeartbeats 0 in
theorem c_Lw_poke : zcj zyi 292 false false [100, 0, 0, 151] 5 zc_Lw_poke [[], [], [], [], [], [7001, 9174, 9175, 9176, 8195], [], [], [], [], [], [], [], [], [], [], [], [], []] = true := by decide +kernel
set_option maxRecDepth 1000000 in
set_option maxHeartbeats 0 in
theorem c_Lw_peek : zcj zyi 293 false false [100, 0, 151] 4 zc_Lw_peek [[], [], [], [], [7001, 9184, 9185, 9186, 8195], [], [], [], [], [], [], [], [], [], [], [], []] = true := by decide +kernel
set_option maxRecDepth 1000000 in
set_option maxHeartbeats 0 in
theorem c_Lw_launch : zcj zyi 294 false false [100, 0, 0, 0, 0, 0, 151] 8 zc_Lw_launch [[], [], [], [], [], [], [], [], [], [], [], [7001, 9192, 9193, 9194, 8195, 8062, 9191, 8063], [], [], [], [], [], [], [], [], [], [], [], [], [], [], [], [], [], [], [], [], [], [], [], [], []] = true := by decide +kernel
set_option maxRecDepth 1000000 in
set_option maxHeartbeats 0 in
theorem c_Lw_copy : zcj zyi 295 false false [100, 0, 0, 0, 0, 0, 151] 8 zc_Lw_copy [[], [], [], [], [], [], [], [], [], [], [], [7001, 10098, 10099, 10100, 8195, 8062, 8063], [], [], [], [], [], [], [], [], [], [], [], [], [], [], [], [], [], [], [], [], []] = true := by decide +kernel
set_option maxRecDepth 1000000 in
set_option maxHeartbeats 0 in
theorem c_Lw_state : zcj zyi 296 false false [100, 0, 151] 4 zc_Lw_state [[], [], [], [], [7001, 10109, 10110, 10111, 8195], [], [], [], [], [], [], [], [], [], [], [], []] = true := by decide +kernel
set_option maxRecDepth 1000000 in
set_option maxHeartbeats 0 in
theorem c_Lw_parent : zcj zyi 297 false false [100, 0, 151] 4 zc_Lw_parent [[], [], [], [], [7001, 10117, 10118, 10119, 8195, 10116], [], [], [], [], [], [], [], [], [], [], [], [], [], [], []] = true := by decide +kernel
set_option maxRecDepth 1000000 in
set_option maxHeartbeats 0 in
theorem c_Lw_given : zcj zyi 298 false false [100, 0, 151] 4 zc_Lw_given [[], [], [], [], [7001, 10139, 10140, 10141, 8195], [], [], [], [], [], [], [], [], [], [], [], []] = true := by decide +kernel
set_option maxRecDepth 1000000 in
set_option maxHeartbeats 0 in
theorem c_Lw_step : zcj zyi 299 false false [100, 0, 151] 4 zc_Lw_step [[], [], [], [], [7001, 10146, 10147, 10148, 8062], [], [], [], [], [], [], [], [], [], [], [], []] = true := by decide +kernel
set_option maxRecDepth 1000000 in
set_option maxHeartbeats 0 in
theorem c_Lw_run : zcj zyi 300 false false [100, 0, 151] 4 zc_Lw_run [[], [], [], [], [7001, 12105, 12106, 12107, 8062], [], [], [], [], [], [], [], [], [], [], [], []] = true := by decide +kernel
set_option maxRecDepth 1000000 in
set_option maxHeartbeats 0 in
theorem c_Lw_setOrder : zcj zyi 301 false false [100, 0, 151] 4 zc_Lw_setOrder [[], [], [], [], [7001, 12116, 12117, 12118, 8062], [], [], [], [], [], [], [], [], [], [], [], []] = true := by decide +kernel
set_option maxRecDepth 1000000 in
set_option maxHeartbeats 0 in
theorem c_Lw_groups : zcj zyi 302 false false [100, 0, 151] 4 zc_Lw_groups [[], [], [], [], [7001, 12123, 12124, 12125, 8195], [], [], [], [], [], [], [], [], [], [], [], []] = true := by decide +kernel
set_option maxRecDepth 1000000 in
set_option maxHeartbeats 0 in
theorem c_Lw_threadAt : zcj zyi 303 false false [100, 0, 0, 151] 5 zc_Lw_threadAt [[], [], [], [], [], [7001, 12134, 12135, 12136, 8195], [], [], [], [], [], [], [], [], [], [], [], [], []] = true := by decide +kernel
set_option maxRecDepth 1000000 in
set_option maxHeartbeats 0 in
theorem c_Lw_place : zcj zyi 304 false false [100, 0, 0, 151] 5 zc_Lw_place [[], [], [], [], [], [7001, 12150, 12151, 12152, 8195, 10116], [], [], [], [], [], [], [], [], [], [], [], [], [], [], [], [], []] = true := by decide +kernel
set_option maxRecDepth 1000000 in
set_option maxHeartbeats 0 in
theorem c_Lw_mask : zcj zyi 305 false false [100, 0, 0, 151] 5 zc_Lw_mask [[], [], [], [], [], [7001, 12158, 12159, 12160, 8195], [], [], [], [], [], [], [], [], [], [], [], [], []] = true := by decide +kernel
set_option maxRecDepth 1000000 in
set_option maxHeartbeats 0 in
theorem c_Lw_places : zcj zyi 306 false false [100, 0, 0, 151] 5 zc_Lw_places [[], [], [], [], [], [7001, 12166, 12167, 12168, 8195], [], [], [], [], [], [], [], [], [], [], [], [], []] = true := by decide +kernel
set_option maxRecDepth 1000000 in
set_option maxHeartbeats 0 in
theorem c_Lw_reason : zcj zyi 307 false false [100, 0, 0, 151] 5 zc_Lw_reason [[], [], [], [], [], [7001, 12181, 12182, 12183, 8195], [], [], [], [], [], [], [], [], [], [], [], [], []] = true := by decide +kernel
set_option maxRecDepth 1000000 in
set_option maxHeartbeats 0 in
theorem c_Lw_register : zcj zyi 308 false false [100, 0, 0, 0, 0, 151] 7 zc_Lw_register [[], [], [], [], [], [], [], [], [], [7001, 12193, 12194, 12195, 8195], [], [], [], [], [], [], [], [], [], [], [], [], []] = true := by decide +kernel
set_option maxRecDepth 1000000 in
set_option maxHeartbeats 0 in
theorem c_Lw_shared : zcj zyi 309 false false [100, 0, 0, 0, 151] 6 zc_Lw_shared [[], [], [], [], [], [], [], [7001, 12202, 12203, 12204, 8195], [], [], [], [], [], [], [], [], [], [], [], [], []] = true := by decide +kernel
set_option maxRecDepth 1000000 in
set_option maxHeartbeats 0 in
theorem c_Lw_buffered : zcj zyi 310 false false [100, 0, 0, 151] 5 zc_Lw_buffered [[], [], [], [], [], [7001, 12210, 12211, 12212, 8195], [], [], [], [], [], [], [], [], [], [], [], [], []] = true := by decide +kernel
set_option maxRecDepth 1000000 in
set_option maxHeartbeats 0 in
theorem c_Lw_fault : zcj zyi 311 false false [100, 0, 151] 4 zc_Lw_fault [[], [], [], [], [7001, 12217, 12218, 12219, 8195, 10116], [], [], [], [], [], [], [], [], [], [], [], [], [], [], []] = true := by decide +kernel
set_option maxRecDepth 1000000 in
set_option maxHeartbeats 0 in
theorem c_Lw_faultAt : zcj zyi 312 false false [100, 0, 151] 4 zc_Lw_faultAt [[], [], [], [], [7001, 12228, 12229, 12230, 8195, 10116], [], [], [], [], [], [], [], [], [], [], [], [], [], [], []] = true := by decide +kernel
set_option maxRecDepth 1000000 in
set_option maxHeartbeats 0 in
theorem c_Lw_isRacing : zcj zyi 313 false false [100, 0, 0, 151] 5 zc_Lw_isRacing [[], [], [], [], [], [7001, 12235, 12236, 12237, 8195], [], [], [], [], [], [], [], [], [], [], [], [], [], [], [], [], [], [], [], []] = true := by decide +kernel
set_option maxRecDepth 1000000 in
set_option maxHeartbeats 0 in
theorem c_Lw_races : zcj zyi 314 false false [100, 0, 151] 4 zc_Lw_races [[], [], [], [], [7001, 13002, 13003, 13004, 8195], [], [], [], [], [], [], [], [], [], [], [], []] = true := by decide +kernel
set_option maxRecDepth 1000000 in
set_option maxHeartbeats 0 in
theorem c_Lw_serial : zcj zyi 315 false false [100, 0, 0, 0, 0, 0, 151] 8 zc_Lw_serial [[], [], [], [], [], [], [], [], [], [], [], [7001, 13009, 13010, 13011, 8195, 8062, 9191, 8063], [], [], [], [], [], [], [], [], [], [], [], [], [], [], [], [], [], [], [], [], [], [], [], [], []] = true := by decide +kernel
set_option maxRecDepth 1000000 in
set_option maxHeartbeats 0 in
theorem c_Lw_usedShare : zcj zyi 316 false false [100, 152] 3 zc_Lw_usedShare [[], [], [], [7001, 13082, 13083, 13084, 13068], [], [], [], [], [], [], [], [], [], [], [], []] = true := by decide +kernel
set_option maxRecDepth 1000000 in
set_option maxHeartbeats 0 in
theorem c_Lw_meanDelay : zcj zyi 317 false false [100, 152] 3 zc_Lw_meanDelay [[], [], [], [7001, 13095, 13096, 13097, 13068], [], [], [], [], [], [], [], [], [], [], []] = true := by decide +kernel
