set_option maxRecDepth 1000000 in
set_option maxHeartbeats 0 in
theorem c_M_runBarrier : zcj zyi 158 false false [112, 0] 5 zc_M_runBarrier [[], [], [], [], [], [], [], [], [], [], [], [], [], [], [1718], [], [], [], [], [], [], [], [], [], [], [], [], [], [], [], [], [], [], [], [], [], [1717], [], [], [], [], [], [], [], [], [], [], [], [], [], [], [], [1717], [], [], [], [], [], [], [], [], [], [], [], [], [], [], [], [], [], [], [], [], [], [], [], [], [], [], [1718], [], [], [], [], [], [], [], [], [], [], [], [1718], [], [], [], [], [], [], [], [], [1717], [], [], [], [], [], [], [], [], [], [], [], [], [], [], [], [], [], [], [], [], [], [], [], [], [], [], [], [], [], [], [], [], [], [], [], [], []] = true := by decide +kernel
set_option maxRecDepth 1000000 in
set_option maxHeartbeats 0 in
theorem c_M_runBlock : zcj zyi 159 false false [112, 0, 0, 0, 0] 8 zc_M_runBlock [[], [], [], [], [], [], [], [], [], [], [], [1717], [], [], [], [], [], [], [], [1718], [], [], [], [], [], [], [], [], [1719], [], [], [], [], [], [], [], [1715], [], [], [], [], [], [], [], [], [], [], [], [], [], [], [], [], [], [1716], [], [], [], [], [], [], [], [], [], [], [], [], [], [], [], [], [], [], [], [], [], [], [], [], [], [], [], [], [], [], [], [], [], [], [], [], [], [], [], [], [], [], [], [], [], [], [], [], [], [], [], [], [], [], [], [], [], [], [], [], [], [], [], [], [], [], [], [109, 2243, 2245, 98], [], [], [], [], [], [], [], [], [], [], [], [], [], [], [], [109, 2247, 2249, 99], [], [], [], [], [], [], [], [], [], [], [], [], [], [], [], [], [], [], [], []] = true := by decide +kernel
set_option maxRecDepth 1000000 in
set_option maxHeartbeats 0 in
theorem c_M_serial : zcj zyi 160 false false [112, 0, 0, 0, 0, 0] 9 zc_M_serial [[], [], [1646], [], [], [], [], [], [109, 1889, 1891, 44], [], [], [], [], [], [], [], [109, 1914, 1915], [], [], [], [], [], [], [], [], [], [], [], [109, 1881, 1883, 43], [], [], [], [], [], [], [], [], [], [], [109, 1878, 1879], [], [], [], [], [], [], [], [], [], [109, 1878, 1879], [], [], [], [], [], [], [], [], [], [], [], [109, 1881, 1883, 43], [], [], [], [], [], [], [], [], [], [], [], [], [], [], [], [], [], [], [], [], [], [], [], [1653], [], [], [], [], [], [], [], [], [], [], [], [], [], [], [1655], [], [], [], [], [], [], [], [], [], [], [], [1655], [], [], [], [], [], [], [], [], [], [], [], [1655], [], [], [], [], [], [], [], [], [], [], [], [], [], [], [], [], [], [], [], [], [], [], [], [], [], [], [], [109, 1881, 1883, 43], [], [], [], [], [], [], [], [], [], [], [], [], [], [], [], [], [], [], [1714], [], [], [], [], [], [1649], [], [], [], [], [], [], [], [], [], [], [], [], [], [], [], [], [], [], [], [], [], [], [], [], [], [], [], [], [], [], [], [], [], [], [], [], [], [], [], [], [], [], [], [], [], [], [], [], [], [], [109, 2239, 2241, 97], [], [], [], [], [], [], [], [], [], [], [], [], [], [], [], [], [], [], [], [], [], [], [109, 1881, 1883, 43], [], [], [], [], [], [], [], [], [], [], [1714], [], [], [], [], [], []] = true := by decide +kernel
set_option maxRecDepth 1000000 in
set_option maxHeartbeats 0 in
theorem c_M_lanes : zcj zyi 161 false false [112] 1 zc_M_lanes [[], [], [1646], [], [], [], [1700], [], [], []] = true := by decide +kernel
set_option maxRecDepth 1000000 in
set_option maxHeartbeats 0 in
theorem c_M_misses : zcj zyi 162 false false [112] 1 zc_M_misses [[], [], [1646], [], [], [], [1704], [], [], []] = true := by decide +kernel
set_option maxRecDepth 1000000 in
set_option maxHeartbeats 0 in
theorem c_M_lost : zcj zyi 163 false false [112] 1 zc_M_lost [[], [], [1646], [], [], [], [1705], [], [], []] = true := by decide +kernel
set_option maxRecDepth 1000000 in
set_option maxHeartbeats 0 in
theorem c_M_barriers : zcj zyi 164 false false [112] 1 zc_M_barriers [[], [], [1646], [], [], [], [1706], [], [], []] = true := by decide +kernel
set_option maxRecDepth 1000000 in
set_option maxHeartbeats 0 in
theorem c_M_refused : zcj zyi 165 false false [112] 1 zc_M_refused [[], [], [1646], [], [], [], [1707], [], [], []] = true := by decide +kernel
set_option maxRecDepth 1000000 in
set_option maxHeartbeats 0 in
theorem c_M_usedShare : zcj zyi 166 false false [112] 1 zc_M_usedShare [[], [], [1646], [], [], [], [], [1701], [], [], [], [], [], [], [], [], [], [], [], [109, 1881, 1883, 43], [], [], [], [], [], [], [], [], [], [], [1700], [], [], [], [], [], [1701], [], [], [], [], [], []] = true := by decide +kernel
set_option maxRecDepth 1000000 in
set_option maxHeartbeats 0 in
theorem c_M_meanDelay : zcj zyi 167 false false [112] 1 zc_M_meanDelay [[], [], [1646], [], [], [], [], [1702], [], [], [], [], [], [], [], [], [], [], [], [109, 1881, 1883, 43], [], [], [], [], [], [], [], [], [], [], [1703], [], [], [], [], [1702], [], [], [], [], []] = true := by decide +kernel
set_option maxRecDepth 1000000 in
set_option maxHeartbeats 0 in
theorem c_M_isSound : zcj zyi 168 false false [112] 1 zc_M_isSound [[], [], [1646], [], [], [], []] = true := by decide +kernel
set_option maxRecDepth 1000000 in
set_option maxHeartbeats 0 in
theorem c_Lw_addKernel : zcj zyi 289 false false [100, 0, 0, 151] 5 zc_Lw_addKernel [[], [], [], [], [], [101, 404, 405, 406, 402, 403], [], [], [], [], [], [], [], [], [], [], [], [], [], [], [], [], []] = true := by decide +kernel
set_option maxRecDepth 1000000 in
set_option maxHeartbeats 0 in
theorem c_Lw_code : zcj zyi 290 false false [100, 0, 0, 0, 0, 0, 151] 8 zc_Lw_code [[], [], [], [], [], [], [], [], [], [], [], [101, 568, 569, 570, 535, 402, 403], [], [], [], [], [], [], [], [], [], [], [], [], [], [], [], [], [], [], [], [], []] = true := by decide +kernel
set_option maxRecDepth 1000000 in
set_option maxHeartbeats 0 in
theorem c_Lw_fits : zcj zyi 291 false false [100, 0, 0, 151] 5 zc_Lw_fits [[], [], [], [], [], [101, 739, 740, 741, 535, 402], [], [], [], [], [], [], [], [], [], [], [], [], [], [], [], [], []] = true := by decide +kernel
set_option maxRecDepth 1000000 in
set_option maxHeartbeats 0 in
theorem c_Lw_poke : zcj zyi 292 false false [100, 0, 0, 151] 5 zc_Lw_poke [[], [], [], [], [], [101, 754, 755, 756, 535], [], [], [], [], [], [], [], [], [], [], [], [], []] = true := by decide +kernel
set_option maxRecDepth 1000000 in
set_option maxHeartbeats 0 in
theorem c_Lw_peek : zcj zyi 293 false false [100, 0, 151] 4 zc_Lw_peek [[], [], [], [], [101, 764, 765, 766, 535], [], [], [], [], [], [], [], [], [], [], [], []] = true := by decide +kernel
set_option maxRecDepth 1000000 in
set_option maxHeartbeats 0 in
theorem c_Lw_launch : zcj zyi 294 false false [100, 0, 0, 0, 0, 0, 151] 8 zc_Lw_launch [[], [], [], [], [], [], [], [], [], [], [], [101, 772, 773, 774, 535, 402, 771, 403], [], [], [], [], [], [], [], [], [], [], [], [], [], [], [], [], [], [], [], [], [], [], [], [], []] = true := by decide +kernel
set_option maxRecDepth 1000000 in
set_option maxHeartbeats 0 in
theorem c_Lw_copy : zcj zyi 295 false false [100, 0, 0, 0, 0, 0, 151] 8 zc_Lw_copy [[], [], [], [], [], [], [], [], [], [], [], [101, 918, 919, 920, 535, 402, 403], [], [], [], [], [], [], [], [], [], [], [], [], [], [], [], [], [], [], [], [], []] = true := by decide +kernel
set_option maxRecDepth 1000000 in
set_option maxHeartbeats 0 in
theorem c_Lw_state : zcj zyi 296 false false [100, 0, 151] 4 zc_Lw_state [[], [], [], [], [101, 929, 930, 931, 535], [], [], [], [], [], [], [], [], [], [], [], []] = true := by decide +kernel
set_option maxRecDepth 1000000 in
set_option maxHeartbeats 0 in
theorem c_Lw_parent : zcj zyi 297 false false [100, 0, 151] 4 zc_Lw_parent [[], [], [], [], [101, 937, 938, 939, 535, 936], [], [], [], [], [], [], [], [], [], [], [], [], [], [], []] = true := by decide +kernel
set_option maxRecDepth 1000000 in
set_option maxHeartbeats 0 in
theorem c_Lw_given : zcj zyi 298 false false [100, 0, 151] 4 zc_Lw_given [[], [], [], [], [101, 959, 960, 961, 535], [], [], [], [], [], [], [], [], [], [], [], []] = true := by decide +kernel
set_option maxRecDepth 1000000 in
set_option maxHeartbeats 0 in
theorem c_Lw_step : zcj zyi 299 false false [100, 0, 151] 4 zc_Lw_step [[], [], [], [], [101, 966, 967, 968, 402], [], [], [], [], [], [], [], [], [], [], [], []] = true := by decide +kernel
set_option maxRecDepth 1000000 in
set_option maxHeartbeats 0 in
theorem c_Lw_run : zcj zyi 300 false false [100, 0, 151] 4 zc_Lw_run [[], [], [], [], [101, 1405, 1406, 1407, 402], [], [], [], [], [], [], [], [], [], [], [], []] = true := by decide +kernel
set_option maxRecDepth 1000000 in
set_option maxHeartbeats 0 in
theorem c_Lw_setOrder : zcj zyi 301 false false [100, 0, 151] 4 zc_Lw_setOrder [[], [], [], [], [101, 1416, 1417, 1418, 402], [], [], [], [], [], [], [], [], [], [], [], []] = true := by decide +kernel
set_option maxRecDepth 1000000 in
set_option maxHeartbeats 0 in
theorem c_Lw_groups : zcj zyi 302 false false [100, 0, 151] 4 zc_Lw_groups [[], [], [], [], [101, 1423, 1424, 1425, 535], [], [], [], [], [], [], [], [], [], [], [], []] = true := by decide +kernel
set_option maxRecDepth 1000000 in
set_option maxHeartbeats 0 in
theorem c_Lw_threadAt : zcj zyi 303 false false [100, 0, 0, 151] 5 zc_Lw_threadAt [[], [], [], [], [], [101, 1434, 1435, 1436, 535], [], [], [], [], [], [], [], [], [], [], [], [], []] = true := by decide +kernel
set_option maxRecDepth 1000000 in
set_option maxHeartbeats 0 in
theorem c_Lw_place : zcj zyi 304 false false [100, 0, 0, 151] 5 zc_Lw_place [[], [], [], [], [], [101, 1450, 1451, 1452, 535, 936], [], [], [], [], [], [], [], [], [], [], [], [], [], [], [], [], []] = true := by decide +kernel
set_option maxRecDepth 1000000 in
set_option maxHeartbeats 0 in
theorem c_Lw_mask : zcj zyi 305 false false [100, 0, 0, 151] 5 zc_Lw_mask [[], [], [], [], [], [101, 1458, 1459, 1460, 535], [], [], [], [], [], [], [], [], [], [], [], [], []] = true := by decide +kernel
set_option maxRecDepth 1000000 in
set_option maxHeartbeats 0 in
theorem c_Lw_places : zcj zyi 306 false false [100, 0, 0, 151] 5 zc_Lw_places [[], [], [], [], [], [101, 1466, 1467, 1468, 535], [], [], [], [], [], [], [], [], [], [], [], [], []] = true := by decide +kernel
set_option maxRecDepth 1000000 in
set_option maxHeartbeats 0 in
theorem c_Lw_reason : zcj zyi 307 false false [100, 0, 0, 151] 5 zc_Lw_reason [[], [], [], [], [], [101, 1481, 1482, 1483, 535], [], [], [], [], [], [], [], [], [], [], [], [], []] = true := by decide +kernel
set_option maxRecDepth 1000000 in
set_option maxHeartbeats 0 in
theorem c_Lw_register : zcj zyi 308 false false [100, 0, 0, 0, 0, 151] 7 zc_Lw_register [[], [], [], [], [], [], [], [], [], [101, 1493, 1494, 1495, 535], [], [], [], [], [], [], [], [], [], [], [], [], []] = true := by decide +kernel
set_option maxRecDepth 1000000 in
set_option maxHeartbeats 0 in
theorem c_Lw_shared : zcj zyi 309 false false [100, 0, 0, 0, 151] 6 zc_Lw_shared [[], [], [], [], [], [], [], [101, 1502, 1503, 1504, 535], [], [], [], [], [], [], [], [], [], [], [], [], []] = true := by decide +kernel
set_option maxRecDepth 1000000 in
set_option maxHeartbeats 0 in
theorem c_Lw_buffered : zcj zyi 310 false false [100, 0, 0, 151] 5 zc_Lw_buffered [[], [], [], [], [], [101, 1510, 1511, 1512, 535], [], [], [], [], [], [], [], [], [], [], [], [], []] = true := by decide +kernel
set_option maxRecDepth 1000000 in
set_option maxHeartbeats 0 in
theorem c_Lw_fault : zcj zyi 311 false false [100, 0, 151] 4 zc_Lw_fault [[], [], [], [], [101, 1517, 1518, 1519, 535, 936], [], [], [], [], [], [], [], [], [], [], [], [], [], [], []] = true := by decide +kernel
set_option maxRecDepth 1000000 in
set_option maxHeartbeats 0 in
theorem c_Lw_faultAt : zcj zyi 312 false false [100, 0, 151] 4 zc_Lw_faultAt [[], [], [], [], [101, 1528, 1529, 1530, 535, 936], [], [], [], [], [], [], [], [], [], [], [], [], [], [], []] = true := by decide +kernel
set_option maxRecDepth 1000000 in
set_option maxHeartbeats 0 in
theorem c_Lw_isRacing : zcj zyi 313 false false [100, 0, 0, 151] 5 zc_Lw_isRacing [[], [], [], [], [], [101, 1535, 1536, 1537, 535], [], [], [], [], [], [], [], [], [], [], [], [], [], [], [], [], [], [], [], []] = true := by decide +kernel
set_option maxRecDepth 1000000 in
set_option maxHeartbeats 0 in
theorem c_Lw_races : zcj zyi 314 false false [100, 0, 151] 4 zc_Lw_races [[], [], [], [], [101, 1542, 1543, 1544, 535], [], [], [], [], [], [], [], [], [], [], [], []] = true := by decide +kernel
set_option maxRecDepth 1000000 in
set_option maxHeartbeats 0 in
theorem c_Lw_serial : zcj zyi 315 false false [100, 0, 0, 0, 0, 0, 151] 8 zc_Lw_serial [[], [], [], [], [], [], [], [], [], [], [], [101, 1549, 1550, 1551, 535, 402, 771, 403], [], [], [], [], [], [], [], [], [], [], [], [], [], [], [], [], [], [], [], [], [], [], [], [], []] = true := by decide +kernel
set_option maxRecDepth 1000000 in
set_option maxHeartbeats 0 in
theorem c_Lw_usedShare : zcj zyi 316 false false [100, 152] 3 zc_Lw_usedShare [[], [], [], [101, 1622, 1623, 1624, 1608], [], [], [], [], [], [], [], [], [], [], [], []] = true := by decide +kernel
set_option maxRecDepth 1000000 in
set_option maxHeartbeats 0 in
theorem c_Lw_meanDelay : zcj zyi 317 false false [100, 152] 3 zc_Lw_meanDelay [[], [], [], [101, 1635, 1636, 1637, 1608], [], [], [], [], [], [], [], [], [], [], []] = true := by decide +kernel
