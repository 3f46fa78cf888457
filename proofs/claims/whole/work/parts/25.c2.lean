set_option maxRecDepth 1000000 in
set_option maxHeartbeats 0 in
theorem c_Co_countedDelay : zcj zyi 192 false false [102, 103, 108] 4 zc_Co_countedDelay [[], [], [], [103, 1333, 1335, 27], [], [], [], [], [243], [], [], [], [209], [], [], [], [], [], [209], [], [], [], [243], [], [], [], [211], [], [], [], [], [211], [], [], [], [], [], [119, 1221, 635, 636], [], [], [], [], [], [], [243], [], [], [], [215], [], [], [], [], [], [], [215], [], [], [], []] = true := by decide +kernel
set_option maxRecDepth 1000000 in
set_option maxHeartbeats 0 in
theorem c_Un_dropLaunch : zcj zyi 283 false false [103, 109] 4 zc_Un_dropLaunch [[], [], [], [], [], [], [185], [], [], [], [], [], [], [182], [], [], [], [], [1092], [], [], [1049], [], [], [], [], [], [], [], [182], [], [], [], [], [182], [], [], [], [], [], [], [], [], [], [], [], [], [], [], [], [], [104, 1149, 1151, 16], [], [], []] = true := by decide +kernel
set_option maxRecDepth 1000000 in
set_option maxHeartbeats 0 in
theorem c_Co_fail : zcj zyi 200 false false [102, 110, 0, 0, 0] 7 zc_Co_fail [[], [1050], [], [], [], [], [], [], [], [], [852], [], [], [], [], [], [], [853], [], [], [], [], [], [], [], [], [1054], [], [], [], [], [], [], [], [], [], [], [855], [], [], [], [], [], [], [], [], [], [], [], [], [241], [], [], [], [], [], [], [], [104, 1321, 1322, 1323], [], [], [], [], [], [], [], [], [], [238], [], [], [], [], [833], [], [], [102, 1153, 1154, 1155], [], [], []] = true := by decide +kernel
set_option maxRecDepth 1000000 in
set_option maxHeartbeats 0 in
theorem c_Gr_placeIn : zcj zyi 204 false false [111, 0] 3 zc_Gr_placeIn [[], [], [129, 1185, 1186, 1187], [], [], [], [], [], [], [], [], [107, 1189, 1135, 1136], [], [], [], [], [], [], [298], [], [], [], [], [], [], []] = true := by decide +kernel
set_option maxRecDepth 1000000 in
set_option maxHeartbeats 0 in
theorem c_Gr_leastPlace : zcj zyi 205 false false [111] 4 zc_Gr_leastPlace [[], [], [], [], [], [], [], [], [], [], [], [129, 1181, 1183, 19], [], [], [], [], [], [], [], [], [], [], [], [], [], [], [], [], [], [], [], [], [], [], [], [], [], [], [], []] = true := by decide +kernel
set_option maxRecDepth 1000000 in
set_option maxHeartbeats 0 in
theorem c_Gr_lanesUnderMask : zcj zyi 206 false false [111] 4 zc_Gr_lanesUnderMask [[], [129, 1177, 1178, 1179], [], [], [], [], [], [], [], [], [], [], [], [], [], [], [], [], [], [], [], [129, 1181, 1183, 19], [], [], [], [], [], [], [], [], [], [], [], [], [], [], [], [], [], [], [], []] = true := by decide +kernel
set_option maxRecDepth 1000000 in
set_option maxHeartbeats 0 in
theorem c_Ke_instructionAt : zcj zyi 224 false false [107, 0] 2 zc_Ke_instructionAt [[], [], [], [511], [], [], [], [], [101, 0, 409], [], [], [], [], [], [], [509], [], [], [], [], [], [], [], [], []] = true := by decide +kernel
set_option maxRecDepth 1000000 in
set_option maxHeartbeats 0 in
theorem c_Th_goOn : zcj zyi 261 false false [106, 108, 0] 3 zc_Th_goOn [[], [604], [], [], [], [], [], [], [], [], [], [], [302], [], [], [], [], [], [], [604], [], [], [], [], [], [], [], [], [], [], [302], [], [], [], [], [], [], [604], [], [], [], [], [], [], [], [], [604], [], [], [], [], [], [], [], [], [], [609], [], [], [107, 1316, 1214, 1215], [], [], [], [], [], [], [], [614], [], [], [], [107, 1042, 1044, 14], [], [], [], [], [], [], [], [300], [], [], [], [], [], [107, 1042, 1044, 14], [], [], []] = true := by decide +kernel
set_option maxRecDepth 1000000 in
set_option maxHeartbeats 0 in
theorem c_Co_carryOut : zcj zyi 186 false false [102, 103, 111] 9 zc_Co_carryOut [[], [129, 1194, 1178, 1179], [], [], [], [], [1091], [], [], [1050], [], [], [837], [], [], [], [], [], [], [], [115, 1195, 1196, 1197], [], [], [], [], [], [], [], [], [], [], [], [], [243], [], [], [], [205], [], [], [], [], [205], [], [], [], [], [129, 1199, 1200, 1201], [], [], [251], [], [], [], [], [], [], [103, 1203, 1205, 21], [], [], [], [], [], [], [], [], [], [], [], [], [], [], [129, 1207, 1186, 1187], [], [], [], [], [], [], [], [], [], [], [251], [], [], [], [], [101, 0, 1218], [], [], [], [], [], [], [], [], [], [], [], [], [], [], [], [], [103, 1226, 1228, 22], [], [], [], [], [], [], [], [], [], [], [], [], [], [1091], [], [], [], [], [295], [], [], [], [], [], [103, 1317, 1319, 25], [], [], [], [], [], [], [], [], [], [], [514], [], [], [107, 1325, 1326, 1327], [], [], [], [243], [], [], [], [207], [], [], [], [], [207], [], [], [], [], [], [], [], [], [], [], [245], [], [], [], [], [], [], [103, 1329, 1331, 26], [], [], [], [1102], [], [], [], []] = true := by decide +kernel
set_option maxRecDepth 1000000 in
set_option maxHeartbeats 0 in
theorem c_Bl_isAllWaiting : zcj zyi 173 false false [110] 1 zc_Bl_isAllWaiting [[], [1055], [], [], [], [1055], [], [], [], [107, 1131, 1132], [], [], [], [], [], [], [1055], [], [], [], [1055], [], [], [], [107, 1138, 1139], [], [], [], [], [], [], [], [], [], [], []] = true := by decide +kernel
set_option maxRecDepth 1000000 in
set_option maxHeartbeats 0 in
theorem c_Th_isEnded : zcj zyi 257 false false [106] 1 zc_Th_isEnded [[], [302], [], [], [], [], [], [], [], [], [], [], [], [], []] = true := by decide +kernel
set_option maxRecDepth 1000000 in
set_option maxHeartbeats 0 in
theorem c_Gr_hasEnded : zcj zyi 209 false false [111] 3 zc_Gr_hasEnded [[], [], [], [], [], [], [], [], [], [129, 1185, 1186, 1187], [], [], [], [], [], [], [], [], [107, 1373, 1374, 1375], [], [], [], [], [], [], [], [], [], [], [], [], [], [], []] = true := by decide +kernel
set_option maxRecDepth 1000000 in
set_option maxHeartbeats 0 in
theorem c_Bl_writeEndedGroups : zcj zyi 178 false false [110, 122] 3 zc_Bl_writeEndedGroups [[], [], [], [], [1058], [], [], [], [], [], [], [], [1058], [], [], [], [], [129, 1369, 1370, 1371], [], [], [], [], [], [], [1058], [], [], [], [], [], [129, 1377, 1223, 1224], [], [], [], [], [], [], [], [], [], []] = true := by decide +kernel
set_option maxRecDepth 1000000 in
set_option maxHeartbeats 0 in
theorem c_Bl_lowestWaiting : zcj zyi 174 false false [110] 1 zc_Bl_lowestWaiting [[], [1055], [], [], [], [1055], [], [], [], [107, 1138, 1139], [], [], []] = true := by decide +kernel
set_option maxRecDepth 1000000 in
set_option maxHeartbeats 0 in
theorem c_Th_release_36 : zcj zyi 267 false false [136, 0, 0, 0] 5 zc_Th_release_36 [[], [], [], [], [], [], [], [], [], [], [], [], [], [], [], [], [], [], [], [], [107, 1141, 1142, 1143], [], [], [], [], [], [], [], [], [], [300], [], [], [], [], [], [], [], [], [], [], [], [], [], [], [], [], [], [], [], [], [], [], [], [], [], [], [], [], [], [], [], [], [], [], [107, 1141, 1142, 1143], [], [], [], [], [], [], [], [], [], [], [], [302], [], [], [], [], [], [], [], [], [], [], [107, 1042, 1044, 14], [], [], [], [], [], [], [], [], [], []] = true := by decide +kernel
set_option maxRecDepth 1000000 in
set_option maxHeartbeats 0 in
theorem c_Bl_passBarrier : zcj zyi 175 false false [110, 0] 2 zc_Bl_passBarrier [[], [1055], [], [], [], [1055], [], [], [], [], [], [1048], [], [], [834], [], [], [510], [], [], [107, 1394, 1395], [], [], [], [], [], [], [], [], [1064], [], [], [], [128, 1397, 1040], [], [], [], [1065], [], [], [], [128, 1397, 1040], [], [], [], []] = true := by decide +kernel
set_option maxRecDepth 1000000 in
set_option maxHeartbeats 0 in
theorem c_Co_lookAtBarrier : zcj zyi 198 false false [102, 110] 3 zc_Co_lookAtBarrier [[], [127, 1386, 1387, 1388], [], [], [], [], [], [], [], [], [], [], [301], [], [], [127, 1390, 1391, 1392], [], [], [], [], [], [], [243], [], [], [], [217], [], [], [], [], [217], [], [], [], [], [239], [], [], [127, 1365, 1366, 1367], [], [], [], [], [], [], [], [], [295], [], [], [], [301], [], [], [], [], [103, 1317, 1319, 25], [], [], []] = true := by decide +kernel
set_option maxRecDepth 1000000 in
set_option maxHeartbeats 0 in
theorem c_Co_settle : zcj zyi 197 false false [102, 110] 2 zc_Co_settle [[], [], [239], [], [], [127, 1365, 1366, 1367], [], [], [], [127, 1378, 1379, 1380], [], [], [], [], [], [], [], [103, 1382, 1384, 32], [], [], [], [], [103, 1123, 1125, 15], [], [], []] = true := by decide +kernel
set_option maxRecDepth 1000000 in
set_option maxHeartbeats 0 in
theorem c_La_isSpoiled : zcj zyi 232 false false [109] 1 zc_La_isSpoiled [[], [849], [], [], [], [], [], [], [], [], [849], [], [], [], [], [], [], [], [], [], [], [], [], []] = true := by decide +kernel
set_option maxRecDepth 1000000 in
set_option maxHeartbeats 0 in
theorem c_Le_decide : zcj zyi 250 false false [109] 1 zc_Le_decide [[], [827], [], [], [], [], [], [], [827], [], [], [125, 985, 986, 987], [], [], [], [], [], [], [829], [], [], [], [], [], [], [829], [], [], [125, 985, 986, 987], [], [], [], [], [], [], [], [], [851], [], [], [], [], [], [], [829], [], [], [], [], [], [], [829], [], [], [125, 815, 388, 389], [], [], [], [], [], [], [], [], [851], [], [], []] = true := by decide +kernel
set_option maxRecDepth 1000000 in
set_option maxHeartbeats 0 in
theorem c_Le_startIn : zcj zyi 249 false false [101, 0] 4 zc_Le_startIn [[], [], [], [], [155], [], [], [], [], [], [], [152], [], [], [], [], [], [], [825], [], [], [], [], [], [], [], [125, 815, 388, 389], [], [], [], [], [], [], [], [], [], [851], [], [], [], [], [], [], [], [], [102, 982, 983], [], [], [], [125, 815, 388, 389], [], [], [], [], [], [], [], [], [], [], [], [], []] = true := by decide +kernel
set_option maxRecDepth 1000000 in
set_option maxHeartbeats 0 in
theorem c_Le_startQueued : zcj zyi 248 false false [101] 2 zc_Le_startQueued [[], [], [], [], [], [], [], [], [], [102, 978, 980, 9], [], [], [], [], [], [], [], [], [], [], [], [], [155], [], [], [], [], [], [], [152], [], [], [], [], [831], [], [], [], [], [], [], [152], [], [], [], [], [851], [], [], [], [], [], [], [], [], [152], [], [], [], [], [], [], [851], [], [], [], [], [], [], [], [], []] = true := by decide +kernel
set_option maxRecDepth 1000000 in
set_option maxHeartbeats 0 in
theorem c_Gr_canAct : zcj zyi 210 false false [111, 0] 2 zc_Gr_canAct [[], [129, 1177, 1178, 1179], [], [], [], [], [], [], [], [], [1103], [], [], [], [], [], [], [], [], [], [], []] = true := by decide +kernel
set_option maxRecDepth 1000000 in
set_option maxHeartbeats 0 in
theorem c_Un_indexOfLast : zcj zyi 286 false false [103] 2 zc_Un_indexOfLast [[], [], [], [], [185], [], [], [], [], [], [], [182], [], [], [], [], [], [188], [], [], [], [], [], [], [], [], [], [], [], [], [], [], []] = true := by decide +kernel
set_option maxRecDepth 1000000 in
set_option maxHeartbeats 0 in
theorem c_Un_choose : zcj zyi 285 false false [103, 0, 0] 6 zc_Un_choose [[], [], [], [], [], [], [], [104, 1169, 1171, 18], [], [], [], [], [], [], [], [], [], [], [], [], [], [], [], [185], [], [], [], [], [], [], [], [], [], [], [], [], [185], [], [], [], [], [], [], [], [], [], [], [], [], [], [], [], [185], [], [], [], [], [], [], [182], [], [], [], [], [], [], [129, 1173, 1174, 1175], [], [], [], [], [], [], [], [182], [], [], [], [], [], [188], [], [], [], [188], [], [], [], [], [], [], [], [], [], [], []] = true := by decide +kernel
set_option maxRecDepth 1000000 in
set_option maxHeartbeats 0 in
theorem c_Co_letCycleCome : zcj zyi 180 false false [102] 3 zc_Co_letCycleCome [[], [238], [], [], [102, 974, 975, 976], [], [], [], [103, 989, 991, 10], [], [], [], [103, 1003, 1005, 11], [], [], [], [], [], [], [], [], [], [], [241], [], [], [], [], [], [247], [], [], [], [245], [], [], [104, 1165, 1166, 1167], [], [], [], [], [], [], [], [], [], [241], [], [], [], [], [], [103, 1190, 1192, 20], [], [], [], [], [], [], [], [1091], [], [], [103, 1361, 1363, 31], [], [], [], [], [], [], [], [], [], [245], [], [], [], [], [], [], [], [], [], [103, 1398, 1400, 33], [], [], [], [], [245], [], [], [], [], [245], [], [], []] = true := by decide +kernel
set_option maxRecDepth 1000000 in
set_option maxHeartbeats 0 in
theorem c_X_step : zcj zyi 21 false true [100, 0] 5 zc_X_step [[], [], [], [], [101, 408, 409], [], [], [], [], [], [411, 456], [], [], [], [], [], [], [], [], [338], [], [], [244], [], [], [206], [], [], [], [], [], [], [], [], [], [], [], [], [], [338], [], [], [103, 970, 971, 972], [], [], [], [], [], [], [], [], [], [338], [], [], [244], [], [], [206], [], [], [], [], [], []] = true := by decide +kernel
set_option maxRecDepth 1000000 in
set_option maxHeartbeats 0 in
theorem c_Le_isAllOver : zcj zyi 247 false false [101] 2 zc_Le_isAllOver [[], [], [], [], [155], [], [], [], [], [], [], [152], [], [], [], [], [125, 815, 388, 389], [], [], [], [], [], [], [], [], [], [], [], [], [], [], []] = true := by decide +kernel
set_option maxRecDepth 1000000 in
set_option maxHeartbeats 0 in
theorem c_X_run : zcj zyi 22 false true [100, 0] 3 zc_X_run [[], [], [], [], [], [101, 408, 409], [], [], [], [], [], [411, 456], [], [], [], [], [], [], [], [], [], [], [], [], [], [], [], [337], [], [], [102, 1409, 1410, 1411], [], [], [], [], [], [], [338], [], [], [103, 970, 971, 972], [], [], [], [], [], [], [], [], [], []] = true := by decide +kernel
set_option maxRecDepth 1000000 in
set_option maxHeartbeats 0 in
theorem c_X_setOrder : zcj zyi 23 false true [100, 0] 3 zc_X_setOrder [[], [], [], [], [], [], [], [], [], [], [], [], [], [], [], [], [], [], [411, 456], [], [], [], [], [], [], [], [], [338], [], [], [248], [], [], [], [], [338], [], [], [], [248], [], [], [], []] = true := by decide +kernel
set_option maxRecDepth 1000000 in
set_option maxHeartbeats 0 in
theorem c_X_cycle : zcj zyi 24 false false [100] 1 zc_X_cycle [[], [338], [], [], [246], [], [], []] = true := by decide +kernel
set_option maxRecDepth 1000000 in
set_option maxHeartbeats 0 in
theorem c_X_unitAt : zcj zyi 50 false true [100, 0] 2 zc_X_unitAt [[], [], [], [101, 408, 409], [], [], [], [], [], [581, 590], [], [], [], [], [], [], [], [], [338], [], [], [242], [], [], [], [], []] = true := by decide +kernel
set_option maxRecDepth 1000000 in
set_option maxHeartbeats 0 in
theorem c_X_groups : zcj zyi 25 false true [100, 0] 2 zc_X_groups [[], [], [101, 1427, 1429, 34], [], [], [187], [], [], []] = true := by decide +kernel
set_option maxRecDepth 1000000 in
set_option maxHeartbeats 0 in
theorem c_Un_groupOf : zcj zyi 277 false false [103, 0] 2 zc_Un_groupOf [[], [], [], [185], [], [], [], [], [101, 0, 409], [], [], [], [], [], [], [182], [], [], [], [], [], [], [], [], []] = true := by decide +kernel
set_option maxRecDepth 1000000 in
set_option maxHeartbeats 0 in
theorem c_X_groupAt : zcj zyi 51 false true [100, 0, 0] 4 zc_X_groupAt [[], [], [101, 1427, 1429, 34], [], [], [], [104, 1442, 1443, 1444], [], [], [], [], [], [], [], [581, 590], [], [], [], [], [], [], [], [], []] = true := by decide +kernel
set_option maxRecDepth 1000000 in
set_option maxHeartbeats 0 in
theorem c_X_threadAt : zcj zyi 26 false true [100, 0, 0] 4 zc_X_threadAt [[], [], [], [101, 1438, 1440, 35], [], [], [], [], [], [], [], [1093], [], [], [1051], [], [], [823], [], [], [], [], [], [], [1093], [], [], [1053], [], [], [], [], [], [1096], [], [], [], []] = true := by decide +kernel
set_option maxRecDepth 1000000 in
set_option maxHeartbeats 0 in
theorem c_X_place : zcj zyi 27 false true [100, 0, 0] 4 zc_X_place [[], [], [], [101, 1438, 1440, 35], [], [], [129, 1454, 1178, 1179], [], [], [], [], [], [], [], [], [941, 950], [], [], [], [], [], [], [], [], []] = true := by decide +kernel
set_option maxRecDepth 1000000 in
set_option maxHeartbeats 0 in
theorem c_X_mask : zcj zyi 28 false true [100, 0, 0] 3 zc_X_mask [[], [], [], [101, 1438, 1440, 35], [], [], [129, 1462, 1200, 1201], [], [], []] = true := by decide +kernel
set_option maxRecDepth 1000000 in
set_option maxHeartbeats 0 in
theorem c_Gr_isPlaceOfLower : zcj zyi 208 false false [111, 0] 3 zc_Gr_isPlaceOfLower [[], [], [], [], [], [], [], [], [], [129, 1181, 1183, 19], [], [], [], [], [129, 1181, 1183, 19], [], [], [], [], [], [], [], [], [], [], [], [], [], [], []] = true := by decide +kernel
set_option maxRecDepth 1000000 in
set_option maxHeartbeats 0 in
theorem c_Gr_differentPlaces : zcj zyi 207 false false [111] 3 zc_Gr_differentPlaces [[], [], [], [], [], [], [], [], [], [], [], [129, 1181, 1183, 19], [], [], [], [], [], [], [], [], [129, 1474, 1476, 36], [], [], [], [], [], [], [], [], [], [], [], [], [], [], [], []] = true := by decide +kernel
set_option maxRecDepth 1000000 in
set_option maxHeartbeats 0 in
theorem c_X_places : zcj zyi 29 false true [100, 0, 0] 3 zc_X_places [[], [], [], [101, 1438, 1440, 35], [], [], [129, 1470, 1471, 1472], [], [], []] = true := by decide +kernel
set_option maxRecDepth 1000000 in
set_option maxHeartbeats 0 in
theorem c_Gr_whyIdle : zcj zyi 211 false false [111, 0] 2 zc_Gr_whyIdle [[], [129, 1177, 1178, 1179], [], [], [], [], [], [], [], [129, 1489, 1370, 1371], [], [], [], [], [], [], [], [], [], [], [], [], [], [], [], [1103], [], [], [], [], [], [], [], [], [], [], [], [], []] = true := by decide +kernel
set_option maxRecDepth 1000000 in
set_option maxHeartbeats 0 in
theorem c_X_reason : zcj zyi 30 false true [100, 0, 0] 3 zc_X_reason [[], [], [], [101, 1438, 1440, 35], [], [], [], [338], [], [], [246], [], [], [129, 1485, 1486, 1487], [], [], []] = true := by decide +kernel
set_option maxRecDepth 1000000 in
set_option maxHeartbeats 0 in
theorem c_X_register : zcj zyi 31 false true [100, 0, 0, 0, 0] 7 zc_X_register [[], [], [], [101, 1438, 1440, 35], [], [], [], [], [], [], [], [129, 1497, 1186, 1187], [], [], [], [], [], [], [], [], [], [], [], [1093], [], [], [1051], [], [], [838], [], [], [], [], [115, 1498, 724, 725], [], [], [], [], [], [581, 590], [], [], [], [], [], [], [], [], [], [], [], [107, 1278, 1214, 1215], [], [], []] = true := by decide +kernel
set_option maxRecDepth 1000000 in
set_option maxHeartbeats 0 in
theorem c_X_shared : zcj zyi 32 false true [100, 0, 0, 0] 5 zc_X_shared [[], [], [], [101, 1438, 1440, 35], [], [], [1093], [], [], [], [], [], [], [], [127, 1506, 1285, 1286], [], [], [], [], [], [581, 590], [], [], [], [], [], [], [], [], [], [1063], [], [], [], [], []] = true := by decide +kernel
set_option maxRecDepth 1000000 in
set_option maxHeartbeats 0 in
theorem c_X_buffered : zcj zyi 33 false true [100, 0, 0] 3 zc_X_buffered [[], [], [], [101, 1438, 1440, 35], [], [], [1101], [], [], []] = true := by decide +kernel
set_option maxRecDepth 1000000 in
set_option maxHeartbeats 0 in
theorem c_X_failedAt : zcj zyi 49 false true [100, 0] 3 zc_X_failedAt [[], [], [101, 780, 782, 5], [], [], [], [], [850], [], [], [], [], [], [], [], [941, 950], [], [], [], [], [], [], [], [], []] = true := by decide +kernel
set_option maxRecDepth 1000000 in
set_option maxHeartbeats 0 in
theorem c_X_fault : zcj zyi 34 false true [100, 0] 2 zc_X_fault [[], [], [101, 1521, 1523, 37], [], [], [854], [], [], []] = true := by decide +kernel
set_option maxRecDepth 1000000 in
set_option maxHeartbeats 0 in
theorem c_X_faultAt : zcj zyi 35 false true [100, 0] 2 zc_X_faultAt [[], [], [101, 1521, 1523, 37], [], [], [856], [], [], []] = true := by decide +kernel
set_option maxRecDepth 1000000 in
set_option maxHeartbeats 0 in
theorem c_X_isRacing : zcj zyi 36 false true [100, 0, 0] 4 zc_X_isRacing [[], [], [101, 780, 782, 5], [], [], [], [], [101, 758, 759], [], [], [], [], [], [581, 590], [], [], [], [], [], [], [], [], [863], [], [], [], [], []] = true := by decide +kernel
set_option maxRecDepth 1000000 in
set_option maxHeartbeats 0 in
theorem c_X_races : zcj zyi 37 false true [100, 0] 2 zc_X_races [[], [], [101, 780, 782, 5], [], [], [866], [], [], []] = true := by decide +kernel
set_option maxRecDepth 1000000 in
set_option maxHeartbeats 0 in
theorem c_Ke_hasLetterOf : zcj zyi 226 false false [107, 3] 3 zc_Ke_hasLetterOf [[], [], [], [], [511], [], [], [], [], [], [], [509], [], [], [], [], [], [119, 1558, 635, 636], [], [], [], [], [], [], [], [], [], [], [], [], [], [], []] = true := by decide +kernel
set_option maxRecDepth 1000000 in
set_option maxHeartbeats 0 in
theorem c_Re_begin : zcj zyi 269 false false [105, 107, 0, 0, 122] 6 zc_Re_begin [[], [], [319], [], [], [], [], [], [], [108, 1563, 668], [], [], [320], [], [], [], [], [321], [], [], [], [], [], [], [], [], [], [], [], [], [], [], [], [], [], [], [], [], [], [314], [], [], [], [], [], [], [], [], [], [], [], [], [], [], [], [], []] = true := by decide +kernel
set_option maxRecDepth 1000000 in
set_option maxHeartbeats 0 in
theorem c_Th_lowestOfWaiting_30 : zcj zyi 264 false false [130, 0] 3 zc_Th_lowestOfWaiting_30 [[], [], [], [], [], [], [], [], [], [], [], [], [], [], [], [], [107, 1141, 1142, 1143], [], [], [], [], [], [], [], [], [], [], [], [], [], [], [], [], []] = true := by decide +kernel
set_option maxRecDepth 1000000 in
set_option maxHeartbeats 0 in
theorem c_Th_release_30 : zcj zyi 266 false false [130, 0, 0, 0] 5 zc_Th_release_30 [[], [], [], [], [], [], [], [], [], [], [], [], [], [], [], [], [], [], [], [], [107, 1141, 1142, 1143], [], [], [], [], [], [], [], [], [], [300], [], [], [], [], [], [], [], [], [], [], [], [], [], [], [], [], [], [], [], [], [], [], [], [], [], [], [], [], [], [], [], [], [], [], [107, 1141, 1142, 1143], [], [], [], [], [], [], [], [], [], [], [], [302], [], [], [], [], [], [], [], [], [], [], [107, 1042, 1044, 14], [], [], [], [], [], [], [], [], [], []] = true := by decide +kernel
set_option maxRecDepth 1000000 in
set_option maxHeartbeats 0 in
theorem c_X_exchange_28 : zcj zyi 61 false false [128, 0, 106, 108] 6 zc_X_exchange_28 [[], [], [], [], [], [], [], [619], [], [], [107, 1278, 1214, 1215], [], [], [], [], [], [], [], [606], [], [], [], [], [], [], [], [], [], [], [], [], [], [], [], [], [], [], [], [], [611], [], [], [], [], [107, 1279, 1256, 1257], [], [], []] = true := by decide +kernel
set_option maxRecDepth 1000000 in
set_option maxHeartbeats 0 in
theorem c_Re_carryGlobal : zcj zyi 274 false false [105, 106, 108, 0] 4 zc_Re_carryGlobal [[], [101, 0, 759], [], [], [], [], [], [], [], [], [603], [], [], [], [], [], [], [], [], [], [608], [], [], [], [314], [], [], [], [], [107, 1593, 1256, 1257], [], [], [], [], [], [], [603], [], [], [], [], [], [], [], [], [314], [], [], [], [], [], [613], [], [], [107, 1585, 1214, 1215], [], [], [], [], [], [], [], [314], [], [], [], [], [], [101, 0, 1276], [], [], [], []] = true := by decide +kernel
set_option maxRecDepth 1000000 in
set_option maxHeartbeats 0 in
theorem c_Re_carryShared : zcj zyi 275 false false [105, 106, 108, 0] 4 zc_Re_carryShared [[], [], [], [319], [], [], [508], [], [], [], [], [101, 0, 409], [], [], [], [], [], [], [], [], [603], [], [], [], [], [], [], [], [], [], [608], [], [], [], [316], [], [], [], [], [107, 1593, 1256, 1257], [], [], [], [], [], [], [316], [], [], [], [], [], [613], [], [], [107, 1585, 1214, 1215], [], [], [], [], []] = true := by decide +kernel
