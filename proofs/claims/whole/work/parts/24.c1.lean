set_option maxRecDepth 1000000 in
set_option maxHeartbeats 0 in
theorem c_Th_isRunning : zcj zyi 255 false false [106] 1 zc_Th_isRunning [[], [302], [], [], [], [], [], [], [], [], [], [], [], [], []] = true := by decide +kernel
set_option maxRecDepth 1000000 in
set_option maxHeartbeats 0 in
theorem c_Th_isAnyRunning : zcj zyi 263 false false [136, 0] 3 zc_Th_isAnyRunning [[], [], [], [], [], [], [], [], [], [], [], [], [], [], [], [], [107, 1134, 1135, 1136], [], [], [], [], [], [], [], [], [], [], [], [], [], [], []] = true := by decide +kernel
set_option maxRecDepth 1000000 in
set_option maxHeartbeats 0 in
theorem c_Th_isWaiting : zcj zyi 256 false false [106] 1 zc_Th_isWaiting [[], [302], [], [], [], [], [], [], [], [], [], [], [], [], []] = true := by decide +kernel
set_option maxRecDepth 1000000 in
set_option maxHeartbeats 0 in
theorem c_Th_lowestOfWaiting_36 : zcj zyi 265 false false [136, 0] 3 zc_Th_lowestOfWaiting_36 [[], [], [], [], [], [], [], [], [], [], [], [], [], [], [], [], [107, 1141, 1142, 1143], [], [], [], [], [], [], [], [], [], [], [], [], [], [], [], [], []] = true := by decide +kernel
set_option maxRecDepth 1000000 in
set_option maxHeartbeats 0 in
theorem c_Bl_isAllEnded : zcj zyi 172 false false [110] 1 zc_Bl_isAllEnded [[], [1055], [], [], [], [1055], [], [], [], [107, 1131, 1132], [], [], [], [], [], [], [1055], [], [], [], [1055], [], [], [], [107, 1138, 1139], [], [], [], [], [], [], [], [], [], [], []] = true := by decide +kernel
set_option maxRecDepth 1000000 in
set_option maxHeartbeats 0 in
theorem c_La_isRunning : zcj zyi 233 false false [109] 1 zc_La_isRunning [[], [849], [], [], [], [], [], [], [], [], [], [], [], [], []] = true := by decide +kernel
set_option maxRecDepth 1000000 in
set_option maxHeartbeats 0 in
theorem c_Le_hasOpenChild : zcj zyi 252 false false [101, 109] 3 zc_Le_hasOpenChild [[], [], [], [], [155], [], [], [], [], [], [], [152], [], [], [], [], [831], [], [], [], [], [], [], [], [152], [], [], [], [], [125, 815, 388, 389], [], [], [], [], [], [], [], [], [], [], [], [], [], [], []] = true := by decide +kernel
set_option maxRecDepth 1000000 in
set_option maxHeartbeats 0 in
theorem c_Le_endIfDone : zcj zyi 251 false false [101, 109] 4 zc_Le_endIfDone [[], [], [], [], [], [], [], [], [], [], [], [], [], [], [], [125, 1157, 1158, 1159], [], [], [], [], [], [], [847], [], [], [], [840], [], [], [], [], [], [], [], [102, 1161, 1163, 17], [], [], [], [], [], [], [], [], [], [851], [], [], [], [831], [], [], [], [], [], [], [], [], [], []] = true := by decide +kernel
set_option maxRecDepth 1000000 in
set_option maxHeartbeats 0 in
theorem c_Un_cutTo : zcj zyi 284 false false [103, 0] 3 zc_Un_cutTo [[], [], [], [], [185], [], [], [], [], [], [], [182], [], [], [], [], [], [], [], [], [], [], [], [], [], [185], [], [], []] = true := by decide +kernel
set_option maxRecDepth 1000000 in
set_option maxHeartbeats 0 in
theorem c_Un_dropBlock : zcj zyi 282 false false [103, 110] 4 zc_Un_dropBlock [[], [], [], [], [], [], [185], [], [], [], [], [], [], [182], [], [], [], [], [1092], [], [], [], [], [], [], [], [182], [], [], [], [], [182], [], [], [], [], [], [], [], [], [], [], [], [], [], [], [], [], [104, 1149, 1151, 16], [], [], []] = true := by decide +kernel
set_option maxRecDepth 1000000 in
set_option maxHeartbeats 0 in
theorem c_Co_endIfEnded : zcj zyi 199 false false [102, 110] 3 zc_Co_endIfEnded [[], [127, 1127, 1128, 1129], [], [], [], [], [], [], [], [], [], [], [], [], [], [], [241], [], [], [], [], [], [104, 1145, 1146, 1147], [], [], [], [], [], [], [], [], [], [1050], [], [], [], [848], [], [], [], [], [848], [], [], [], [238], [], [], [], [1050], [], [], [102, 1153, 1154, 1155], [], [], []] = true := by decide +kernel
set_option maxRecDepth 1000000 in
set_option maxHeartbeats 0 in
theorem c_Un_take : zcj zyi 281 false false [103, 110] 3 zc_Un_take [[], [], [], [], [1059], [], [], [], [], [], [], [], [185], [], [], [], [182], [], [], [], [], [], [], [], [182], [], [], [], [185], [], [], [], [1059], [], [], [], [], [], [], [], [185], [], [], [], [], [185], [], [], [], [], [], [], [], [], []] = true := by decide +kernel
set_option maxRecDepth 1000000 in
set_option maxHeartbeats 0 in
theorem c_Co_give : zcj zyi 184 false false [102, 103, 109] 4 zc_Co_give [[], [127, 1024, 1025], [], [], [], [], [], [104, 1119, 1120, 1121], [], [], [], [], [103, 1123, 1125, 15], [], [], []] = true := by decide +kernel
set_option maxRecDepth 1000000 in
set_option maxHeartbeats 0 in
theorem c_La_hasBlockToGive : zcj zyi 235 false false [109] 1 zc_La_hasBlockToGive [[], [835], [], [], [], [], [], [], [849], [], [], [], [], [], [], [], [], [845], [], [], [], [839], [], [], [], [], [], [], [], [], [], [], []] = true := by decide +kernel
set_option maxRecDepth 1000000 in
set_option maxHeartbeats 0 in
theorem c_Co_giveBlocks : zcj zyi 182 false false [102] 5 zc_Co_giveBlocks [[], [], [], [], [238], [], [], [156], [], [], [], [], [], [], [238], [], [], [], [102, 993, 785, 786], [], [], [], [], [], [], [], [], [], [], [], [], [], [], [], [], [125, 1007, 1008, 1009], [], [], [], [], [], [], [], [103, 1011, 1013, 12], [], [], [], [], [], [], [], [], [], [], [], [], [], [], [], [], [103, 1020, 1022, 13], [], [], [], [], [], [], [], [], [], [], [], [], [], [], []] = true := by decide +kernel
set_option maxRecDepth 1000000 in
set_option maxHeartbeats 0 in
theorem c_Gr_writeFirst : zcj zyi 216 false false [111, 122] 2 zc_Gr_writeFirst [[], [1100], [], [], [], [], [], [], [], [], [1098], [], [], [], [], [], [1099], [], [], [], [], [], [], [], [1100], [], [], [], [], [1100], [], [], [], [1098], [], [], [], [], [1098], [], [], [], [], [1100], [], [], [1267, 1269, 1268, 130], [], [], [], [1099], [], [], [], [], [1099], [], [], [], [], [1100], [], [], [1267, 1269, 1268, 130], [], [], []] = true := by decide +kernel
set_option maxRecDepth 1000000 in
set_option maxHeartbeats 0 in
theorem c_Co_writeFirstOfBuffers : zcj zyi 185 false false [102] 3 zc_Co_writeFirstOfBuffers [[], [], [], [], [], [], [], [], [], [], [], [241], [], [], [], [], [186], [], [], [], [], [], [], [241], [], [], [], [], [], [], [], [], [], [], [239], [], [], [129, 1263, 1264, 1265], [], [], [], [], [], [], [], [], [], [], [], [], [], [], []] = true := by decide +kernel
set_option maxRecDepth 1000000 in
set_option maxHeartbeats 0 in
theorem c_X_isIn : zcj zyi 56 false false [0, 0] 2 zc_X_isIn [[], [], [], [], [], [], [], [], [], [], [], [], [], []] = true := by decide +kernel
set_option maxRecDepth 1000000 in
set_option maxHeartbeats 0 in
theorem c_Gr_threadIn : zcj zyi 203 false false [111, 0] 2 zc_Gr_threadIn [[], [], [], [], [], [], [], [], [], [], [1097], [], [], [], [], [], [], [], [], []] = true := by decide +kernel
set_option maxRecDepth 1000000 in
set_option maxHeartbeats 0 in
theorem c_Gr_writeAll : zcj zyi 217 false false [111, 122] 4 zc_Gr_writeAll [[], [1100], [], [], [], [], [], [], [], [], [], [], [], [], [1098], [], [], [], [], [], [1099], [], [], [], [], [], [], [], [], [], [], [], [], [], [1100], [], [], [], []] = true := by decide +kernel
set_option maxRecDepth 1000000 in
set_option maxHeartbeats 0 in
theorem c_In_cellRegister : zcj zyi 221 false false [108] 1 zc_In_cellRegister [[], [], [], [119, 634, 635, 636], [], [], [], [], [], [], [607], [], [], [], [], [], [], [612], [], [], []] = true := by decide +kernel
set_option maxRecDepth 1000000 in
set_option maxHeartbeats 0 in
theorem c_Th_at : zcj zyi 258 false false [106, 0] 2 zc_Th_at [[], [], [], [], [], [], [296], [], [], [], [], [], [], [], [296], [], [], [], [], [], [], [], [], []] = true := by decide +kernel
set_option maxRecDepth 1000000 in
set_option maxHeartbeats 0 in
theorem c_Co_lookAhead : zcj zyi 187 false false [102, 111, 108] 5 zc_Co_lookAhead [[], [], [252], [], [], [], [], [], [], [], [], [], [], [], [129, 1207, 1186, 1187], [], [], [], [], [], [249], [], [], [], [], [], [], [], [], [], [], [], [], [], [], [], [119, 1208, 1209, 1210], [], [], [107, 1213, 1214, 1215], [], [], [], [], [250], [], [], [], [], [], [], [], [], [], [], [], [], [], [], [], [615], [], [], [107, 1213, 1214, 1215], [], [], [], [], [251], [], [], [], [101, 0, 1218], [], [], [], [], [], [], [250], [], [], [], [], [], [], [], [], [], [252], [], [], [], [], [], [], [252], [], [], [], [], [], [], [], [], [], [], [], [], [119, 1221, 635, 636], [], [], [], [], [], [], [], [239], [], [], [129, 1222, 1223, 1224], [], [], [], [], [], [], [253], [], [], []] = true := by decide +kernel
set_option maxRecDepth 1000000 in
set_option maxHeartbeats 0 in
theorem c_Th_set : zcj zyi 259 false false [106, 0, 0] 3 zc_Th_set [[], [], [], [], [], [], [296], [], [], [], [], [], [], [], [296], [], [], [], [], [], []] = true := by decide +kernel
set_option maxRecDepth 1000000 in
set_option maxHeartbeats 0 in
theorem c_X_exchange_22 : zcj zyi 60 false false [122, 0, 106, 108] 6 zc_X_exchange_22 [[], [], [], [], [], [], [], [619], [], [], [107, 1278, 1214, 1215], [], [], [], [], [], [], [], [606], [], [], [], [], [], [], [], [], [], [], [], [], [], [], [], [], [], [], [], [], [611], [], [], [], [], [107, 1279, 1256, 1257], [], [], []] = true := by decide +kernel
set_option maxRecDepth 1000000 in
set_option maxHeartbeats 0 in
theorem c_X_isClash : zcj zyi 58 false false [0, 0, 0] 4 zc_X_isClash [[], [], [], [], [], [1243], [], [], [], [], [], [], [], [], [], [], [], [], [], [], [], [], [], [], [], [], [], [], [], [], [], [], []] = true := by decide +kernel
set_option maxRecDepth 1000000 in
set_option maxHeartbeats 0 in
theorem c_X_withTouch : zcj zyi 59 false false [0, 0, 0] 4 zc_X_withTouch [[], [], [], [], [], [], [], [], [], [], [], [], [], [], [], [], [], [], [], [], [], [], []] = true := by decide +kernel
set_option maxRecDepth 1000000 in
set_option maxHeartbeats 0 in
theorem c_La_markRace : zcj zyi 238 false false [109, 0] 2 zc_La_markRace [[], [862], [], [], [], [], [], [], [], [], [862], [], [], [], [], [], [], [], [865], [], [], [], [], [865], [], [], []] = true := by decide +kernel
set_option maxRecDepth 1000000 in
set_option maxHeartbeats 0 in
theorem c_Bl_touchGlobal : zcj zyi 176 false false [110, 0, 0, 0] 4 zc_Bl_touchGlobal [[], [1064], [], [], [], [], [], [], [101, 0, 1241], [], [], [], [], [], [], [1048], [], [], [861], [], [], [], [], [], [1052], [], [], [], [101, 0, 1241], [], [], [], [], [], [], [1048], [], [], [], [125, 1244, 1245, 1246], [], [], [], [1064], [], [], [], [], [1064], [], [], [], [], [], [], [101, 0, 1249], [], [], [], [], [1048], [], [], [861], [], [], [], [], [1048], [], [], [861], [], [], [], [], [], [1052], [], [], [], [101, 0, 1249], [], [], [], []] = true := by decide +kernel
set_option maxRecDepth 1000000 in
set_option maxHeartbeats 0 in
theorem c_Gr_isBufferFull : zcj zyi 212 false false [111] 1 zc_Gr_isBufferFull [[], [1100], [], [], [], [], [], [], [], [], [], [], [], []] = true := by decide +kernel
set_option maxRecDepth 1000000 in
set_option maxHeartbeats 0 in
theorem c_Gr_putWrite : zcj zyi 214 false false [111, 0, 0] 3 zc_Gr_putWrite [[], [129, 1274, 1260, 1261], [], [], [], [], [], [], [1098], [], [], [], [1100], [], [], [], [], [], [1099], [], [], [], [1100], [], [], [], [], [], [], [1100], [], [], [], [], [1100], [], [], []] = true := by decide +kernel
set_option maxRecDepth 1000000 in
set_option maxHeartbeats 0 in
theorem c_Gr_seenIn : zcj zyi 215 false false [111, 0, 122] 4 zc_Gr_seenIn [[], [1100], [], [], [], [], [], [], [], [], [], [], [1098], [], [], [], [], [], [], [], [], [], [1099], [], [], [], [], [], [], [], [], [], [], [], [], [], [], []] = true := by decide +kernel
set_option maxRecDepth 1000000 in
set_option maxHeartbeats 0 in
theorem c_Co_carryGlobal : zcj zyi 189 false false [102, 111, 0, 106, 108] 5 zc_Co_carryGlobal [[], [101, 0, 759], [], [], [], [], [], [], [], [], [], [1091], [], [], [], [295], [], [], [], [], [], [605], [], [], [], [], [], [], [], [], [], [], [], [], [127, 1236, 1237, 1238], [], [], [], [], [605], [], [], [], [], [], [], [], [], [], [], [610], [], [], [], [], [], [239], [], [], [129, 1251, 1252, 1253], [], [], [107, 1255, 1256, 1257], [], [], [], [], [], [], [], [605], [], [], [], [], [], [], [], [], [129, 1259, 1260, 1261], [], [], [], [], [], [], [], [239], [], [], [129, 1263, 1264, 1265], [], [], [], [], [253], [], [], [], [], [253], [], [], [], [], [], [], [], [615], [], [], [107, 1213, 1214, 1215], [], [], [129, 1270, 1271, 1272], [], [], [], [], [], [], [239], [], [], [], [], [], [], [101, 0, 1276], [], [], [], [], []] = true := by decide +kernel
set_option maxRecDepth 1000000 in
set_option maxHeartbeats 0 in
theorem c_Bl_hasShared : zcj zyi 171 false false [110, 0] 2 zc_Bl_hasShared [[], [], [], [1060], [], [], [], [], [], [101, 0, 409], [], [], []] = true := by decide +kernel
set_option maxRecDepth 1000000 in
set_option maxHeartbeats 0 in
theorem c_Bl_touchShared : zcj zyi 177 false false [110, 0, 0, 0] 4 zc_Bl_touchShared [[], [1065], [], [], [], [], [], [], [101, 0, 1241], [], [], [], [], [], [], [1066], [], [], [], [], [], [], [], [], [1066], [], [], [], [], [], [], [1048], [], [], [], [864], [], [], [], [], [864], [], [], [], [1065], [], [], [], [], [1065], [], [], [], [], [], [], [101, 0, 1249], [], [], [], []] = true := by decide +kernel
set_option maxRecDepth 1000000 in
set_option maxHeartbeats 0 in
theorem c_Co_carryShared : zcj zyi 190 false false [110, 0, 106, 108] 4 zc_Co_carryShared [[], [], [127, 1284, 1285, 1286], [], [], [], [], [], [], [], [], [], [], [295], [], [], [], [], [605], [], [], [], [], [], [], [], [], [], [], [], [], [127, 1289, 1290, 1291], [], [], [], [605], [], [], [], [], [], [], [], [], [], [610], [], [], [], [1062], [], [], [], [], [107, 1255, 1256, 1257], [], [], [], [], [], [], [1062], [], [], [], [], [], [615], [], [], [107, 1213, 1214, 1215], [], [], [], [], [], []] = true := by decide +kernel
set_option maxRecDepth 1000000 in
set_option maxHeartbeats 0 in
theorem c_La_depth : zcj zyi 236 false false [109] 3 zc_La_depth [[], [], [], [830], [], [], [], [], [], [], [], [], [], [], [], [], [], [], [], [], [], [830], [], [], [], [], [], [], [], []] = true := by decide +kernel
set_option maxRecDepth 1000000 in
set_option maxHeartbeats 0 in
theorem c_Le_launchChild : zcj zyi 246 false false [101, 109, 0, 0] 5 zc_Le_launchChild [[], [], [102, 1304, 577, 578], [], [], [], [], [], [], [], [], [], [], [], [], [115, 1305, 744, 745], [], [], [], [], [], [], [155], [], [], [], [], [], [], [], [], [125, 1306, 1307, 1308], [], [], [], [], [], [], [], [], [], [149, 816, 125], [], [], [], [], [155], [], [], [], [], [], [], [125, 818, 819], [], [], [102, 907, 909, 8], [], [], [], [], [], [], [125, 1310, 912, 913], [], [], [], []] = true := by decide +kernel
set_option maxRecDepth 1000000 in
set_option maxHeartbeats 0 in
theorem c_Co_carryChild : zcj zyi 191 false false [102, 109, 106, 108] 5 zc_Co_carryChild [[], [238], [], [], [], [], [615], [], [], [], [], [618], [], [], [107, 1213, 1214, 1215], [], [], [102, 1300, 1301, 1302], [], [], [], [], [], [], [], [], [], [], [243], [], [], [], [219], [], [], [], [], [219], [], [], [], [], [610], [], [], [], [], [], [], [], [], [], [], [], [], [107, 1255, 1256, 1257], [], [], []] = true := by decide +kernel
set_option maxRecDepth 1000000 in
set_option maxHeartbeats 0 in
theorem c_Th_reckon : zcj zyi 260 false false [106, 108] 2 zc_Th_reckon [[], [604], [], [], [], [], [], [], [], [], [], [], [], [], [], [], [], [], [], [], [], [], [], [], [], [], [], [], [], [], [], [], [], [], [], [], [], [], [], [], [], [], [], [], [], [], [], [], [], [], [], [], [], [], [], [], [], [], [], [], [], [], [], [], [], [], [], [], [], [], [], [], [], [], [], [], [], [], [], [], [], [], [], [], [], [], [], [], [], [], [609], [], [], [], [614], [], [], [107, 1315, 1256, 1257], [], [], [], [], [], [], [], [609], [], [], [], [], [614], [], [], [107, 1316, 1214, 1215], [], [], [], [], [617], [], [], [107, 1316, 1214, 1215], [], [], [], [107, 1315, 1256, 1257], [], [], [], [], [], [], [], [609], [], [], [], [], [614], [], [], [107, 1316, 1214, 1215], [], [], [], [], [617], [], [], [107, 1316, 1214, 1215], [], [], [], [107, 1315, 1256, 1257], [], [], [], [], [], [], [], [609], [], [], [], [], [614], [], [], [107, 1316, 1214, 1215], [], [], [], [], [617], [], [], [107, 1316, 1214, 1215], [], [], [], [107, 1315, 1256, 1257], [], [], [], [], [], [], [], [609], [], [], [], [], [614], [], [], [107, 1316, 1214, 1215], [], [], [], [], [617], [], [], [107, 1316, 1214, 1215], [], [], [], [], [], [], [], [], [], [], [107, 1315, 1256, 1257], [], [], [], [], [], [], [], [609], [], [], [], [], [614], [], [], [107, 1316, 1214, 1215], [], [], [], [], [617], [], [], [107, 1316, 1214, 1215], [], [], [], [], [], [], [], [], [], [], [107, 1315, 1256, 1257], [], [], [], [], [], [], [], [609], [], [], [], [293], [], [], [107, 1315, 1256, 1257], [], [], [], [], [], [], [], [609], [], [], [], [297], [], [], [107, 1315, 1256, 1257], [], [], [], [], [], [], [], [609], [], [], [], [293], [], [], [], [], [107, 1315, 1256, 1257], [], [], [], [], [], []] = true := by decide +kernel
set_option maxRecDepth 1000000 in
set_option maxHeartbeats 0 in
theorem c_Co_carryLane : zcj zyi 188 false false [102, 111, 0, 106, 108] 6 zc_Co_carryLane [[], [], [], [], [119, 1221, 635, 636], [], [], [], [], [], [], [], [], [249], [], [], [], [], [], [], [], [103, 1231, 1233, 23], [], [], [], [], [], [], [], [119, 1221, 635, 636], [], [], [], [], [], [], [1091], [], [], [], [249], [], [], [], [], [], [], [], [103, 1281, 1282], [], [], [], [], [], [605], [], [], [], [], [], [], [], [], [], [], [610], [], [], [], [252], [], [], [107, 1255, 1256, 1257], [], [], [], [], [], [], [], [605], [], [], [], [], [], [], [], [], [], [], [618], [], [], [107, 1213, 1214, 1215], [], [], [], [108, 1293, 1294], [], [], [], [], [], [], [], [610], [], [], [], [250], [], [], [], [251], [], [], [], [], [101, 0, 1218], [], [], [], [], [], [], [], [], [], [], [], [], [107, 1255, 1256, 1257], [], [], [], [], [], [], [], [605], [], [], [], [], [], [], [], [], [], [1091], [], [], [1050], [], [], [], [], [], [103, 1296, 1298, 24], [], [], [], [], [], [], [], [], [107, 1311, 1312, 1313], [], [], [], [], []] = true := by decide +kernel
set_option maxRecDepth 1000000 in
set_option maxHeartbeats 0 in
theorem c_Co_isNamedFirst : zcj zyi 196 false false [102, 0, 0] 4 zc_Co_isNamedFirst [[], [], [], [], [], [], [], [], [251], [], [], [], [101, 0, 1218], [], [], [], [], [], [], [249], [], [], [], [], [], [], [], [249], [], [], [], [], [], [], [], [], [], [], [], [], [], [], [], [], [], [], [251], [], [], [], [101, 0, 1218], [], [], []] = true := by decide +kernel
set_option maxRecDepth 1000000 in
set_option maxHeartbeats 0 in
theorem c_Co_bankDelay : zcj zyi 194 false false [102] 5 zc_Co_bankDelay [[], [], [], [], [], [], [], [], [], [], [], [], [], [], [], [], [], [], [], [], [], [], [], [], [103, 1341, 1343, 29], [], [], [], [], [], [], [249], [], [], [], [], [], [], [108, 1293, 1294], [], [], [], [], [], [], [], [], [], [], [], [], [], [], [], [], [], [108, 1345, 291], [], [], [], [], [], [], [], [], [], [], []] = true := by decide +kernel
set_option maxRecDepth 1000000 in
set_option maxHeartbeats 0 in
theorem c_Un_missesLine : zcj zyi 287 false false [103, 0] 4 zc_Un_missesLine [[], [], [108, 1354, 1294], [], [], [], [], [184], [], [], [], [], [], [], [], [], [], [], [], [], [], [], [], [184], [], [], [], [], [], [], []] = true := by decide +kernel
set_option maxRecDepth 1000000 in
set_option maxHeartbeats 0 in
theorem c_Co_lineDelay : zcj zyi 195 false false [102, 103] 4 zc_Co_lineDelay [[], [], [], [], [], [], [], [], [], [], [], [], [103, 1341, 1343, 29], [], [], [], [], [], [], [], [], [], [], [], [], [], [249], [], [], [], [], [], [], [104, 1350, 1351, 1352], [], [], [], [], [], [], [], [], [], [243], [], [], [], [213], [], [], [], [], [213], [], [], [], [], [], [], [], [], [], []] = true := by decide +kernel
set_option maxRecDepth 1000000 in
set_option maxHeartbeats 0 in
theorem c_Co_delayOf : zcj zyi 193 false false [102, 103, 108] 3 zc_Co_delayOf [[], [605], [], [], [], [], [], [], [], [], [], [], [], [], [], [], [], [], [], [], [], [], [], [], [], [], [], [], [], [], [], [], [], [], [], [], [], [], [], [], [], [], [], [], [], [], [], [], [], [], [], [], [], [], [], [], [], [], [], [], [], [], [], [], [], [], [], [], [], [], [], [], [], [], [], [], [], [], [], [], [], [], [], [], [], [], [], [], [], [], [], [103, 1337, 1339, 28], [], [], [], [], [], [103, 1346, 1348, 30], [], [], [], [], [], [253], [], [], [], [], [], [], [251], [], [], [131, 1355, 1356], [], [], [], [], [], [], [251], [], [], [131, 1355, 1356], [], [], [], [], [], []] = true := by decide +kernel
