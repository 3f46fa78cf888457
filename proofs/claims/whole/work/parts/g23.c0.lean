set_option maxRecDepth 1000000 in
set_option maxHeartbeats 0 in
theorem c_It_bitCount : zcj zyi 0 false false [0] 1 zc_It_bitCount [[], [], [], [], [12058], [], [], [], [], [], [], [12059], [], [], [], [], [], [], [12059], [], [], [], [], [], [], [], [], [], [], [12060], [], [], [], [], [], [], [], [], [], [], [], [], [], [], [], [], [], [], [], [], [], [], []] = true := by decide +kernel
set_option maxRecDepth 1000000 in
set_option maxHeartbeats 0 in
theorem c_Ma_floorMod : zcj zyi 1 false false [0, 0] 3 zc_Ma_floorMod [[], [], [], [], [], [], [], [], [], [], [], [], [], [], [], [], [], [], [], []] = true := by decide +kernel
set_option maxRecDepth 1000000 in
set_option maxHeartbeats 0 in
theorem c_Ma_max : zcj zyi 2 false false [0, 0] 2 zc_Ma_max [[], [], [], [], [], [], [], [], [], [], []] = true := by decide +kernel
set_option maxRecDepth 1000000 in
set_option maxHeartbeats 0 in
theorem c_Ma_min : zcj zyi 3 false false [0, 0] 2 zc_Ma_min [[], [], [], [], [], [], [], [], [], [], []] = true := by decide +kernel
set_option maxRecDepth 1000000 in
set_option maxHeartbeats 0 in
theorem c_Ar_fill_29 : zcj zyi 4 false false [129, 0] 4 zc_Ar_fill_29 [[], [], [], [], [], [], [], [], [], [], [], [], [], [], [], [], [], [], [], [], []] = true := by decide +kernel
set_option maxRecDepth 1000000 in
set_option maxHeartbeats 0 in
theorem c_Ar_fill_31 : zcj zyi 5 false false [131, 0] 4 zc_Ar_fill_31 [[], [], [], [], [], [], [], [], [], [], [], [], [], [], [], [], [], [], [], [], []] = true := by decide +kernel
set_option maxRecDepth 1000000 in
set_option maxHeartbeats 0 in
theorem c_Ar_fill_32 : zcj zyi 6 false false [132, 0] 4 zc_Ar_fill_32 [[], [], [], [], [], [], [], [], [], [], [], [], [], [], [], [], [], [], [], [], []] = true := by decide +kernel
set_option maxRecDepth 1000000 in
set_option maxHeartbeats 0 in
theorem c_Ar_fill_39 : zcj zyi 7 false false [139, 0] 4 zc_Ar_fill_39 [[], [], [], [], [], [], [], [], [], [], [], [], [], [], [], [], [], [], [], [], []] = true := by decide +kernel
set_option maxRecDepth 1000000 in
set_option maxHeartbeats 0 in
theorem c_Ar_fill_40 : zcj zyi 8 false false [140, 0] 4 zc_Ar_fill_40 [[], [], [], [], [], [], [], [], [], [], [], [], [], [], [], [], [], [], [], [], []] = true := by decide +kernel
set_option maxRecDepth 1000000 in
set_option maxHeartbeats 0 in
theorem c_Fi_init : zcj zyi 201 true false [104] 1 zc_Fi_init [[], [7104, 7039, 7040], [], [], []] = true := by decide +kernel
set_option maxRecDepth 1000000 in
set_option maxHeartbeats 0 in
theorem c_Un_init : zcj zyi 276 true false [103] 1 zc_Un_init [[], [7079, 7039, 7040], [], [], [], [], [7080], [], [], [7082], [], [], [], [], [7098], [], [], [], [], [], [], [], [], [], [7084], [], [], []] = true := by decide +kernel
set_option maxRecDepth 1000000 in
set_option maxHeartbeats 0 in
theorem c_Co_init : zcj zyi 179 true false [102, 101] 2 zc_Co_init [[], [7072, 7039, 7040], [], [], [], [], [], [7098], [], [7139], [], [], [], [], [7073], [], [], [], [], [7073, 7075, 7004], [], [], [], [7004, 0, 7077], [], [], [], [], [], [7073, 7075, 7004], [], [], [], [7004, 0, 7077], [], [], [], [7141], [], [], [], [7099, 7100, 7005], [], [], [], [7005, 0, 7102], [], [], [7143], [], [], [], [], [], [7147], [], [], [], [], [7098], [], [7149], [], [], [], [], [7098], [], [7150], [], [], [], [], [7138], [], [], []] = true := by decide +kernel
set_option maxRecDepth 1000000 in
set_option maxHeartbeats 0 in
theorem c_Le_init : zcj zyi 239 true false [101] 1 zc_Le_init [[], [7046, 7039, 7040], [], [], [], [], [7047], [], [], [7051], [], [], [], [], [], [7049], [], [], [7052], [], [], []] = true := by decide +kernel
set_option maxRecDepth 1000000 in
set_option maxHeartbeats 0 in
theorem c_Th_init : zcj zyi 253 true false [106, 0, 0] 3 zc_Th_init [[], [7189, 7039, 7040], [], [], [], [], [7193], [], [], [], [], [], [7008, 7190, 7191], [], [], [7098], [], [7196], [], [], []] = true := by decide +kernel
set_option maxRecDepth 1000000 in
set_option maxHeartbeats 0 in
theorem c_Re_init : zcj zyi 268 true false [105] 2 zc_Re_init [[], [7182, 7039, 7040], [], [], [], [], [], [7098], [], [7214], [], [], [], [], [], [7098], [], [7216], [], [], [], [], [], [7183], [], [], [7217], [], [], [], [], [], [7098], [], [7218], [], [], [], [], [], [], [7217], [], [], [], [], [], [], [], [7217], [], [], [], [7183, 7185, 7007], [], [], [], [], [], [], [7007, 7186, 7187], [], [], [], [], [], [], [], [], [], []] = true := by decide +kernel
set_option maxRecDepth 1000000 in
set_option maxHeartbeats 0 in
theorem c_X_init : zcj zyi 9 true false [100] 1 zc_X_init [[], [7038, 7039, 7040], [], [], [], [7041, 7042, 7002], [], [], [], [7002, 0, 7044], [], [], [7237], [], [], [], [7067, 7068, 7003], [], [], [], [], [7237], [], [], [7003, 7069, 7070], [], [], [7238], [], [], [], [7177, 7178, 7006], [], [], [], [7006, 7179, 7180], [], [], [7239], [], [], []] = true := by decide +kernel
set_option maxRecDepth 1000000 in
set_option maxHeartbeats 0 in
theorem c_X_isWithin : zcj zyi 54 false false [0, 0, 0] 3 zc_X_isWithin [[], [], [], [], [], [], [], [], [], [], [], [], [], [], [], []] = true := by decide +kernel
set_option maxRecDepth 1000000 in
set_option maxHeartbeats 0 in
theorem c_Ke_init : zcj zyi 222 true false [107, 0, 0] 3 zc_Ke_init [[], [8159, 7039, 7040], [], [], [], [], [], [8160], [], [], [8169], [], [], [], [], [8162], [], [], [], [], [8165], [], [], []] = true := by decide +kernel
set_option maxRecDepth 1000000 in
set_option maxHeartbeats 0 in
theorem c_Le_enterKernel : zcj zyi 242 false false [101, 107] 2 zc_Le_enterKernel [[], [7053], [], [], [], [7051], [], [], [], [], [], [], [], [7051], [], [], [], [7053], [], [], [], [], [], [], [7053], [], [], [], [], [7053], [], [], [], [7053], [], [], [], [], []] = true := by decide +kernel
set_option maxRecDepth 1000000 in
set_option maxHeartbeats 0 in
theorem c_X_addKernel : zcj zyi 10 false true [100, 0, 0] 3 zc_X_addKernel [[], [], [], [], [7001, 8068, 8069], [], [], [], [], [], [], [], [], [], [7001, 8068, 8069], [], [], [], [], [], [8071, 8116], [], [], [], [], [], [], [], [], [7237], [], [], [7054], [], [], [], [], [], [], [8139, 8148], [], [], [], [], [], [], [], [], [7237], [], [], [8154, 8155, 7015], [], [], [], [], [], [7015, 8156, 8157], [], [], [7002, 8188, 8189, 8190], [], [], []] = true := by decide +kernel
set_option maxRecDepth 1000000 in
set_option maxHeartbeats 0 in
theorem c_Le_kernelOf : zcj zyi 240 false false [101, 0] 2 zc_Le_kernelOf [[], [], [], [7053], [], [], [], [], [7001, 0, 8069], [], [], [], [], [], [], [7051], [], [], [], [], [], [], [], [], []] = true := by decide +kernel
set_option maxRecDepth 1000000 in
set_option maxHeartbeats 0 in
theorem c_X_kernelAt : zcj zyi 47 false true [100, 0] 3 zc_X_kernelAt [[], [7237], [], [], [], [7002, 8236, 8237, 8238], [], [], [], [], [], [], [], [9001, 9010], [], [], [], [], [], [], [], [], []] = true := by decide +kernel
set_option maxRecDepth 1000000 in
set_option maxHeartbeats 0 in
theorem c_In_init : zcj zyi 218 true false [108, 0, 0, 0, 0] 5 zc_In_init [[], [9021, 7039, 7040], [], [], [], [], [9022], [], [], [], [], [9027], [], [], [], [], [9032], [], [], [], [], [], [9036], [], [], []] = true := by decide +kernel
set_option maxRecDepth 1000000 in
set_option maxHeartbeats 0 in
theorem c_In_isOneOf : zcj zyi 219 false false [108, 3] 2 zc_In_isOneOf [[], [], [9022], [], [], [7018, 9058, 9059, 9060, 9061], [], [], [], [], [], [], [], [], [], [], []] = true := by decide +kernel
set_option maxRecDepth 1000000 in
set_option maxHeartbeats 0 in
theorem c_Ke_hasRegister : zcj zyi 225 false false [107, 0] 2 zc_Ke_hasRegister [[], [], [], [8162], [], [], [], [], [7001, 0, 8069], [], [], []] = true := by decide +kernel
set_option maxRecDepth 1000000 in
set_option maxHeartbeats 0 in
theorem c_In_isAllowed : zcj zyi 220 false false [108, 107] 2 zc_In_isAllowed [[], [], [], [7019, 9054, 9055, 9056], [], [], [], [], [], [], [], [], [7019, 9054, 9055, 9056], [], [], [], [], [], [], [], [9027], [], [], [7015, 9143, 9144, 9145], [], [], [], [], [], [], [], [], [7019, 9054, 9055, 9056], [], [], [], [], [], [], [], [9032], [], [], [7015, 9143, 9144, 9145], [], [], [], [], [], [], [], [], [7019, 9054, 9055, 9056], [], [], [], [], [], [], [], [9036], [], [], [7015, 9143, 9144, 9145], [], [], [], [], [], [], [], [], [], [], [7019, 9054, 9055, 9056], [], [], [], [], [], [], [9032], [], [], [], [], [], [7001, 0, 8069], [], [], [], [], [9022], [], [], [], [], [], [], [], [], [9032], [], [], [], [], [7001, 0, 8069], [], [], [], [], [], [], [], [], [], [], []] = true := by decide +kernel
set_option maxRecDepth 1000000 in
set_option maxHeartbeats 0 in
theorem c_Ke_append : zcj zyi 223 false false [107, 108] 2 zc_Ke_append [[], [8171], [], [], [], [8169], [], [], [], [], [], [], [], [8169], [], [], [], [8171], [], [], [], [], [], [], [8171], [], [], [], [], [8171], [], [], [], [8171], [], [], [], [], []] = true := by decide +kernel
set_option maxRecDepth 1000000 in
set_option maxHeartbeats 0 in
theorem c_X_code : zcj zyi 11 false true [100, 0, 0, 0, 0, 0] 8 zc_X_code [[], [], [7001, 8232, 8234, 3], [], [], [], [], [9016, 9017, 7019], [], [], [], [], [], [], [], [], [], [7019, 9018, 9019], [], [], [], [], [], [], [], [], [7019, 9049, 9050, 9051], [], [], [], [], [], [8071, 8116], [], [], [], [], [], [], [], [], [], [8172], [], [], [], [], [], [], [], [], [], [8176], [], [], [], [], [], [8139, 8148], [], [], [], [], [], [], [], [], [], [], [], [7015, 9152, 9153, 9154], [], [], []] = true := by decide +kernel
set_option maxRecDepth 1000000 in
set_option maxHeartbeats 0 in
theorem c_X_groupsFor : zcj zyi 57 false false [0] 1 zc_X_groupsFor [[], [], [], [], [], [], [], []] = true := by decide +kernel
set_option maxRecDepth 1000000 in
set_option maxHeartbeats 0 in
theorem c_Ke_blocksInUnit : zcj zyi 227 false false [107, 0] 3 zc_Ke_blocksInUnit [[], [], [], [], [7001, 0, 8069], [], [], [], [], [], [], [8162], [], [], [], [], [], [], [], [], [], [], [7001, 0, 9168], [], [], [], [], [], [], [], [8162], [], [], [], [], [7008, 9170, 9088], [], [], [], [], [8165], [], [], [], [], [], [], [], [], [], [], [], [], [], [], [8165], [], [], [], [7008, 9170, 9088], [], [], []] = true := by decide +kernel
set_option maxRecDepth 1000000 in
set_option maxHeartbeats 0 in
theorem c_X_fits : zcj zyi 12 false true [100, 0, 0] 4 zc_X_fits [[], [], [7001, 8232, 8234, 3], [], [], [], [], [], [], [], [7001, 8068, 8069], [], [], [], [], [], [8071, 8116], [], [], [], [], [], [], [], [], [], [7015, 9163, 9164, 9165], [], [], []] = true := by decide +kernel
set_option maxRecDepth 1000000 in
set_option maxHeartbeats 0 in
theorem c_X_isCell : zcj zyi 55 false false [0] 1 zc_X_isCell [[], [], [], [], [7001, 8068, 8069], [], [], []] = true := by decide +kernel
set_option maxRecDepth 1000000 in
set_option maxHeartbeats 0 in
theorem c_X_poke : zcj zyi 13 false true [100, 0, 0] 4 zc_X_poke [[], [7001, 9178, 9179], [], [], [], [], [], [9001, 9010], [], [], [], [], [], [], [], [], [7238], [], [], [7140], [], [], [], [], [], [], [7238], [], [], [7140], [], [], [], [], [], [], []] = true := by decide +kernel
set_option maxRecDepth 1000000 in
set_option maxHeartbeats 0 in
theorem c_X_peek : zcj zyi 14 false true [100, 0] 2 zc_X_peek [[], [7001, 9178, 9179], [], [], [], [], [], [9001, 9010], [], [], [], [], [], [], [], [], [7238], [], [], [7140], [], [], [], [], []] = true := by decide +kernel
set_option maxRecDepth 1000000 in
set_option maxHeartbeats 0 in
theorem c_Le_launchOf : zcj zyi 241 false false [101, 0] 2 zc_Le_launchOf [[], [], [], [7055], [], [], [], [], [7001, 0, 8069], [], [], [], [], [], [], [7052], [], [], [], [], [], [], [], [], []] = true := by decide +kernel
set_option maxRecDepth 1000000 in
set_option maxHeartbeats 0 in
theorem c_X_launchAt : zcj zyi 48 false true [100, 0] 3 zc_X_launchAt [[], [7237], [], [], [], [7002, 9204, 9205, 9206], [], [], [], [], [], [], [], [9001, 9010], [], [], [], [], [], [], [], [], []] = true := by decide +kernel
set_option maxRecDepth 1000000 in
set_option maxHeartbeats 0 in
theorem c_X_checkQueueAndAfter : zcj zyi 52 false true [100, 0, 0] 3 zc_X_checkQueueAndAfter [[], [], [], [7001, 8068, 8069], [], [], [], [], [], [9001, 9010], [], [], [], [], [], [], [], [], [], [], [], [], [], [], [7001, 9200, 9202, 5], [], [], [], []] = true := by decide +kernel
set_option maxRecDepth 1000000 in
set_option maxHeartbeats 0 in
theorem c_X_checkRoomForLaunch : zcj zyi 53 false true [100] 1 zc_X_checkRoomForLaunch [[], [7237], [], [], [7057], [], [], [], [], [], [], [], [8139, 8148], [], [], [], [], [], [], [], []] = true := by decide +kernel
set_option maxRecDepth 1000000 in
set_option maxHeartbeats 0 in
theorem c_La_useKernel : zcj zyi 229 false false [109, 107, 0, 0] 4 zc_La_useKernel [[], [], [10015], [], [], [], [10015], [], [], [], [8175], [], [], [], [], [10019], [], [], [], [], [10022], [], [], []] = true := by decide +kernel
set_option maxRecDepth 1000000 in
set_option maxHeartbeats 0 in
theorem c_La_init : zcj zyi 228 true false [109, 0, 0, 109, 109, 109] 6 zc_La_init [[], [10001, 7039, 7040], [], [], [], [], [], [10029], [], [], [], [], [], [7098], [], [10040], [], [], [], [], [], [10086], [], [10042], [], [], [], [], [10002], [], [], [], [], [10004], [], [], [], [], [10006], [], [], [], [], [], [10008], [], [], [], [], [], [10010], [], [], []] = true := by decide +kernel
set_option maxRecDepth 1000000 in
set_option maxHeartbeats 0 in
theorem c_La_isOver : zcj zyi 231 false false [109] 1 zc_La_isOver [[], [10029], [], [], [], [], [], [], [], [], [10029], [], [], [], [], [], [], [], [], [10029], [], [], [], [], [], [], [], [], [], [], [], [], []] = true := by decide +kernel
set_option maxRecDepth 1000000 in
set_option maxHeartbeats 0 in
theorem c_Le_enter : zcj zyi 244 false false [101, 109] 2 zc_Le_enter [[], [7055], [], [], [], [7052], [], [], [], [], [], [], [], [7052], [], [], [], [7055], [], [], [], [], [], [], [7055], [], [], [], [], [7055], [], [], [], []] = true := by decide +kernel
set_option maxRecDepth 1000000 in
set_option maxHeartbeats 0 in
theorem c_Le_lastIn : zcj zyi 245 false false [101, 0] 3 zc_Le_lastIn [[], [7055], [], [], [], [], [], [], [], [], [], [], [7052], [], [], [], [], [10005], [], [], [], [], [], [], [], [7052], [], [], [], [], [], [], [], [], [], [], [], [], []] = true := by decide +kernel
set_option maxRecDepth 1000000 in
set_option maxHeartbeats 0 in
theorem c_Le_enterHostLaunch : zcj zyi 243 false false [101, 0, 0] 5 zc_Le_enterHostLaunch [[], [], [7002, 9231, 9233, 7], [], [], [], [], [], [], [], [], [7025, 9235, 8048, 8049], [], [], [], [], [], [], [], [], [], [], [], [], [], [7049, 9236, 7025], [], [], [], [], [7055], [], [], [], [], [], [], [], [], [], [], [], [], [], [], [], [7002, 9237, 9205, 9206], [], [], [], [7025, 9238, 9239], [], [], [7002, 10087, 10089, 8], [], [], []] = true := by decide +kernel
set_option maxRecDepth 1000000 in
set_option maxHeartbeats 0 in
theorem c_X_launch : zcj zyi 15 false true [100, 0, 0, 0, 0, 0] 8 zc_X_launch [[], [], [], [], [7001, 9196, 9198, 4], [], [], [], [], [7001, 8232, 8234, 3], [], [], [], [], [], [], [], [], [7001, 8068, 8069], [], [], [], [], [], [], [], [], [], [], [7001, 8068, 8069], [], [], [], [], [], [8071, 8116], [], [], [], [], [], [], [], [], [], [], [], [7015, 9163, 9164, 9165], [], [], [], [], [], [9208, 9217], [], [], [], [], [], [], [], [], [7001, 9223, 9225, 6], [], [], [], [7237], [], [], [], [], [], [7002, 9227, 9228, 9229], [], [], [], [], [], [], [], [], [], [], [], [7025, 10091, 10092, 10093], [], [], [], [], [10003], [], [], []] = true := by decide +kernel
set_option maxRecDepth 1000000 in
set_option maxHeartbeats 0 in
theorem c_La_useCopy : zcj zyi 230 false false [109, 0, 0, 0] 4 zc_La_useCopy [[], [], [10037], [], [], [], [], [10038], [], [], [], [], [10039], [], [], []] = true := by decide +kernel
set_option maxRecDepth 1000000 in
set_option maxHeartbeats 0 in
theorem c_X_copy : zcj zyi 16 false true [100, 0, 0, 0, 0, 0] 7 zc_X_copy [[], [], [], [], [7001, 9196, 9198, 4], [], [], [], [], [], [], [], [7001, 8068, 8069], [], [], [], [], [], [], [], [], [], [], [], [], [7001, 8068, 8069], [], [], [], [], [], [], [], [], [], [], [], [], [7001, 8068, 8069], [], [], [], [], [], [8071, 8116], [], [], [], [], [], [], [], [], [7001, 9223, 9225, 6], [], [], [], [7237], [], [], [], [], [], [7002, 9227, 9228, 9229], [], [], [], [], [], [], [], [], [], [], [7025, 10102, 10103, 10104], [], [], [], [], [10003], [], [], []] = true := by decide +kernel
set_option maxRecDepth 1000000 in
set_option maxHeartbeats 0 in
theorem c_X_launches : zcj zyi 17 false false [100] 1 zc_X_launches [[], [7237], [], [], [7057], [], [], []] = true := by decide +kernel
set_option maxRecDepth 1000000 in
set_option maxHeartbeats 0 in
theorem c_X_state : zcj zyi 18 false true [100, 0] 2 zc_X_state [[], [], [7001, 9200, 9202, 5], [], [], [10030], [], [], []] = true := by decide +kernel
set_option maxRecDepth 1000000 in
set_option maxHeartbeats 0 in
theorem c_X_parent : zcj zyi 19 false true [100, 0] 3 zc_X_parent [[], [], [7001, 9200, 9202, 5], [], [], [], [], [10012], [], [], [], [], [], [10121, 10130], [], [], [], [], [], [], [], [], [10012], [], [], [10003], [], [], []] = true := by decide +kernel
set_option maxRecDepth 1000000 in
set_option maxHeartbeats 0 in
theorem c_X_given : zcj zyi 20 false true [100, 0] 2 zc_X_given [[], [], [7001, 9200, 9202, 5], [], [], [10026], [], [], []] = true := by decide +kernel
set_option maxRecDepth 1000000 in
set_option maxHeartbeats 0 in
theorem c_La_isCopyRunning : zcj zyi 234 false false [109] 1 zc_La_isCopyRunning [[], [10015], [], [], [], [], [], [], [10029], [], [], [], [], [], [], [], [], [], [], [], [], []] = true := by decide +kernel
set_option maxRecDepth 1000000 in
set_option maxHeartbeats 0 in
theorem c_La_moveCell : zcj zyi 237 false false [109, 122] 2 zc_La_moveCell [[], [10039], [], [], [], [], [], [], [10037], [], [], [7001, 0, 9179], [], [], [], [], [], [], [10038], [], [], [7001, 0, 9179], [], [], [], [], [], [], [], [10038], [], [], [], [], [10037], [], [], [], [], [], [], [10037], [], [], [], [], [10037], [], [], [], [], [10038], [], [], [], [], [10038], [], [], [], [], [10039], [], [], [], [], [10039], [], [], [], [10039], [], [], [], [], [], [], [], [], [10029], [], [], []] = true := by decide +kernel
set_option maxRecDepth 1000000 in
set_option maxHeartbeats 0 in
theorem c_Co_moveCopies : zcj zyi 181 false false [102] 3 zc_Co_moveCopies [[], [], [], [], [7138], [], [], [7056], [], [], [], [], [], [], [7138], [], [], [], [7002, 10173, 9205, 9206], [], [], [], [], [], [], [], [], [7025, 10174, 10175, 10176], [], [], [], [], [], [], [], [7139], [], [], [7025, 10178, 10179, 10180], [], [], [], [], [], [], [], [], []] = true := by decide +kernel
set_option maxRecDepth 1000000 in
set_option maxHeartbeats 0 in
theorem c_Un_usedRegisters : zcj zyi 279 false false [103] 4 zc_Un_usedRegisters [[], [], [], [], [], [], [7085], [], [], [], [], [], [], [7082], [], [], [], [], [11032], [], [], [], [], [], [7082], [], [], [], [], [11035], [], [], [], [], [], [], [10237], [], [], [], [], [10229], [], [], [10016], [], [], [8164], [], [], [], [], [], [], [], [], [], [], [], [], [], [], [], [], []] = true := by decide +kernel
set_option maxRecDepth 1000000 in
set_option maxHeartbeats 0 in
theorem c_Un_usedShared : zcj zyi 280 false false [103] 3 zc_Un_usedShared [[], [], [], [], [], [], [7085], [], [], [], [], [], [], [], [7082], [], [], [], [], [11035], [], [], [], [], [], [], [7082], [], [], [], [], [11032], [], [], [11001], [], [], [], [], [], [], [], [], [], [], [], [], [], [], [], [], []] = true := by decide +kernel
set_option maxRecDepth 1000000 in
set_option maxHeartbeats 0 in
theorem c_Un_hasRoomFor : zcj zyi 278 false false [103, 107, 0] 3 zc_Un_hasRoomFor [[], [7085], [], [], [], [7001, 0, 9168], [], [], [], [], [], [], [], [], [7004, 8051, 8053, 0], [], [], [], [], [8164], [], [], [], [], [], [], [], [], [], [], [7004, 8055, 8057, 1], [], [], [], [8167], [], [], [], [], [], [], [], [], [], [], [], [], [], []] = true := by decide +kernel
set_option maxRecDepth 1000000 in
set_option maxHeartbeats 0 in
theorem c_Co_unitFor : zcj zyi 183 false false [102, 109] 4 zc_Co_unitFor [[], [], [], [], [], [], [], [], [], [], [7141], [], [], [], [], [], [10017], [], [], [], [10023], [], [], [7004, 10195, 10196, 10197], [], [], [], [], [], [], [], [], [], [], [7141], [], [], [], [], [7086], [], [], [], [7086], [], [], [], [], [], [], [7141], [], [], [], [], [], [], [], [], [], [], [], [], []] = true := by decide +kernel
set_option maxRecDepth 1000000 in
set_option maxHeartbeats 0 in
theorem c_Th_goTo : zcj zyi 262 false false [106, 0, 0] 3 zc_Th_goTo [[], [], [7200], [], [], [], [], [], [], [], [], [], [], [], [], [], [], [7202], [], [], []] = true := by decide +kernel
set_option maxRecDepth 1000000 in
set_option maxHeartbeats 0 in
theorem c_Th_begin : zcj zyi 254 false false [106, 0, 0] 3 zc_Th_begin [[], [], [7197], [], [], [], [7196], [], [], [], [7028, 10219, 10220], [], [], [], [], [], [7202], [], [], [], [], [], [7007, 10222, 10224, 14], [], [], []] = true := by decide +kernel
set_option maxRecDepth 1000000 in
set_option maxHeartbeats 0 in
theorem c_Bl_init : zcj zyi 169 true false [110, 109, 0] 4 zc_Bl_init [[], [10212, 7039, 7040], [], [], [], [], [], [7098], [], [11004], [], [], [], [], [10228], [], [], [], [], [10232], [], [], [], [], [10021], [], [], [10213], [], [], [10235], [], [], [], [], [], [], [10235], [], [], [], [], [], [], [], [10235], [], [], [], [10213, 7185, 7007], [], [], [], [], [], [10014], [], [], [8163], [], [], [7007, 10214, 7187], [], [], [], [], [10235], [], [], [], [], [], [], [10014], [], [], [8170], [], [], [7007, 10215, 10216, 10217], [], [], [], [], [], [], [], [], [], [], [10021], [], [], [7001, 0, 9168], [], [], [10227], [], [], [10238], [], [], [], [], [10014], [], [], [8166], [], [], [7098], [], [11000], [], [], [], [], [10014], [], [], [8166], [], [], [7098], [], [11005], [], [], [], [], [10014], [], [], [8166], [], [], [10086], [], [11006], [], [], []] = true := by decide +kernel
set_option maxRecDepth 1000000 in
set_option maxHeartbeats 0 in
theorem c_Gr_init : zcj zyi 202 true false [111, 110, 0] 4 zc_Gr_init [[], [11028, 7039, 7040], [], [], [], [], [7098], [], [11038], [], [], [], [], [7098], [], [11039], [], [], [], [], [11030], [], [], [], [], [11034], [], [], [], [], [11029], [], [], [11037], [], [], [], [], [], [], [], [], [], [], [], [], [], [10236], [], [], [], [], [], [], [], [11037], [], [], [], [], [10236], [], [], [], [], [], [], [], [], [], [], [], [], [], []] = true := by decide +kernel
set_option maxRecDepth 1000000 in
set_option maxHeartbeats 0 in
theorem c_Bl_nextOf : zcj zyi 170 false false [109] 3 zc_Bl_nextOf [[10207, 10208, 7027], [], [], [], [], [], [10024], [], [], [7027, 10209, 10210], [], [], [], [], [], [], [], [10238], [], [], [], [], [], [], [], [10238], [], [], [], [10227, 11024, 7029], [], [], [], [], [], [], [], [7029, 11025, 11026], [], [], [], [], [], [], [], [], [], [], [], [10024], [], [], [], [], [10024], [], [], [], []] = true := by decide +kernel
