set_option maxRecDepth 1000000 in
set_option maxHeartbeats 0 in
theorem c_It_bitCount : zcj zyi 0 false false [0] 1 zc_It_bitCount [[], [], [], [], [1358], [], [], [], [], [], [], [1359], [], [], [], [], [], [], [1359], [], [], [], [], [], [], [], [], [], [], [1360], [], [], [], [], [], [], [], [], [], [], [], [], [], [], [], [], [], [], [], [], [], [], []] = true := by decide +kernel
set_option maxRecDepth 1000000 in
set_option maxHeartbeats 0 in
theorem c_Ma_floorMod : zcj zyi 1 false false [0, 0] 3 zc_Ma_floorMod [[], [], [], [], [], [], [], [], [], [], [], [], [], [], [], [], [], [], [], []] = true := by decide +kernel
set_option maxRecDepth 1000000 in
set_option maxHeartbeats 0 in
theorem c_Ma_max : zcj zyi 2 false false [0, 0] 2 zc_Ma_max [[], [], [], [], [], [], [], [], [], [], []] = true := by decide +kernel
set_option maxRecDepth 1000000 in
set_option maxHeartbeats 0 in
theorem c_Ma_min : zcj zyi 3 false false [0, 0] 2 zc_Ma_min [[], [], [], [], [], [], [], [], [], [], []] = true := by decide +kernel
set_option maxRecDepth 1000000 in
set_option maxHeartbeats 0 in
theorem c_Ar_fill_29 : zcj zyi 4 false false [129, 0] 4 zc_Ar_fill_29 [[], [], [], [], [], [], [], [], [], [], [], [], [], [], [], [], [], [], [], [], []] = true := by decide +kernel
set_option maxRecDepth 1000000 in
set_option maxHeartbeats 0 in
theorem c_Ar_fill_31 : zcj zyi 5 false false [131, 0] 4 zc_Ar_fill_31 [[], [], [], [], [], [], [], [], [], [], [], [], [], [], [], [], [], [], [], [], []] = true := by decide +kernel
set_option maxRecDepth 1000000 in
set_option maxHeartbeats 0 in
theorem c_Ar_fill_32 : zcj zyi 6 false false [132, 0] 4 zc_Ar_fill_32 [[], [], [], [], [], [], [], [], [], [], [], [], [], [], [], [], [], [], [], [], []] = true := by decide +kernel
set_option maxRecDepth 1000000 in
set_option maxHeartbeats 0 in
theorem c_Ar_fill_39 : zcj zyi 7 false false [139, 0] 4 zc_Ar_fill_39 [[], [], [], [], [], [], [], [], [], [], [], [], [], [], [], [], [], [], [], [], []] = true := by decide +kernel
set_option maxRecDepth 1000000 in
set_option maxHeartbeats 0 in
theorem c_Ar_fill_40 : zcj zyi 8 false false [140, 0] 4 zc_Ar_fill_40 [[], [], [], [], [], [], [], [], [], [], [], [], [], [], [], [], [], [], [], [], []] = true := by decide +kernel
set_option maxRecDepth 1000000 in
set_option maxHeartbeats 0 in
theorem c_Fi_init : zcj zyi 201 true false [104] 1 zc_Fi_init [[], [204, 139, 140], [], [], []] = true := by decide +kernel
set_option maxRecDepth 1000000 in
set_option maxHeartbeats 0 in
theorem c_Un_init : zcj zyi 276 true false [103] 1 zc_Un_init [[], [179, 139, 140], [], [], [], [], [180], [], [], [182], [], [], [], [], [198], [], [], [], [], [], [], [], [], [], [184], [], [], []] = true := by decide +kernel
set_option maxRecDepth 1000000 in
set_option maxHeartbeats 0 in
theorem c_Co_init : zcj zyi 179 true false [102, 101] 2 zc_Co_init [[], [172, 139, 140], [], [], [], [], [], [198], [], [239], [], [], [], [], [173], [], [], [], [], [173, 175, 104], [], [], [], [104, 0, 177], [], [], [], [], [], [173, 175, 104], [], [], [], [104, 0, 177], [], [], [], [241], [], [], [], [199, 200, 105], [], [], [], [105, 0, 202], [], [], [243], [], [], [], [], [], [247], [], [], [], [], [198], [], [249], [], [], [], [], [198], [], [250], [], [], [], [], [238], [], [], []] = true := by decide +kernel
set_option maxRecDepth 1000000 in
set_option maxHeartbeats 0 in
theorem c_Le_init : zcj zyi 239 true false [101] 1 zc_Le_init [[], [146, 139, 140], [], [], [], [], [147], [], [], [151], [], [], [], [], [], [149], [], [], [152], [], [], []] = true := by decide +kernel
set_option maxRecDepth 1000000 in
set_option maxHeartbeats 0 in
theorem c_Th_init : zcj zyi 253 true false [106, 0, 0] 3 zc_Th_init [[], [289, 139, 140], [], [], [], [], [293], [], [], [], [], [], [108, 290, 291], [], [], [198], [], [296], [], [], []] = true := by decide +kernel
set_option maxRecDepth 1000000 in
set_option maxHeartbeats 0 in
theorem c_Re_init : zcj zyi 268 true false [105] 2 zc_Re_init [[], [282, 139, 140], [], [], [], [], [], [198], [], [314], [], [], [], [], [], [198], [], [316], [], [], [], [], [], [283], [], [], [317], [], [], [], [], [], [198], [], [318], [], [], [], [], [], [], [317], [], [], [], [], [], [], [], [317], [], [], [], [283, 285, 107], [], [], [], [], [], [], [107, 286, 287], [], [], [], [], [], [], [], [], [], []] = true := by decide +kernel
set_option maxRecDepth 1000000 in
set_option maxHeartbeats 0 in
theorem c_X_init : zcj zyi 9 true false [100] 1 zc_X_init [[], [138, 139, 140], [], [], [], [141, 142, 102], [], [], [], [102, 0, 144], [], [], [337], [], [], [], [167, 168, 103], [], [], [], [], [337], [], [], [103, 169, 170], [], [], [338], [], [], [], [277, 278, 106], [], [], [], [106, 279, 280], [], [], [339], [], [], []] = true := by decide +kernel
set_option maxRecDepth 1000000 in
set_option maxHeartbeats 0 in
theorem c_X_isWithin : zcj zyi 54 false false [0, 0, 0] 3 zc_X_isWithin [[], [], [], [], [], [], [], [], [], [], [], [], [], [], [], []] = true := by decide +kernel
set_option maxRecDepth 1000000 in
set_option maxHeartbeats 0 in
theorem c_Ke_init : zcj zyi 222 true false [107, 0, 0] 3 zc_Ke_init [[], [499, 139, 140], [], [], [], [], [], [500], [], [], [509], [], [], [], [], [502], [], [], [], [], [505], [], [], []] = true := by decide +kernel
set_option maxRecDepth 1000000 in
set_option maxHeartbeats 0 in
theorem c_Le_enterKernel : zcj zyi 242 false false [101, 107] 2 zc_Le_enterKernel [[], [153], [], [], [], [151], [], [], [], [], [], [], [], [151], [], [], [], [153], [], [], [], [], [], [], [153], [], [], [], [], [153], [], [], [], [153], [], [], [], [], []] = true := by decide +kernel
set_option maxRecDepth 1000000 in
set_option maxHeartbeats 0 in
theorem c_X_addKernel : zcj zyi 10 false true [100, 0, 0] 3 zc_X_addKernel [[], [], [], [], [101, 408, 409], [], [], [], [], [], [], [], [], [], [101, 408, 409], [], [], [], [], [], [411, 456], [], [], [], [], [], [], [], [], [337], [], [], [154], [], [], [], [], [], [], [479, 488], [], [], [], [], [], [], [], [], [337], [], [], [494, 495, 115], [], [], [], [], [], [115, 496, 497], [], [], [102, 528, 529, 530], [], [], []] = true := by decide +kernel
set_option maxRecDepth 1000000 in
set_option maxHeartbeats 0 in
theorem c_Le_kernelOf : zcj zyi 240 false false [101, 0] 2 zc_Le_kernelOf [[], [], [], [153], [], [], [], [], [101, 0, 409], [], [], [], [], [], [], [151], [], [], [], [], [], [], [], [], []] = true := by decide +kernel
set_option maxRecDepth 1000000 in
set_option maxHeartbeats 0 in
theorem c_X_kernelAt : zcj zyi 47 false true [100, 0] 3 zc_X_kernelAt [[], [337], [], [], [], [102, 576, 577, 578], [], [], [], [], [], [], [], [581, 590], [], [], [], [], [], [], [], [], []] = true := by decide +kernel
set_option maxRecDepth 1000000 in
set_option maxHeartbeats 0 in
theorem c_In_init : zcj zyi 218 true false [108, 0, 0, 0, 0] 5 zc_In_init [[], [601, 139, 140], [], [], [], [], [602], [], [], [], [], [607], [], [], [], [], [612], [], [], [], [], [], [616], [], [], []] = true := by decide +kernel
set_option maxRecDepth 1000000 in
set_option maxHeartbeats 0 in
theorem c_In_isOneOf : zcj zyi 219 false false [108, 3] 2 zc_In_isOneOf [[], [], [602], [], [], [118, 638, 639, 640, 641], [], [], [], [], [], [], [], [], [], [], []] = true := by decide +kernel
set_option maxRecDepth 1000000 in
set_option maxHeartbeats 0 in
theorem c_Ke_hasRegister : zcj zyi 225 false false [107, 0] 2 zc_Ke_hasRegister [[], [], [], [502], [], [], [], [], [101, 0, 409], [], [], []] = true := by decide +kernel
set_option maxRecDepth 1000000 in
set_option maxHeartbeats 0 in
theorem c_In_isAllowed : zcj zyi 220 false false [108, 107] 2 zc_In_isAllowed [[], [], [], [119, 634, 635, 636], [], [], [], [], [], [], [], [], [119, 634, 635, 636], [], [], [], [], [], [], [], [607], [], [], [115, 723, 724, 725], [], [], [], [], [], [], [], [], [119, 634, 635, 636], [], [], [], [], [], [], [], [612], [], [], [115, 723, 724, 725], [], [], [], [], [], [], [], [], [119, 634, 635, 636], [], [], [], [], [], [], [], [616], [], [], [115, 723, 724, 725], [], [], [], [], [], [], [], [], [], [], [119, 634, 635, 636], [], [], [], [], [], [], [612], [], [], [], [], [], [101, 0, 409], [], [], [], [], [602], [], [], [], [], [], [], [], [], [612], [], [], [], [], [101, 0, 409], [], [], [], [], [], [], [], [], [], [], []] = true := by decide +kernel
set_option maxRecDepth 1000000 in
set_option maxHeartbeats 0 in
theorem c_Ke_append : zcj zyi 223 false false [107, 108] 2 zc_Ke_append [[], [511], [], [], [], [509], [], [], [], [], [], [], [], [509], [], [], [], [511], [], [], [], [], [], [], [511], [], [], [], [], [511], [], [], [], [511], [], [], [], [], []] = true := by decide +kernel
set_option maxRecDepth 1000000 in
set_option maxHeartbeats 0 in
theorem c_X_code : zcj zyi 11 false true [100, 0, 0, 0, 0, 0] 8 zc_X_code [[], [], [101, 572, 574, 3], [], [], [], [], [596, 597, 119], [], [], [], [], [], [], [], [], [], [119, 598, 599], [], [], [], [], [], [], [], [], [119, 629, 630, 631], [], [], [], [], [], [411, 456], [], [], [], [], [], [], [], [], [], [512], [], [], [], [], [], [], [], [], [], [516], [], [], [], [], [], [479, 488], [], [], [], [], [], [], [], [], [], [], [], [115, 732, 733, 734], [], [], []] = true := by decide +kernel
set_option maxRecDepth 1000000 in
set_option maxHeartbeats 0 in
theorem c_X_groupsFor : zcj zyi 57 false false [0] 1 zc_X_groupsFor [[], [], [], [], [], [], [], []] = true := by decide +kernel
set_option maxRecDepth 1000000 in
set_option maxHeartbeats 0 in
theorem c_Ke_blocksInUnit : zcj zyi 227 false false [107, 0] 3 zc_Ke_blocksInUnit [[], [], [], [], [101, 0, 409], [], [], [], [], [], [], [502], [], [], [], [], [], [], [], [], [], [], [101, 0, 748], [], [], [], [], [], [], [], [502], [], [], [], [], [108, 750, 668], [], [], [], [], [505], [], [], [], [], [], [], [], [], [], [], [], [], [], [], [505], [], [], [], [108, 750, 668], [], [], []] = true := by decide +kernel
set_option maxRecDepth 1000000 in
set_option maxHeartbeats 0 in
theorem c_X_fits : zcj zyi 12 false true [100, 0, 0] 4 zc_X_fits [[], [], [101, 572, 574, 3], [], [], [], [], [], [], [], [101, 408, 409], [], [], [], [], [], [411, 456], [], [], [], [], [], [], [], [], [], [115, 743, 744, 745], [], [], []] = true := by decide +kernel
set_option maxRecDepth 1000000 in
set_option maxHeartbeats 0 in
theorem c_X_isCell : zcj zyi 55 false false [0] 1 zc_X_isCell [[], [], [], [], [101, 408, 409], [], [], []] = true := by decide +kernel
set_option maxRecDepth 1000000 in
set_option maxHeartbeats 0 in
theorem c_X_poke : zcj zyi 13 false true [100, 0, 0] 4 zc_X_poke [[], [101, 758, 759], [], [], [], [], [], [581, 590], [], [], [], [], [], [], [], [], [338], [], [], [240], [], [], [], [], [], [], [338], [], [], [240], [], [], [], [], [], [], []] = true := by decide +kernel
set_option maxRecDepth 1000000 in
set_option maxHeartbeats 0 in
theorem c_X_peek : zcj zyi 14 false true [100, 0] 2 zc_X_peek [[], [101, 758, 759], [], [], [], [], [], [581, 590], [], [], [], [], [], [], [], [], [338], [], [], [240], [], [], [], [], []] = true := by decide +kernel
set_option maxRecDepth 1000000 in
set_option maxHeartbeats 0 in
theorem c_Le_launchOf : zcj zyi 241 false false [101, 0] 2 zc_Le_launchOf [[], [], [], [155], [], [], [], [], [101, 0, 409], [], [], [], [], [], [], [152], [], [], [], [], [], [], [], [], []] = true := by decide +kernel
set_option maxRecDepth 1000000 in
set_option maxHeartbeats 0 in
theorem c_X_launchAt : zcj zyi 48 false true [100, 0] 3 zc_X_launchAt [[], [337], [], [], [], [102, 784, 785, 786], [], [], [], [], [], [], [], [581, 590], [], [], [], [], [], [], [], [], []] = true := by decide +kernel
set_option maxRecDepth 1000000 in
set_option maxHeartbeats 0 in
theorem c_X_checkQueueAndAfter : zcj zyi 52 false true [100, 0, 0] 3 zc_X_checkQueueAndAfter [[], [], [], [101, 408, 409], [], [], [], [], [], [581, 590], [], [], [], [], [], [], [], [], [], [], [], [], [], [], [101, 780, 782, 5], [], [], [], []] = true := by decide +kernel
set_option maxRecDepth 1000000 in
set_option maxHeartbeats 0 in
theorem c_X_checkRoomForLaunch : zcj zyi 53 false true [100] 1 zc_X_checkRoomForLaunch [[], [337], [], [], [157], [], [], [], [], [], [], [], [479, 488], [], [], [], [], [], [], [], []] = true := by decide +kernel
set_option maxRecDepth 1000000 in
set_option maxHeartbeats 0 in
theorem c_La_useKernel : zcj zyi 229 false false [109, 107, 0, 0] 4 zc_La_useKernel [[], [], [835], [], [], [], [835], [], [], [], [515], [], [], [], [], [839], [], [], [], [], [842], [], [], []] = true := by decide +kernel
set_option maxRecDepth 1000000 in
set_option maxHeartbeats 0 in
theorem c_La_init : zcj zyi 228 true false [109, 0, 0, 109, 109, 109] 6 zc_La_init [[], [821, 139, 140], [], [], [], [], [], [849], [], [], [], [], [], [198], [], [860], [], [], [], [], [], [906], [], [862], [], [], [], [], [822], [], [], [], [], [824], [], [], [], [], [826], [], [], [], [], [], [828], [], [], [], [], [], [830], [], [], []] = true := by decide +kernel
set_option maxRecDepth 1000000 in
set_option maxHeartbeats 0 in
theorem c_La_isOver : zcj zyi 231 false false [109] 1 zc_La_isOver [[], [849], [], [], [], [], [], [], [], [], [849], [], [], [], [], [], [], [], [], [849], [], [], [], [], [], [], [], [], [], [], [], [], []] = true := by decide +kernel
set_option maxRecDepth 1000000 in
set_option maxHeartbeats 0 in
theorem c_Le_enter : zcj zyi 244 false false [101, 109] 2 zc_Le_enter [[], [155], [], [], [], [152], [], [], [], [], [], [], [], [152], [], [], [], [155], [], [], [], [], [], [], [155], [], [], [], [], [155], [], [], [], []] = true := by decide +kernel
set_option maxRecDepth 1000000 in
set_option maxHeartbeats 0 in
theorem c_Le_lastIn : zcj zyi 245 false false [101, 0] 3 zc_Le_lastIn [[], [155], [], [], [], [], [], [], [], [], [], [], [152], [], [], [], [], [825], [], [], [], [], [], [], [], [152], [], [], [], [], [], [], [], [], [], [], [], [], []] = true := by decide +kernel
set_option maxRecDepth 1000000 in
set_option maxHeartbeats 0 in
theorem c_Le_enterHostLaunch : zcj zyi 243 false false [101, 0, 0] 5 zc_Le_enterHostLaunch [[], [], [102, 811, 813, 7], [], [], [], [], [], [], [], [], [125, 815, 388, 389], [], [], [], [], [], [], [], [], [], [], [], [], [], [149, 816, 125], [], [], [], [], [155], [], [], [], [], [], [], [], [], [], [], [], [], [], [], [], [102, 817, 785, 786], [], [], [], [125, 818, 819], [], [], [102, 907, 909, 8], [], [], []] = true := by decide +kernel
set_option maxRecDepth 1000000 in
set_option maxHeartbeats 0 in
theorem c_X_launch : zcj zyi 15 false true [100, 0, 0, 0, 0, 0] 8 zc_X_launch [[], [], [], [], [101, 776, 778, 4], [], [], [], [], [101, 572, 574, 3], [], [], [], [], [], [], [], [], [101, 408, 409], [], [], [], [], [], [], [], [], [], [], [101, 408, 409], [], [], [], [], [], [411, 456], [], [], [], [], [], [], [], [], [], [], [], [115, 743, 744, 745], [], [], [], [], [], [788, 797], [], [], [], [], [], [], [], [], [101, 803, 805, 6], [], [], [], [337], [], [], [], [], [], [102, 807, 808, 809], [], [], [], [], [], [], [], [], [], [], [], [125, 911, 912, 913], [], [], [], [], [823], [], [], []] = true := by decide +kernel
set_option maxRecDepth 1000000 in
set_option maxHeartbeats 0 in
theorem c_La_useCopy : zcj zyi 230 false false [109, 0, 0, 0] 4 zc_La_useCopy [[], [], [857], [], [], [], [], [858], [], [], [], [], [859], [], [], []] = true := by decide +kernel
set_option maxRecDepth 1000000 in
set_option maxHeartbeats 0 in
theorem c_X_copy : zcj zyi 16 false true [100, 0, 0, 0, 0, 0] 7 zc_X_copy [[], [], [], [], [101, 776, 778, 4], [], [], [], [], [], [], [], [101, 408, 409], [], [], [], [], [], [], [], [], [], [], [], [], [101, 408, 409], [], [], [], [], [], [], [], [], [], [], [], [], [101, 408, 409], [], [], [], [], [], [411, 456], [], [], [], [], [], [], [], [], [101, 803, 805, 6], [], [], [], [337], [], [], [], [], [], [102, 807, 808, 809], [], [], [], [], [], [], [], [], [], [], [125, 922, 923, 924], [], [], [], [], [823], [], [], []] = true := by decide +kernel
set_option maxRecDepth 1000000 in
set_option maxHeartbeats 0 in
theorem c_X_launches : zcj zyi 17 false false [100] 1 zc_X_launches [[], [337], [], [], [157], [], [], []] = true := by decide +kernel
set_option maxRecDepth 1000000 in
set_option maxHeartbeats 0 in
theorem c_X_state : zcj zyi 18 false true [100, 0] 2 zc_X_state [[], [], [101, 780, 782, 5], [], [], [850], [], [], []] = true := by decide +kernel
set_option maxRecDepth 1000000 in
set_option maxHeartbeats 0 in
theorem c_X_parent : zcj zyi 19 false true [100, 0] 3 zc_X_parent [[], [], [101, 780, 782, 5], [], [], [], [], [832], [], [], [], [], [], [941, 950], [], [], [], [], [], [], [], [], [832], [], [], [823], [], [], []] = true := by decide +kernel
set_option maxRecDepth 1000000 in
set_option maxHeartbeats 0 in
theorem c_X_given : zcj zyi 20 false true [100, 0] 2 zc_X_given [[], [], [101, 780, 782, 5], [], [], [846], [], [], []] = true := by decide +kernel
set_option maxRecDepth 1000000 in
set_option maxHeartbeats 0 in
theorem c_La_isCopyRunning : zcj zyi 234 false false [109] 1 zc_La_isCopyRunning [[], [835], [], [], [], [], [], [], [849], [], [], [], [], [], [], [], [], [], [], [], [], []] = true := by decide +kernel
set_option maxRecDepth 1000000 in
set_option maxHeartbeats 0 in
theorem c_La_moveCell : zcj zyi 237 false false [109, 122] 2 zc_La_moveCell [[], [859], [], [], [], [], [], [], [857], [], [], [101, 0, 759], [], [], [], [], [], [], [858], [], [], [101, 0, 759], [], [], [], [], [], [], [], [858], [], [], [], [], [857], [], [], [], [], [], [], [857], [], [], [], [], [857], [], [], [], [], [858], [], [], [], [], [858], [], [], [], [], [859], [], [], [], [], [859], [], [], [], [859], [], [], [], [], [], [], [], [], [849], [], [], []] = true := by decide +kernel
set_option maxRecDepth 1000000 in
set_option maxHeartbeats 0 in
theorem c_Co_moveCopies : zcj zyi 181 false false [102] 3 zc_Co_moveCopies [[], [], [], [], [238], [], [], [156], [], [], [], [], [], [], [238], [], [], [], [102, 993, 785, 786], [], [], [], [], [], [], [], [], [125, 994, 995, 996], [], [], [], [], [], [], [], [239], [], [], [125, 998, 999, 1000], [], [], [], [], [], [], [], [], []] = true := by decide +kernel
set_option maxRecDepth 1000000 in
set_option maxHeartbeats 0 in
theorem c_Un_usedRegisters : zcj zyi 279 false false [103] 4 zc_Un_usedRegisters [[], [], [], [], [], [], [185], [], [], [], [], [], [], [182], [], [], [], [], [1092], [], [], [], [], [], [182], [], [], [], [], [1095], [], [], [], [], [], [], [1057], [], [], [], [], [1049], [], [], [836], [], [], [504], [], [], [], [], [], [], [], [], [], [], [], [], [], [], [], [], []] = true := by decide +kernel
set_option maxRecDepth 1000000 in
set_option maxHeartbeats 0 in
theorem c_Un_usedShared : zcj zyi 280 false false [103] 3 zc_Un_usedShared [[], [], [], [], [], [], [185], [], [], [], [], [], [], [], [182], [], [], [], [], [1095], [], [], [], [], [], [], [182], [], [], [], [], [1092], [], [], [1061], [], [], [], [], [], [], [], [], [], [], [], [], [], [], [], [], []] = true := by decide +kernel
set_option maxRecDepth 1000000 in
set_option maxHeartbeats 0 in
theorem c_Un_hasRoomFor : zcj zyi 278 false false [103, 107, 0] 3 zc_Un_hasRoomFor [[], [185], [], [], [], [101, 0, 748], [], [], [], [], [], [], [], [], [104, 391, 393, 0], [], [], [], [], [504], [], [], [], [], [], [], [], [], [], [], [104, 395, 397, 1], [], [], [], [507], [], [], [], [], [], [], [], [], [], [], [], [], [], []] = true := by decide +kernel
set_option maxRecDepth 1000000 in
set_option maxHeartbeats 0 in
theorem c_Co_unitFor : zcj zyi 183 false false [102, 109] 4 zc_Co_unitFor [[], [], [], [], [], [], [], [], [], [], [241], [], [], [], [], [], [837], [], [], [], [843], [], [], [104, 1015, 1016, 1017], [], [], [], [], [], [], [], [], [], [], [241], [], [], [], [], [186], [], [], [], [186], [], [], [], [], [], [], [241], [], [], [], [], [], [], [], [], [], [], [], [], []] = true := by decide +kernel
set_option maxRecDepth 1000000 in
set_option maxHeartbeats 0 in
theorem c_Th_goTo : zcj zyi 262 false false [106, 0, 0] 3 zc_Th_goTo [[], [], [300], [], [], [], [], [], [], [], [], [], [], [], [], [], [], [302], [], [], []] = true := by decide +kernel
set_option maxRecDepth 1000000 in
set_option maxHeartbeats 0 in
theorem c_Th_begin : zcj zyi 254 false false [106, 0, 0] 3 zc_Th_begin [[], [], [297], [], [], [], [296], [], [], [], [128, 1039, 1040], [], [], [], [], [], [302], [], [], [], [], [], [107, 1042, 1044, 14], [], [], []] = true := by decide +kernel
set_option maxRecDepth 1000000 in
set_option maxHeartbeats 0 in
theorem c_Bl_init : zcj zyi 169 true false [110, 109, 0] 4 zc_Bl_init [[], [1032, 139, 140], [], [], [], [], [], [198], [], [1064], [], [], [], [], [1048], [], [], [], [], [1052], [], [], [], [], [841], [], [], [1033], [], [], [1055], [], [], [], [], [], [], [1055], [], [], [], [], [], [], [], [1055], [], [], [], [1033, 285, 107], [], [], [], [], [], [834], [], [], [503], [], [], [107, 1034, 287], [], [], [], [], [1055], [], [], [], [], [], [], [834], [], [], [510], [], [], [107, 1035, 1036, 1037], [], [], [], [], [], [], [], [], [], [], [841], [], [], [101, 0, 748], [], [], [1047], [], [], [1058], [], [], [], [], [834], [], [], [506], [], [], [198], [], [1060], [], [], [], [], [834], [], [], [506], [], [], [198], [], [1065], [], [], [], [], [834], [], [], [506], [], [], [906], [], [1066], [], [], []] = true := by decide +kernel
set_option maxRecDepth 1000000 in
set_option maxHeartbeats 0 in
theorem c_Gr_init : zcj zyi 202 true false [111, 110, 0] 4 zc_Gr_init [[], [1088, 139, 140], [], [], [], [], [198], [], [1098], [], [], [], [], [198], [], [1099], [], [], [], [], [1090], [], [], [], [], [1094], [], [], [], [], [1089], [], [], [1097], [], [], [], [], [], [], [], [], [], [], [], [], [], [1056], [], [], [], [], [], [], [], [1097], [], [], [], [], [1056], [], [], [], [], [], [], [], [], [], [], [], [], [], []] = true := by decide +kernel
set_option maxRecDepth 1000000 in
set_option maxHeartbeats 0 in
theorem c_Bl_nextOf : zcj zyi 170 false false [109] 3 zc_Bl_nextOf [[1027, 1028, 127], [], [], [], [], [], [844], [], [], [127, 1029, 1030], [], [], [], [], [], [], [], [1058], [], [], [], [], [], [], [], [1058], [], [], [], [1047, 1084, 129], [], [], [], [], [], [], [], [129, 1085, 1086], [], [], [], [], [], [], [], [], [], [], [], [844], [], [], [], [], [844], [], [], [], []] = true := by decide +kernel
