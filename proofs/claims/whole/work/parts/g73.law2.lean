/-! THE LAW, places -/
set_option maxRecDepth 1000000 in
set_option maxHeartbeats 0 in
theorem zlr_20 : zlr 1000 = true := by decide +kernel
set_option maxRecDepth 1000000 in
set_option maxHeartbeats 0 in
theorem zlr_21 : zlr 1050 = true := by decide +kernel
set_option maxRecDepth 1000000 in
set_option maxHeartbeats 0 in
theorem zlr_22 : zlr 1100 = true := by decide +kernel
set_option maxRecDepth 1000000 in
set_option maxHeartbeats 0 in
theorem zlr_23 : zlr 1150 = true := by decide +kernel
set_option maxRecDepth 1000000 in
set_option maxHeartbeats 0 in
theorem zlr_24 : zlr 1200 = true := by decide +kernel
set_option maxRecDepth 1000000 in
set_option maxHeartbeats 0 in
theorem zlr_25 : zlr 1250 = true := by decide +kernel
set_option maxRecDepth 1000000 in
set_option maxHeartbeats 0 in
theorem zlr_26 : zlr 1300 = true := by decide +kernel
set_option maxRecDepth 1000000 in
set_option maxHeartbeats 0 in
theorem zlr_27 : zlr 1350 = true := by decide +kernel
set_option maxRecDepth 1000000 in
set_option maxHeartbeats 0 in
theorem zlr_28 : zlr 1400 = true := by decide +kernel
