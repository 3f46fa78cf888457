/-! THE LAW, places -/
set_option maxRecDepth 1000000 in
set_option maxHeartbeats 0 in
theorem zlr_39 : zlr 1950 = true := by decide +kernel
set_option maxRecDepth 1000000 in
set_option maxHeartbeats 0 in
theorem zlr_40 : zlr 2000 = true := by decide +kernel
set_option maxRecDepth 1000000 in
set_option maxHeartbeats 0 in
theorem zlr_41 : zlr 2050 = true := by decide +kernel
set_option maxRecDepth 1000000 in
set_option maxHeartbeats 0 in
theorem zlr_42 : zlr 2100 = true := by decide +kernel
set_option maxRecDepth 1000000 in
set_option maxHeartbeats 0 in
theorem zlr_43 : zlr 2150 = true := by decide +kernel
set_option maxRecDepth 1000000 in
set_option maxHeartbeats 0 in
theorem zlr_44 : zlr 2200 = true := by decide +kernel
set_option maxRecDepth 1000000 in
set_option maxHeartbeats 0 in
theorem zlr_45 : zlr 2250 = true := by decide +kernel
set_option maxRecDepth 1000000 in
set_option maxHeartbeats 0 in
theorem zlr_46 : zlr 2300 = true := by decide +kernel
set_option maxRecDepth 1000000 in
set_option maxHeartbeats 0 in
theorem zlr_47 : zlr 2350 = true := by decide +kernel
