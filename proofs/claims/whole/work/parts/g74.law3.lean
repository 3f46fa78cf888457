/-! THE LAW, places -/
set_option maxRecDepth 1000000 in
set_option maxHeartbeats 0 in
theorem zlr_29 : zlr 1450 = true := by decide +kernel
set_option maxRecDepth 1000000 in
set_option maxHeartbeats 0 in
theorem zlr_30 : zlr 1500 = true := by decide +kernel
set_option maxRecDepth 1000000 in
set_option maxHeartbeats 0 in
theorem zlr_31 : zlr 1550 = true := by decide +kernel
set_option maxRecDepth 1000000 in
set_option maxHeartbeats 0 in
theorem zlr_32 : zlr 1600 = true := by decide +kernel
set_option maxRecDepth 1000000 in
set_option maxHeartbeats 0 in
theorem zlr_33 : zlr 1650 = true := by decide +kernel
set_option maxRecDepth 1000000 in
set_option maxHeartbeats 0 in
theorem zlr_34 : zlr 1700 = true := by decide +kernel
set_option maxRecDepth 1000000 in
set_option maxHeartbeats 0 in
theorem zlr_35 : zlr 1750 = true := by decide +kernel
set_option maxRecDepth 1000000 in
set_option maxHeartbeats 0 in
theorem zlr_36 : zlr 1800 = true := by decide +kernel
set_option maxRecDepth 1000000 in
set_option maxHeartbeats 0 in
theorem zlr_37 : zlr 1850 = true := by decide +kernel
set_option maxRecDepth 1000000 in
set_option maxHeartbeats 0 in
theorem zlr_38 : zlr 1900 = true := by decide +kernel
