set_option maxRecDepth 200000 in
set_option maxHeartbeats 4000000 in
theorem zl_0 : ((cd_308.drop 0).take 60).all (bd_row 308) = true := by decide +kernel
set_option maxRecDepth 200000 in
set_option maxHeartbeats 4000000 in
theorem zl_1 : ((cd_308.drop 60).take 60).all (bd_row 308) = true := by decide +kernel
set_option maxRecDepth 200000 in
set_option maxHeartbeats 4000000 in
theorem zl_2 : ((cd_308.drop 120).take 60).all (bd_row 308) = true := by decide +kernel
set_option maxRecDepth 200000 in
set_option maxHeartbeats 4000000 in
theorem zl_3 : ((cd_308.drop 180).take 60).all (bd_row 308) = true := by decide +kernel
set_option maxRecDepth 200000 in
set_option maxHeartbeats 4000000 in
theorem zl_4 : ((cd_308.drop 240).take 60).all (bd_row 308) = true := by decide +kernel
