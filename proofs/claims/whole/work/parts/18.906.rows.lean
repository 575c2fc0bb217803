set_option maxRecDepth 200000 in
set_option maxHeartbeats 4000000 in
theorem zl_5 : ((cd_308.drop 300).take 60).all (bd_row 308) = true := by decide +kernel
set_option maxRecDepth 200000 in
set_option maxHeartbeats 4000000 in
theorem zl_6 : ((cd_308.drop 360).take 60).all (bd_row 308) = true := by decide +kernel
set_option maxRecDepth 200000 in
set_option maxHeartbeats 4000000 in
theorem zl_7 : ((cd_308.drop 420).take 60).all (bd_row 308) = true := by decide +kernel
set_option maxRecDepth 200000 in
set_option maxHeartbeats 4000000 in
theorem zl_8 : ((cd_308.drop 480).take 60).all (bd_row 308) = true := by decide +kernel
set_option maxRecDepth 200000 in
set_option maxHeartbeats 4000000 in
theorem zl_9 : ((cd_308.drop 540).take 60).all (bd_row 308) = true := by decide +kernel
