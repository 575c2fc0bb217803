set_option maxRecDepth 200000 in
set_option maxHeartbeats 4000000 in
theorem zl_10 : ((cd_308.drop 600).take 60).all (bd_row 308) = true := by decide +kernel
set_option maxRecDepth 200000 in
set_option maxHeartbeats 4000000 in
theorem zl_11 : ((cd_308.drop 660).take 60).all (bd_row 308) = true := by decide +kernel
set_option maxRecDepth 200000 in
set_option maxHeartbeats 4000000 in
theorem zl_12 : ((cd_308.drop 720).take 60).all (bd_row 308) = true := by decide +kernel
