set_option maxRecDepth 200000 in
set_option maxHeartbeats 4000000 in
theorem zr_280 : cd_280.all (bd_row 280) = true := by decide +kernel
set_option maxRecDepth 200000 in
theorem zm_280 : bd_mw 280 = true := by decide +kernel
set_option maxRecDepth 200000 in
theorem zc_280 : lw_tbl[(mpM 280).1]? = some (.code (mtM 280).1 (mtM 280).2.1 (mtM 280).2.2.1 (mtM 280).2.2.2.1) := rfl
set_option maxRecDepth 200000 in
set_option maxHeartbeats 4000000 in
theorem zr_281 : cd_281.all (bd_row 281) = true := by decide +kernel
set_option maxRecDepth 200000 in
theorem zm_281 : bd_mw 281 = true := by decide +kernel
set_option maxRecDepth 200000 in
theorem zc_281 : lw_tbl[(mpM 281).1]? = some (.code (mtM 281).1 (mtM 281).2.1 (mtM 281).2.2.1 (mtM 281).2.2.2.1) := rfl
set_option maxRecDepth 200000 in
set_option maxHeartbeats 4000000 in
theorem zr_282 : cd_282.all (bd_row 282) = true := by decide +kernel
set_option maxRecDepth 200000 in
theorem zm_282 : bd_mw 282 = true := by decide +kernel
set_option maxRecDepth 200000 in
theorem zc_282 : lw_tbl[(mpM 282).1]? = some (.code (mtM 282).1 (mtM 282).2.1 (mtM 282).2.2.1 (mtM 282).2.2.2.1) := rfl
set_option maxRecDepth 200000 in
set_option maxHeartbeats 4000000 in
theorem zr_283 : cd_283.all (bd_row 283) = true := by decide +kernel
set_option maxRecDepth 200000 in
theorem zm_283 : bd_mw 283 = true := by decide +kernel
set_option maxRecDepth 200000 in
theorem zc_283 : lw_tbl[(mpM 283).1]? = some (.code (mtM 283).1 (mtM 283).2.1 (mtM 283).2.2.1 (mtM 283).2.2.2.1) := rfl
set_option maxRecDepth 200000 in
set_option maxHeartbeats 4000000 in
theorem zr_284 : cd_284.all (bd_row 284) = true := by decide +kernel
set_option maxRecDepth 200000 in
theorem zm_284 : bd_mw 284 = true := by decide +kernel
set_option maxRecDepth 200000 in
theorem zc_284 : lw_tbl[(mpM 284).1]? = some (.code (mtM 284).1 (mtM 284).2.1 (mtM 284).2.2.1 (mtM 284).2.2.2.1) := rfl
set_option maxRecDepth 200000 in
set_option maxHeartbeats 4000000 in
theorem zr_285 : cd_285.all (bd_row 285) = true := by decide +kernel
set_option maxRecDepth 200000 in
theorem zm_285 : bd_mw 285 = true := by decide +kernel
set_option maxRecDepth 200000 in
theorem zc_285 : lw_tbl[(mpM 285).1]? = some (.code (mtM 285).1 (mtM 285).2.1 (mtM 285).2.2.1 (mtM 285).2.2.2.1) := rfl
set_option maxRecDepth 200000 in
set_option maxHeartbeats 4000000 in
theorem zr_286 : cd_286.all (bd_row 286) = true := by decide +kernel
set_option maxRecDepth 200000 in
theorem zm_286 : bd_mw 286 = true := by decide +kernel
set_option maxRecDepth 200000 in
theorem zc_286 : lw_tbl[(mpM 286).1]? = some (.code (mtM 286).1 (mtM 286).2.1 (mtM 286).2.2.1 (mtM 286).2.2.2.1) := rfl
set_option maxRecDepth 200000 in
set_option maxHeartbeats 4000000 in
theorem zr_287 : cd_287.all (bd_row 287) = true := by decide +kernel
set_option maxRecDepth 200000 in
theorem zm_287 : bd_mw 287 = true := by decide +kernel
set_option maxRecDepth 200000 in
theorem zc_287 : lw_tbl[(mpM 287).1]? = some (.code (mtM 287).1 (mtM 287).2.1 (mtM 287).2.2.1 (mtM 287).2.2.2.1) := rfl
set_option maxRecDepth 200000 in
set_option maxHeartbeats 4000000 in
theorem zr_288 : cd_288.all (bd_row 288) = true := by decide +kernel
set_option maxRecDepth 200000 in
theorem zm_288 : bd_mw 288 = true := by decide +kernel
set_option maxRecDepth 200000 in
theorem zc_288 : lw_tbl[(mpM 288).1]? = some (.code (mtM 288).1 (mtM 288).2.1 (mtM 288).2.2.1 (mtM 288).2.2.2.1) := rfl
set_option maxRecDepth 200000 in
set_option maxHeartbeats 4000000 in
theorem zr_289 : cd_289.all (bd_row 289) = true := by decide +kernel
set_option maxRecDepth 200000 in
theorem zm_289 : bd_mw 289 = true := by decide +kernel
set_option maxRecDepth 200000 in
theorem zc_289 : lw_tbl[(mpM 289).1]? = some (.code (mtM 289).1 (mtM 289).2.1 (mtM 289).2.2.1 (mtM 289).2.2.2.1) := rfl
set_option maxRecDepth 200000 in
set_option maxHeartbeats 4000000 in
theorem zr_290 : cd_290.all (bd_row 290) = true := by decide +kernel
set_option maxRecDepth 200000 in
theorem zm_290 : bd_mw 290 = true := by decide +kernel
set_option maxRecDepth 200000 in
theorem zc_290 : lw_tbl[(mpM 290).1]? = some (.code (mtM 290).1 (mtM 290).2.1 (mtM 290).2.2.1 (mtM 290).2.2.2.1) := rfl
set_option maxRecDepth 200000 in
set_option maxHeartbeats 4000000 in
theorem zr_291 : cd_291.all (bd_row 291) = true := by decide +kernel
set_option maxRecDepth 200000 in
theorem zm_291 : bd_mw 291 = true := by decide +kernel
set_option maxRecDepth 200000 in
theorem zc_291 : lw_tbl[(mpM 291).1]? = some (.code (mtM 291).1 (mtM 291).2.1 (mtM 291).2.2.1 (mtM 291).2.2.2.1) := rfl
set_option maxRecDepth 200000 in
set_option maxHeartbeats 4000000 in
theorem zr_292 : cd_292.all (bd_row 292) = true := by decide +kernel
set_option maxRecDepth 200000 in
theorem zm_292 : bd_mw 292 = true := by decide +kernel
set_option maxRecDepth 200000 in
theorem zc_292 : lw_tbl[(mpM 292).1]? = some (.code (mtM 292).1 (mtM 292).2.1 (mtM 292).2.2.1 (mtM 292).2.2.2.1) := rfl
set_option maxRecDepth 200000 in
set_option maxHeartbeats 4000000 in
theorem zr_293 : cd_293.all (bd_row 293) = true := by decide +kernel
set_option maxRecDepth 200000 in
theorem zm_293 : bd_mw 293 = true := by decide +kernel
set_option maxRecDepth 200000 in
theorem zc_293 : lw_tbl[(mpM 293).1]? = some (.code (mtM 293).1 (mtM 293).2.1 (mtM 293).2.2.1 (mtM 293).2.2.2.1) := rfl
set_option maxRecDepth 200000 in
set_option maxHeartbeats 4000000 in
theorem zr_294 : cd_294.all (bd_row 294) = true := by decide +kernel
set_option maxRecDepth 200000 in
theorem zm_294 : bd_mw 294 = true := by decide +kernel
set_option maxRecDepth 200000 in
theorem zc_294 : lw_tbl[(mpM 294).1]? = some (.code (mtM 294).1 (mtM 294).2.1 (mtM 294).2.2.1 (mtM 294).2.2.2.1) := rfl
set_option maxRecDepth 200000 in
set_option maxHeartbeats 4000000 in
theorem zr_295 : cd_295.all (bd_row 295) = true := by decide +kernel
set_option maxRecDepth 200000 in
theorem zm_295 : bd_mw 295 = true := by decide +kernel
set_option maxRecDepth 200000 in
theorem zc_295 : lw_tbl[(mpM 295).1]? = some (.code (mtM 295).1 (mtM 295).2.1 (mtM 295).2.2.1 (mtM 295).2.2.2.1) := rfl
set_option maxRecDepth 200000 in
set_option maxHeartbeats 4000000 in
theorem zr_296 : cd_296.all (bd_row 296) = true := by decide +kernel
set_option maxRecDepth 200000 in
theorem zm_296 : bd_mw 296 = true := by decide +kernel
set_option maxRecDepth 200000 in
theorem zc_296 : lw_tbl[(mpM 296).1]? = some (.code (mtM 296).1 (mtM 296).2.1 (mtM 296).2.2.1 (mtM 296).2.2.2.1) := rfl
set_option maxRecDepth 200000 in
set_option maxHeartbeats 4000000 in
theorem zr_297 : cd_297.all (bd_row 297) = true := by decide +kernel
set_option maxRecDepth 200000 in
theorem zm_297 : bd_mw 297 = true := by decide +kernel
set_option maxRecDepth 200000 in
theorem zc_297 : lw_tbl[(mpM 297).1]? = some (.code (mtM 297).1 (mtM 297).2.1 (mtM 297).2.2.1 (mtM 297).2.2.2.1) := rfl
set_option maxRecDepth 200000 in
set_option maxHeartbeats 4000000 in
theorem zr_298 : cd_298.all (bd_row 298) = true := by decide +kernel
set_option maxRecDepth 200000 in
theorem zm_298 : bd_mw 298 = true := by decide +kernel
set_option maxRecDepth 200000 in
theorem zc_298 : lw_tbl[(mpM 298).1]? = some (.code (mtM 298).1 (mtM 298).2.1 (mtM 298).2.2.1 (mtM 298).2.2.2.1) := rfl
set_option maxRecDepth 200000 in
set_option maxHeartbeats 4000000 in
theorem zr_299 : cd_299.all (bd_row 299) = true := by decide +kernel
set_option maxRecDepth 200000 in
theorem zm_299 : bd_mw 299 = true := by decide +kernel
set_option maxRecDepth 200000 in
theorem zc_299 : lw_tbl[(mpM 299).1]? = some (.code (mtM 299).1 (mtM 299).2.1 (mtM 299).2.2.1 (mtM 299).2.2.2.1) := rfl
set_option maxRecDepth 200000 in
set_option maxHeartbeats 4000000 in
theorem zr_300 : cd_300.all (bd_row 300) = true := by decide +kernel
set_option maxRecDepth 200000 in
theorem zm_300 : bd_mw 300 = true := by decide +kernel
set_option maxRecDepth 200000 in
theorem zc_300 : lw_tbl[(mpM 300).1]? = some (.code (mtM 300).1 (mtM 300).2.1 (mtM 300).2.2.1 (mtM 300).2.2.2.1) := rfl
set_option maxRecDepth 200000 in
set_option maxHeartbeats 4000000 in
theorem zr_301 : cd_301.all (bd_row 301) = true := by decide +kernel
set_option maxRecDepth 200000 in
theorem zm_301 : bd_mw 301 = true := by decide +kernel
set_option maxRecDepth 200000 in
theorem zc_301 : lw_tbl[(mpM 301).1]? = some (.code (mtM 301).1 (mtM 301).2.1 (mtM 301).2.2.1 (mtM 301).2.2.2.1) := rfl
set_option maxRecDepth 200000 in
set_option maxHeartbeats 4000000 in
theorem zr_302 : cd_302.all (bd_row 302) = true := by decide +kernel
set_option maxRecDepth 200000 in
theorem zm_302 : bd_mw 302 = true := by decide +kernel
set_option maxRecDepth 200000 in
theorem zc_302 : lw_tbl[(mpM 302).1]? = some (.code (mtM 302).1 (mtM 302).2.1 (mtM 302).2.2.1 (mtM 302).2.2.2.1) := rfl
set_option maxRecDepth 200000 in
set_option maxHeartbeats 4000000 in
theorem zr_303 : cd_303.all (bd_row 303) = true := by decide +kernel
set_option maxRecDepth 200000 in
theorem zm_303 : bd_mw 303 = true := by decide +kernel
set_option maxRecDepth 200000 in
theorem zc_303 : lw_tbl[(mpM 303).1]? = some (.code (mtM 303).1 (mtM 303).2.1 (mtM 303).2.2.1 (mtM 303).2.2.2.1) := rfl
set_option maxRecDepth 200000 in
set_option maxHeartbeats 4000000 in
theorem zr_304 : cd_304.all (bd_row 304) = true := by decide +kernel
set_option maxRecDepth 200000 in
set_option maxHeartbeats 4000000 in
theorem zr_305 : cd_305.all (bd_row 305) = true := by decide +kernel
set_option maxRecDepth 200000 in
set_option maxHeartbeats 4000000 in
theorem zr_306 : cd_306.all (bd_row 306) = true := by decide +kernel
set_option maxRecDepth 200000 in
theorem zm_306 : bd_mw 306 = true := by decide +kernel
set_option maxRecDepth 200000 in
theorem zc_306 : lw_tbl[(mpM 306).1]? = some (.code (mtM 306).1 (mtM 306).2.1 (mtM 306).2.2.1 (mtM 306).2.2.2.1) := rfl
set_option maxRecDepth 200000 in
set_option maxHeartbeats 4000000 in
theorem zr_307 : cd_307.all (bd_row 307) = true := by decide +kernel
