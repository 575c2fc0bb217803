set_option maxRecDepth 200000 in
set_option maxHeartbeats 4000000 in
theorem zr_214 : cd_214.all (bd_row 214) = true := by decide +kernel
set_option maxRecDepth 200000 in
theorem zm_214 : bd_mw 214 = true := by decide +kernel
set_option maxRecDepth 200000 in
theorem zc_214 : lw_tbl[(mpM 214).1]? = some (.code (mtM 214).1 (mtM 214).2.1 (mtM 214).2.2.1 (mtM 214).2.2.2.1) := rfl
set_option maxRecDepth 200000 in
set_option maxHeartbeats 4000000 in
theorem zr_215 : cd_215.all (bd_row 215) = true := by decide +kernel
set_option maxRecDepth 200000 in
theorem zm_215 : bd_mw 215 = true := by decide +kernel
set_option maxRecDepth 200000 in
theorem zc_215 : lw_tbl[(mpM 215).1]? = some (.code (mtM 215).1 (mtM 215).2.1 (mtM 215).2.2.1 (mtM 215).2.2.2.1) := rfl
set_option maxRecDepth 200000 in
set_option maxHeartbeats 4000000 in
theorem zr_216 : cd_216.all (bd_row 216) = true := by decide +kernel
set_option maxRecDepth 200000 in
theorem zm_216 : bd_mw 216 = true := by decide +kernel
set_option maxRecDepth 200000 in
theorem zc_216 : lw_tbl[(mpM 216).1]? = some (.code (mtM 216).1 (mtM 216).2.1 (mtM 216).2.2.1 (mtM 216).2.2.2.1) := rfl
set_option maxRecDepth 200000 in
set_option maxHeartbeats 4000000 in
theorem zr_217 : cd_217.all (bd_row 217) = true := by decide +kernel
set_option maxRecDepth 200000 in
theorem zm_217 : bd_mw 217 = true := by decide +kernel
set_option maxRecDepth 200000 in
theorem zc_217 : lw_tbl[(mpM 217).1]? = some (.code (mtM 217).1 (mtM 217).2.1 (mtM 217).2.2.1 (mtM 217).2.2.2.1) := rfl
set_option maxRecDepth 200000 in
set_option maxHeartbeats 4000000 in
theorem zr_218 : cd_218.all (bd_row 218) = true := by decide +kernel
set_option maxRecDepth 200000 in
theorem zm_218 : bd_mw 218 = true := by decide +kernel
set_option maxRecDepth 200000 in
theorem zc_218 : lw_tbl[(mpM 218).1]? = some (.code (mtM 218).1 (mtM 218).2.1 (mtM 218).2.2.1 (mtM 218).2.2.2.1) := rfl
set_option maxRecDepth 200000 in
set_option maxHeartbeats 4000000 in
theorem zr_219 : cd_219.all (bd_row 219) = true := by decide +kernel
set_option maxRecDepth 200000 in
theorem zm_219 : bd_mw 219 = true := by decide +kernel
set_option maxRecDepth 200000 in
theorem zc_219 : lw_tbl[(mpM 219).1]? = some (.code (mtM 219).1 (mtM 219).2.1 (mtM 219).2.2.1 (mtM 219).2.2.2.1) := rfl
set_option maxRecDepth 200000 in
set_option maxHeartbeats 4000000 in
theorem zr_220 : cd_220.all (bd_row 220) = true := by decide +kernel
set_option maxRecDepth 200000 in
theorem zm_220 : bd_mw 220 = true := by decide +kernel
set_option maxRecDepth 200000 in
theorem zc_220 : lw_tbl[(mpM 220).1]? = some (.code (mtM 220).1 (mtM 220).2.1 (mtM 220).2.2.1 (mtM 220).2.2.2.1) := rfl
set_option maxRecDepth 200000 in
set_option maxHeartbeats 4000000 in
theorem zr_221 : cd_221.all (bd_row 221) = true := by decide +kernel
set_option maxRecDepth 200000 in
theorem zm_221 : bd_mw 221 = true := by decide +kernel
set_option maxRecDepth 200000 in
theorem zc_221 : lw_tbl[(mpM 221).1]? = some (.code (mtM 221).1 (mtM 221).2.1 (mtM 221).2.2.1 (mtM 221).2.2.2.1) := rfl
set_option maxRecDepth 200000 in
set_option maxHeartbeats 4000000 in
theorem zr_222 : cd_222.all (bd_row 222) = true := by decide +kernel
set_option maxRecDepth 200000 in
theorem zm_222 : bd_mw 222 = true := by decide +kernel
set_option maxRecDepth 200000 in
theorem zc_222 : lw_tbl[(mpM 222).1]? = some (.code (mtM 222).1 (mtM 222).2.1 (mtM 222).2.2.1 (mtM 222).2.2.2.1) := rfl
set_option maxRecDepth 200000 in
set_option maxHeartbeats 4000000 in
theorem zr_223 : cd_223.all (bd_row 223) = true := by decide +kernel
set_option maxRecDepth 200000 in
theorem zm_223 : bd_mw 223 = true := by decide +kernel
set_option maxRecDepth 200000 in
theorem zc_223 : lw_tbl[(mpM 223).1]? = some (.code (mtM 223).1 (mtM 223).2.1 (mtM 223).2.2.1 (mtM 223).2.2.2.1) := rfl
set_option maxRecDepth 200000 in
set_option maxHeartbeats 4000000 in
theorem zr_224 : cd_224.all (bd_row 224) = true := by decide +kernel
set_option maxRecDepth 200000 in
theorem zm_224 : bd_mw 224 = true := by decide +kernel
set_option maxRecDepth 200000 in
theorem zc_224 : lw_tbl[(mpM 224).1]? = some (.code (mtM 224).1 (mtM 224).2.1 (mtM 224).2.2.1 (mtM 224).2.2.2.1) := rfl
set_option maxRecDepth 200000 in
set_option maxHeartbeats 4000000 in
theorem zr_225 : cd_225.all (bd_row 225) = true := by decide +kernel
set_option maxRecDepth 200000 in
theorem zm_225 : bd_mw 225 = true := by decide +kernel
set_option maxRecDepth 200000 in
theorem zc_225 : lw_tbl[(mpM 225).1]? = some (.code (mtM 225).1 (mtM 225).2.1 (mtM 225).2.2.1 (mtM 225).2.2.2.1) := rfl
set_option maxRecDepth 200000 in
set_option maxHeartbeats 4000000 in
theorem zr_226 : cd_226.all (bd_row 226) = true := by decide +kernel
set_option maxRecDepth 200000 in
theorem zm_226 : bd_mw 226 = true := by decide +kernel
set_option maxRecDepth 200000 in
theorem zc_226 : lw_tbl[(mpM 226).1]? = some (.code (mtM 226).1 (mtM 226).2.1 (mtM 226).2.2.1 (mtM 226).2.2.2.1) := rfl
set_option maxRecDepth 200000 in
set_option maxHeartbeats 4000000 in
theorem zr_227 : cd_227.all (bd_row 227) = true := by decide +kernel
set_option maxRecDepth 200000 in
theorem zm_227 : bd_mw 227 = true := by decide +kernel
set_option maxRecDepth 200000 in
theorem zc_227 : lw_tbl[(mpM 227).1]? = some (.code (mtM 227).1 (mtM 227).2.1 (mtM 227).2.2.1 (mtM 227).2.2.2.1) := rfl
set_option maxRecDepth 200000 in
set_option maxHeartbeats 4000000 in
theorem zr_228 : cd_228.all (bd_row 228) = true := by decide +kernel
set_option maxRecDepth 200000 in
theorem zm_228 : bd_mw 228 = true := by decide +kernel
set_option maxRecDepth 200000 in
theorem zc_228 : lw_tbl[(mpM 228).1]? = some (.code (mtM 228).1 (mtM 228).2.1 (mtM 228).2.2.1 (mtM 228).2.2.2.1) := rfl
set_option maxRecDepth 200000 in
set_option maxHeartbeats 4000000 in
theorem zr_229 : cd_229.all (bd_row 229) = true := by decide +kernel
set_option maxRecDepth 200000 in
theorem zm_229 : bd_mw 229 = true := by decide +kernel
set_option maxRecDepth 200000 in
theorem zc_229 : lw_tbl[(mpM 229).1]? = some (.code (mtM 229).1 (mtM 229).2.1 (mtM 229).2.2.1 (mtM 229).2.2.2.1) := rfl
set_option maxRecDepth 200000 in
set_option maxHeartbeats 4000000 in
theorem zr_230 : cd_230.all (bd_row 230) = true := by decide +kernel
set_option maxRecDepth 200000 in
theorem zm_230 : bd_mw 230 = true := by decide +kernel
set_option maxRecDepth 200000 in
theorem zc_230 : lw_tbl[(mpM 230).1]? = some (.code (mtM 230).1 (mtM 230).2.1 (mtM 230).2.2.1 (mtM 230).2.2.2.1) := rfl
set_option maxRecDepth 200000 in
set_option maxHeartbeats 4000000 in
theorem zr_231 : cd_231.all (bd_row 231) = true := by decide +kernel
set_option maxRecDepth 200000 in
theorem zm_231 : bd_mw 231 = true := by decide +kernel
set_option maxRecDepth 200000 in
theorem zc_231 : lw_tbl[(mpM 231).1]? = some (.code (mtM 231).1 (mtM 231).2.1 (mtM 231).2.2.1 (mtM 231).2.2.2.1) := rfl
set_option maxRecDepth 200000 in
set_option maxHeartbeats 4000000 in
theorem zr_232 : cd_232.all (bd_row 232) = true := by decide +kernel
set_option maxRecDepth 200000 in
theorem zm_232 : bd_mw 232 = true := by decide +kernel
set_option maxRecDepth 200000 in
theorem zc_232 : lw_tbl[(mpM 232).1]? = some (.code (mtM 232).1 (mtM 232).2.1 (mtM 232).2.2.1 (mtM 232).2.2.2.1) := rfl
set_option maxRecDepth 200000 in
set_option maxHeartbeats 4000000 in
theorem zr_233 : cd_233.all (bd_row 233) = true := by decide +kernel
set_option maxRecDepth 200000 in
theorem zm_233 : bd_mw 233 = true := by decide +kernel
set_option maxRecDepth 200000 in
theorem zc_233 : lw_tbl[(mpM 233).1]? = some (.code (mtM 233).1 (mtM 233).2.1 (mtM 233).2.2.1 (mtM 233).2.2.2.1) := rfl
set_option maxRecDepth 200000 in
set_option maxHeartbeats 4000000 in
theorem zr_234 : cd_234.all (bd_row 234) = true := by decide +kernel
set_option maxRecDepth 200000 in
theorem zm_234 : bd_mw 234 = true := by decide +kernel
set_option maxRecDepth 200000 in
theorem zc_234 : lw_tbl[(mpM 234).1]? = some (.code (mtM 234).1 (mtM 234).2.1 (mtM 234).2.2.1 (mtM 234).2.2.2.1) := rfl
set_option maxRecDepth 200000 in
set_option maxHeartbeats 4000000 in
theorem zr_235 : cd_235.all (bd_row 235) = true := by decide +kernel
set_option maxRecDepth 200000 in
theorem zm_235 : bd_mw 235 = true := by decide +kernel
set_option maxRecDepth 200000 in
theorem zc_235 : lw_tbl[(mpM 235).1]? = some (.code (mtM 235).1 (mtM 235).2.1 (mtM 235).2.2.1 (mtM 235).2.2.2.1) := rfl
set_option maxRecDepth 200000 in
set_option maxHeartbeats 4000000 in
theorem zr_236 : cd_236.all (bd_row 236) = true := by decide +kernel
set_option maxRecDepth 200000 in
theorem zm_236 : bd_mw 236 = true := by decide +kernel
set_option maxRecDepth 200000 in
theorem zc_236 : lw_tbl[(mpM 236).1]? = some (.code (mtM 236).1 (mtM 236).2.1 (mtM 236).2.2.1 (mtM 236).2.2.2.1) := rfl
set_option maxRecDepth 200000 in
set_option maxHeartbeats 4000000 in
theorem zr_237 : cd_237.all (bd_row 237) = true := by decide +kernel
set_option maxRecDepth 200000 in
theorem zm_237 : bd_mw 237 = true := by decide +kernel
set_option maxRecDepth 200000 in
theorem zc_237 : lw_tbl[(mpM 237).1]? = some (.code (mtM 237).1 (mtM 237).2.1 (mtM 237).2.2.1 (mtM 237).2.2.2.1) := rfl
set_option maxRecDepth 200000 in
set_option maxHeartbeats 4000000 in
theorem zr_238 : cd_238.all (bd_row 238) = true := by decide +kernel
set_option maxRecDepth 200000 in
theorem zm_238 : bd_mw 238 = true := by decide +kernel
set_option maxRecDepth 200000 in
theorem zc_238 : lw_tbl[(mpM 238).1]? = some (.code (mtM 238).1 (mtM 238).2.1 (mtM 238).2.2.1 (mtM 238).2.2.2.1) := rfl
set_option maxRecDepth 200000 in
set_option maxHeartbeats 4000000 in
theorem zr_239 : cd_239.all (bd_row 239) = true := by decide +kernel
set_option maxRecDepth 200000 in
theorem zm_239 : bd_mw 239 = true := by decide +kernel
set_option maxRecDepth 200000 in
theorem zc_239 : lw_tbl[(mpM 239).1]? = some (.code (mtM 239).1 (mtM 239).2.1 (mtM 239).2.2.1 (mtM 239).2.2.2.1) := rfl
set_option maxRecDepth 200000 in
set_option maxHeartbeats 4000000 in
theorem zr_240 : cd_240.all (bd_row 240) = true := by decide +kernel
set_option maxRecDepth 200000 in
theorem zm_240 : bd_mw 240 = true := by decide +kernel
set_option maxRecDepth 200000 in
theorem zc_240 : lw_tbl[(mpM 240).1]? = some (.code (mtM 240).1 (mtM 240).2.1 (mtM 240).2.2.1 (mtM 240).2.2.2.1) := rfl
set_option maxRecDepth 200000 in
set_option maxHeartbeats 4000000 in
theorem zr_241 : cd_241.all (bd_row 241) = true := by decide +kernel
set_option maxRecDepth 200000 in
theorem zm_241 : bd_mw 241 = true := by decide +kernel
set_option maxRecDepth 200000 in
theorem zc_241 : lw_tbl[(mpM 241).1]? = some (.code (mtM 241).1 (mtM 241).2.1 (mtM 241).2.2.1 (mtM 241).2.2.2.1) := rfl
set_option maxRecDepth 200000 in
set_option maxHeartbeats 4000000 in
theorem zr_242 : cd_242.all (bd_row 242) = true := by decide +kernel
set_option maxRecDepth 200000 in
theorem zm_242 : bd_mw 242 = true := by decide +kernel
set_option maxRecDepth 200000 in
theorem zc_242 : lw_tbl[(mpM 242).1]? = some (.code (mtM 242).1 (mtM 242).2.1 (mtM 242).2.2.1 (mtM 242).2.2.2.1) := rfl
set_option maxRecDepth 200000 in
set_option maxHeartbeats 4000000 in
theorem zr_243 : cd_243.all (bd_row 243) = true := by decide +kernel
set_option maxRecDepth 200000 in
theorem zm_243 : bd_mw 243 = true := by decide +kernel
set_option maxRecDepth 200000 in
theorem zc_243 : lw_tbl[(mpM 243).1]? = some (.code (mtM 243).1 (mtM 243).2.1 (mtM 243).2.2.1 (mtM 243).2.2.2.1) := rfl
set_option maxRecDepth 200000 in
set_option maxHeartbeats 4000000 in
theorem zr_244 : cd_244.all (bd_row 244) = true := by decide +kernel
set_option maxRecDepth 200000 in
theorem zm_244 : bd_mw 244 = true := by decide +kernel
set_option maxRecDepth 200000 in
theorem zc_244 : lw_tbl[(mpM 244).1]? = some (.code (mtM 244).1 (mtM 244).2.1 (mtM 244).2.2.1 (mtM 244).2.2.2.1) := rfl
set_option maxRecDepth 200000 in
set_option maxHeartbeats 4000000 in
theorem zr_245 : cd_245.all (bd_row 245) = true := by decide +kernel
set_option maxRecDepth 200000 in
theorem zm_245 : bd_mw 245 = true := by decide +kernel
set_option maxRecDepth 200000 in
theorem zc_245 : lw_tbl[(mpM 245).1]? = some (.code (mtM 245).1 (mtM 245).2.1 (mtM 245).2.2.1 (mtM 245).2.2.2.1) := rfl
set_option maxRecDepth 200000 in
set_option maxHeartbeats 4000000 in
theorem zr_246 : cd_246.all (bd_row 246) = true := by decide +kernel
set_option maxRecDepth 200000 in
theorem zm_246 : bd_mw 246 = true := by decide +kernel
set_option maxRecDepth 200000 in
theorem zc_246 : lw_tbl[(mpM 246).1]? = some (.code (mtM 246).1 (mtM 246).2.1 (mtM 246).2.2.1 (mtM 246).2.2.2.1) := rfl
set_option maxRecDepth 200000 in
set_option maxHeartbeats 4000000 in
theorem zr_247 : cd_247.all (bd_row 247) = true := by decide +kernel
set_option maxRecDepth 200000 in
theorem zm_247 : bd_mw 247 = true := by decide +kernel
set_option maxRecDepth 200000 in
theorem zc_247 : lw_tbl[(mpM 247).1]? = some (.code (mtM 247).1 (mtM 247).2.1 (mtM 247).2.2.1 (mtM 247).2.2.2.1) := rfl
set_option maxRecDepth 200000 in
set_option maxHeartbeats 4000000 in
theorem zr_248 : cd_248.all (bd_row 248) = true := by decide +kernel
set_option maxRecDepth 200000 in
theorem zm_248 : bd_mw 248 = true := by decide +kernel
set_option maxRecDepth 200000 in
theorem zc_248 : lw_tbl[(mpM 248).1]? = some (.code (mtM 248).1 (mtM 248).2.1 (mtM 248).2.2.1 (mtM 248).2.2.2.1) := rfl
set_option maxRecDepth 200000 in
set_option maxHeartbeats 4000000 in
theorem zr_249 : cd_249.all (bd_row 249) = true := by decide +kernel
set_option maxRecDepth 200000 in
theorem zm_249 : bd_mw 249 = true := by decide +kernel
set_option maxRecDepth 200000 in
theorem zc_249 : lw_tbl[(mpM 249).1]? = some (.code (mtM 249).1 (mtM 249).2.1 (mtM 249).2.2.1 (mtM 249).2.2.2.1) := rfl
set_option maxRecDepth 200000 in
set_option maxHeartbeats 4000000 in
theorem zr_250 : cd_250.all (bd_row 250) = true := by decide +kernel
set_option maxRecDepth 200000 in
theorem zm_250 : bd_mw 250 = true := by decide +kernel
set_option maxRecDepth 200000 in
theorem zc_250 : lw_tbl[(mpM 250).1]? = some (.code (mtM 250).1 (mtM 250).2.1 (mtM 250).2.2.1 (mtM 250).2.2.2.1) := rfl
set_option maxRecDepth 200000 in
set_option maxHeartbeats 4000000 in
theorem zr_251 : cd_251.all (bd_row 251) = true := by decide +kernel
set_option maxRecDepth 200000 in
theorem zm_251 : bd_mw 251 = true := by decide +kernel
set_option maxRecDepth 200000 in
theorem zc_251 : lw_tbl[(mpM 251).1]? = some (.code (mtM 251).1 (mtM 251).2.1 (mtM 251).2.2.1 (mtM 251).2.2.2.1) := rfl
set_option maxRecDepth 200000 in
set_option maxHeartbeats 4000000 in
theorem zr_252 : cd_252.all (bd_row 252) = true := by decide +kernel
set_option maxRecDepth 200000 in
theorem zm_252 : bd_mw 252 = true := by decide +kernel
set_option maxRecDepth 200000 in
theorem zc_252 : lw_tbl[(mpM 252).1]? = some (.code (mtM 252).1 (mtM 252).2.1 (mtM 252).2.2.1 (mtM 252).2.2.2.1) := rfl
set_option maxRecDepth 200000 in
set_option maxHeartbeats 4000000 in
theorem zr_253 : cd_253.all (bd_row 253) = true := by decide +kernel
set_option maxRecDepth 200000 in
theorem zm_253 : bd_mw 253 = true := by decide +kernel
set_option maxRecDepth 200000 in
theorem zc_253 : lw_tbl[(mpM 253).1]? = some (.code (mtM 253).1 (mtM 253).2.1 (mtM 253).2.2.1 (mtM 253).2.2.2.1) := rfl
set_option maxRecDepth 200000 in
set_option maxHeartbeats 4000000 in
theorem zr_254 : cd_254.all (bd_row 254) = true := by decide +kernel
set_option maxRecDepth 200000 in
theorem zm_254 : bd_mw 254 = true := by decide +kernel
set_option maxRecDepth 200000 in
theorem zc_254 : lw_tbl[(mpM 254).1]? = some (.code (mtM 254).1 (mtM 254).2.1 (mtM 254).2.2.1 (mtM 254).2.2.2.1) := rfl
set_option maxRecDepth 200000 in
set_option maxHeartbeats 4000000 in
theorem zr_255 : cd_255.all (bd_row 255) = true := by decide +kernel
set_option maxRecDepth 200000 in
theorem zm_255 : bd_mw 255 = true := by decide +kernel
set_option maxRecDepth 200000 in
theorem zc_255 : lw_tbl[(mpM 255).1]? = some (.code (mtM 255).1 (mtM 255).2.1 (mtM 255).2.2.1 (mtM 255).2.2.2.1) := rfl
set_option maxRecDepth 200000 in
set_option maxHeartbeats 4000000 in
theorem zr_256 : cd_256.all (bd_row 256) = true := by decide +kernel
set_option maxRecDepth 200000 in
theorem zm_256 : bd_mw 256 = true := by decide +kernel
set_option maxRecDepth 200000 in
theorem zc_256 : lw_tbl[(mpM 256).1]? = some (.code (mtM 256).1 (mtM 256).2.1 (mtM 256).2.2.1 (mtM 256).2.2.2.1) := rfl
set_option maxRecDepth 200000 in
set_option maxHeartbeats 4000000 in
theorem zr_257 : cd_257.all (bd_row 257) = true := by decide +kernel
set_option maxRecDepth 200000 in
theorem zm_257 : bd_mw 257 = true := by decide +kernel
set_option maxRecDepth 200000 in
theorem zc_257 : lw_tbl[(mpM 257).1]? = some (.code (mtM 257).1 (mtM 257).2.1 (mtM 257).2.2.1 (mtM 257).2.2.2.1) := rfl
set_option maxRecDepth 200000 in
set_option maxHeartbeats 4000000 in
theorem zr_258 : cd_258.all (bd_row 258) = true := by decide +kernel
set_option maxRecDepth 200000 in
theorem zm_258 : bd_mw 258 = true := by decide +kernel
set_option maxRecDepth 200000 in
theorem zc_258 : lw_tbl[(mpM 258).1]? = some (.code (mtM 258).1 (mtM 258).2.1 (mtM 258).2.2.1 (mtM 258).2.2.2.1) := rfl
set_option maxRecDepth 200000 in
set_option maxHeartbeats 4000000 in
theorem zr_259 : cd_259.all (bd_row 259) = true := by decide +kernel
set_option maxRecDepth 200000 in
theorem zm_259 : bd_mw 259 = true := by decide +kernel
set_option maxRecDepth 200000 in
theorem zc_259 : lw_tbl[(mpM 259).1]? = some (.code (mtM 259).1 (mtM 259).2.1 (mtM 259).2.2.1 (mtM 259).2.2.2.1) := rfl
set_option maxRecDepth 200000 in
set_option maxHeartbeats 4000000 in
theorem zr_260 : cd_260.all (bd_row 260) = true := by decide +kernel
set_option maxRecDepth 200000 in
theorem zm_260 : bd_mw 260 = true := by decide +kernel
set_option maxRecDepth 200000 in
theorem zc_260 : lw_tbl[(mpM 260).1]? = some (.code (mtM 260).1 (mtM 260).2.1 (mtM 260).2.2.1 (mtM 260).2.2.2.1) := rfl
set_option maxRecDepth 200000 in
set_option maxHeartbeats 4000000 in
theorem zr_261 : cd_261.all (bd_row 261) = true := by decide +kernel
set_option maxRecDepth 200000 in
theorem zm_261 : bd_mw 261 = true := by decide +kernel
set_option maxRecDepth 200000 in
theorem zc_261 : lw_tbl[(mpM 261).1]? = some (.code (mtM 261).1 (mtM 261).2.1 (mtM 261).2.2.1 (mtM 261).2.2.2.1) := rfl
set_option maxRecDepth 200000 in
set_option maxHeartbeats 4000000 in
theorem zr_262 : cd_262.all (bd_row 262) = true := by decide +kernel
set_option maxRecDepth 200000 in
theorem zm_262 : bd_mw 262 = true := by decide +kernel
set_option maxRecDepth 200000 in
theorem zc_262 : lw_tbl[(mpM 262).1]? = some (.code (mtM 262).1 (mtM 262).2.1 (mtM 262).2.2.1 (mtM 262).2.2.2.1) := rfl
set_option maxRecDepth 200000 in
set_option maxHeartbeats 4000000 in
theorem zr_263 : cd_263.all (bd_row 263) = true := by decide +kernel
set_option maxRecDepth 200000 in
theorem zm_263 : bd_mw 263 = true := by decide +kernel
set_option maxRecDepth 200000 in
theorem zc_263 : lw_tbl[(mpM 263).1]? = some (.code (mtM 263).1 (mtM 263).2.1 (mtM 263).2.2.1 (mtM 263).2.2.2.1) := rfl
set_option maxRecDepth 200000 in
set_option maxHeartbeats 4000000 in
theorem zr_264 : cd_264.all (bd_row 264) = true := by decide +kernel
set_option maxRecDepth 200000 in
theorem zm_264 : bd_mw 264 = true := by decide +kernel
set_option maxRecDepth 200000 in
theorem zc_264 : lw_tbl[(mpM 264).1]? = some (.code (mtM 264).1 (mtM 264).2.1 (mtM 264).2.2.1 (mtM 264).2.2.2.1) := rfl
set_option maxRecDepth 200000 in
set_option maxHeartbeats 4000000 in
theorem zr_265 : cd_265.all (bd_row 265) = true := by decide +kernel
set_option maxRecDepth 200000 in
theorem zm_265 : bd_mw 265 = true := by decide +kernel
set_option maxRecDepth 200000 in
theorem zc_265 : lw_tbl[(mpM 265).1]? = some (.code (mtM 265).1 (mtM 265).2.1 (mtM 265).2.2.1 (mtM 265).2.2.2.1) := rfl
set_option maxRecDepth 200000 in
set_option maxHeartbeats 4000000 in
theorem zr_266 : cd_266.all (bd_row 266) = true := by decide +kernel
set_option maxRecDepth 200000 in
theorem zm_266 : bd_mw 266 = true := by decide +kernel
set_option maxRecDepth 200000 in
theorem zc_266 : lw_tbl[(mpM 266).1]? = some (.code (mtM 266).1 (mtM 266).2.1 (mtM 266).2.2.1 (mtM 266).2.2.2.1) := rfl
set_option maxRecDepth 200000 in
set_option maxHeartbeats 4000000 in
theorem zr_267 : cd_267.all (bd_row 267) = true := by decide +kernel
set_option maxRecDepth 200000 in
theorem zm_267 : bd_mw 267 = true := by decide +kernel
set_option maxRecDepth 200000 in
theorem zc_267 : lw_tbl[(mpM 267).1]? = some (.code (mtM 267).1 (mtM 267).2.1 (mtM 267).2.2.1 (mtM 267).2.2.2.1) := rfl
set_option maxRecDepth 200000 in
set_option maxHeartbeats 4000000 in
theorem zr_268 : cd_268.all (bd_row 268) = true := by decide +kernel
set_option maxRecDepth 200000 in
theorem zm_268 : bd_mw 268 = true := by decide +kernel
set_option maxRecDepth 200000 in
theorem zc_268 : lw_tbl[(mpM 268).1]? = some (.code (mtM 268).1 (mtM 268).2.1 (mtM 268).2.2.1 (mtM 268).2.2.2.1) := rfl
set_option maxRecDepth 200000 in
set_option maxHeartbeats 4000000 in
theorem zr_269 : cd_269.all (bd_row 269) = true := by decide +kernel
set_option maxRecDepth 200000 in
theorem zm_269 : bd_mw 269 = true := by decide +kernel
set_option maxRecDepth 200000 in
theorem zc_269 : lw_tbl[(mpM 269).1]? = some (.code (mtM 269).1 (mtM 269).2.1 (mtM 269).2.2.1 (mtM 269).2.2.2.1) := rfl
set_option maxRecDepth 200000 in
set_option maxHeartbeats 4000000 in
theorem zr_270 : cd_270.all (bd_row 270) = true := by decide +kernel
set_option maxRecDepth 200000 in
theorem zm_270 : bd_mw 270 = true := by decide +kernel
set_option maxRecDepth 200000 in
theorem zc_270 : lw_tbl[(mpM 270).1]? = some (.code (mtM 270).1 (mtM 270).2.1 (mtM 270).2.2.1 (mtM 270).2.2.2.1) := rfl
set_option maxRecDepth 200000 in
set_option maxHeartbeats 4000000 in
theorem zr_271 : cd_271.all (bd_row 271) = true := by decide +kernel
set_option maxRecDepth 200000 in
theorem zm_271 : bd_mw 271 = true := by decide +kernel
set_option maxRecDepth 200000 in
theorem zc_271 : lw_tbl[(mpM 271).1]? = some (.code (mtM 271).1 (mtM 271).2.1 (mtM 271).2.2.1 (mtM 271).2.2.2.1) := rfl
set_option maxRecDepth 200000 in
set_option maxHeartbeats 4000000 in
theorem zr_272 : cd_272.all (bd_row 272) = true := by decide +kernel
set_option maxRecDepth 200000 in
theorem zm_272 : bd_mw 272 = true := by decide +kernel
set_option maxRecDepth 200000 in
theorem zc_272 : lw_tbl[(mpM 272).1]? = some (.code (mtM 272).1 (mtM 272).2.1 (mtM 272).2.2.1 (mtM 272).2.2.2.1) := rfl
set_option maxRecDepth 200000 in
set_option maxHeartbeats 4000000 in
theorem zr_273 : cd_273.all (bd_row 273) = true := by decide +kernel
set_option maxRecDepth 200000 in
theorem zm_273 : bd_mw 273 = true := by decide +kernel
set_option maxRecDepth 200000 in
theorem zc_273 : lw_tbl[(mpM 273).1]? = some (.code (mtM 273).1 (mtM 273).2.1 (mtM 273).2.2.1 (mtM 273).2.2.2.1) := rfl
set_option maxRecDepth 200000 in
set_option maxHeartbeats 4000000 in
theorem zr_274 : cd_274.all (bd_row 274) = true := by decide +kernel
set_option maxRecDepth 200000 in
theorem zm_274 : bd_mw 274 = true := by decide +kernel
set_option maxRecDepth 200000 in
theorem zc_274 : lw_tbl[(mpM 274).1]? = some (.code (mtM 274).1 (mtM 274).2.1 (mtM 274).2.2.1 (mtM 274).2.2.2.1) := rfl
set_option maxRecDepth 200000 in
set_option maxHeartbeats 4000000 in
theorem zr_275 : cd_275.all (bd_row 275) = true := by decide +kernel
set_option maxRecDepth 200000 in
theorem zm_275 : bd_mw 275 = true := by decide +kernel
set_option maxRecDepth 200000 in
theorem zc_275 : lw_tbl[(mpM 275).1]? = some (.code (mtM 275).1 (mtM 275).2.1 (mtM 275).2.2.1 (mtM 275).2.2.2.1) := rfl
set_option maxRecDepth 200000 in
set_option maxHeartbeats 4000000 in
theorem zr_276 : cd_276.all (bd_row 276) = true := by decide +kernel
set_option maxRecDepth 200000 in
theorem zm_276 : bd_mw 276 = true := by decide +kernel
set_option maxRecDepth 200000 in
theorem zc_276 : lw_tbl[(mpM 276).1]? = some (.code (mtM 276).1 (mtM 276).2.1 (mtM 276).2.2.1 (mtM 276).2.2.2.1) := rfl
set_option maxRecDepth 200000 in
set_option maxHeartbeats 4000000 in
theorem zr_277 : cd_277.all (bd_row 277) = true := by decide +kernel
set_option maxRecDepth 200000 in
theorem zm_277 : bd_mw 277 = true := by decide +kernel
set_option maxRecDepth 200000 in
theorem zc_277 : lw_tbl[(mpM 277).1]? = some (.code (mtM 277).1 (mtM 277).2.1 (mtM 277).2.2.1 (mtM 277).2.2.2.1) := rfl
set_option maxRecDepth 200000 in
set_option maxHeartbeats 4000000 in
theorem zr_278 : cd_278.all (bd_row 278) = true := by decide +kernel
set_option maxRecDepth 200000 in
theorem zm_278 : bd_mw 278 = true := by decide +kernel
set_option maxRecDepth 200000 in
theorem zc_278 : lw_tbl[(mpM 278).1]? = some (.code (mtM 278).1 (mtM 278).2.1 (mtM 278).2.2.1 (mtM 278).2.2.2.1) := rfl
set_option maxRecDepth 200000 in
set_option maxHeartbeats 4000000 in
theorem zr_279 : cd_279.all (bd_row 279) = true := by decide +kernel
set_option maxRecDepth 200000 in
theorem zm_279 : bd_mw 279 = true := by decide +kernel
set_option maxRecDepth 200000 in
theorem zc_279 : lw_tbl[(mpM 279).1]? = some (.code (mtM 279).1 (mtM 279).2.1 (mtM 279).2.2.1 (mtM 279).2.2.2.1) := rfl
