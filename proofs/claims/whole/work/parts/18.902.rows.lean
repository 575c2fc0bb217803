set_option maxRecDepth 200000 in
set_option maxHeartbeats 4000000 in
theorem zr_153 : cd_153.all (bd_row 153) = true := by decide +kernel
set_option maxRecDepth 200000 in
theorem zm_153 : bd_mw 153 = true := by decide +kernel
set_option maxRecDepth 200000 in
theorem zc_153 : lw_tbl[(mpM 153).1]? = some (.code (mtM 153).1 (mtM 153).2.1 (mtM 153).2.2.1 (mtM 153).2.2.2.1) := rfl
set_option maxRecDepth 200000 in
set_option maxHeartbeats 4000000 in
theorem zr_154 : cd_154.all (bd_row 154) = true := by decide +kernel
set_option maxRecDepth 200000 in
theorem zm_154 : bd_mw 154 = true := by decide +kernel
set_option maxRecDepth 200000 in
theorem zc_154 : lw_tbl[(mpM 154).1]? = some (.code (mtM 154).1 (mtM 154).2.1 (mtM 154).2.2.1 (mtM 154).2.2.2.1) := rfl
set_option maxRecDepth 200000 in
set_option maxHeartbeats 4000000 in
theorem zr_155 : cd_155.all (bd_row 155) = true := by decide +kernel
set_option maxRecDepth 200000 in
theorem zm_155 : bd_mw 155 = true := by decide +kernel
set_option maxRecDepth 200000 in
theorem zc_155 : lw_tbl[(mpM 155).1]? = some (.code (mtM 155).1 (mtM 155).2.1 (mtM 155).2.2.1 (mtM 155).2.2.2.1) := rfl
set_option maxRecDepth 200000 in
set_option maxHeartbeats 4000000 in
theorem zr_156 : cd_156.all (bd_row 156) = true := by decide +kernel
set_option maxRecDepth 200000 in
theorem zm_156 : bd_mw 156 = true := by decide +kernel
set_option maxRecDepth 200000 in
theorem zc_156 : lw_tbl[(mpM 156).1]? = some (.code (mtM 156).1 (mtM 156).2.1 (mtM 156).2.2.1 (mtM 156).2.2.2.1) := rfl
set_option maxRecDepth 200000 in
set_option maxHeartbeats 4000000 in
theorem zr_157 : cd_157.all (bd_row 157) = true := by decide +kernel
set_option maxRecDepth 200000 in
theorem zm_157 : bd_mw 157 = true := by decide +kernel
set_option maxRecDepth 200000 in
theorem zc_157 : lw_tbl[(mpM 157).1]? = some (.code (mtM 157).1 (mtM 157).2.1 (mtM 157).2.2.1 (mtM 157).2.2.2.1) := rfl
set_option maxRecDepth 200000 in
set_option maxHeartbeats 4000000 in
theorem zr_158 : cd_158.all (bd_row 158) = true := by decide +kernel
set_option maxRecDepth 200000 in
theorem zm_158 : bd_mw 158 = true := by decide +kernel
set_option maxRecDepth 200000 in
theorem zc_158 : lw_tbl[(mpM 158).1]? = some (.code (mtM 158).1 (mtM 158).2.1 (mtM 158).2.2.1 (mtM 158).2.2.2.1) := rfl
set_option maxRecDepth 200000 in
set_option maxHeartbeats 4000000 in
theorem zr_159 : cd_159.all (bd_row 159) = true := by decide +kernel
set_option maxRecDepth 200000 in
theorem zm_159 : bd_mw 159 = true := by decide +kernel
set_option maxRecDepth 200000 in
theorem zc_159 : lw_tbl[(mpM 159).1]? = some (.code (mtM 159).1 (mtM 159).2.1 (mtM 159).2.2.1 (mtM 159).2.2.2.1) := rfl
set_option maxRecDepth 200000 in
set_option maxHeartbeats 4000000 in
theorem zr_160 : cd_160.all (bd_row 160) = true := by decide +kernel
set_option maxRecDepth 200000 in
theorem zm_160 : bd_mw 160 = true := by decide +kernel
set_option maxRecDepth 200000 in
theorem zc_160 : lw_tbl[(mpM 160).1]? = some (.code (mtM 160).1 (mtM 160).2.1 (mtM 160).2.2.1 (mtM 160).2.2.2.1) := rfl
set_option maxRecDepth 200000 in
set_option maxHeartbeats 4000000 in
theorem zr_161 : cd_161.all (bd_row 161) = true := by decide +kernel
set_option maxRecDepth 200000 in
theorem zm_161 : bd_mw 161 = true := by decide +kernel
set_option maxRecDepth 200000 in
theorem zc_161 : lw_tbl[(mpM 161).1]? = some (.code (mtM 161).1 (mtM 161).2.1 (mtM 161).2.2.1 (mtM 161).2.2.2.1) := rfl
set_option maxRecDepth 200000 in
set_option maxHeartbeats 4000000 in
theorem zr_162 : cd_162.all (bd_row 162) = true := by decide +kernel
set_option maxRecDepth 200000 in
theorem zm_162 : bd_mw 162 = true := by decide +kernel
set_option maxRecDepth 200000 in
theorem zc_162 : lw_tbl[(mpM 162).1]? = some (.code (mtM 162).1 (mtM 162).2.1 (mtM 162).2.2.1 (mtM 162).2.2.2.1) := rfl
set_option maxRecDepth 200000 in
set_option maxHeartbeats 4000000 in
theorem zr_163 : cd_163.all (bd_row 163) = true := by decide +kernel
set_option maxRecDepth 200000 in
theorem zm_163 : bd_mw 163 = true := by decide +kernel
set_option maxRecDepth 200000 in
theorem zc_163 : lw_tbl[(mpM 163).1]? = some (.code (mtM 163).1 (mtM 163).2.1 (mtM 163).2.2.1 (mtM 163).2.2.2.1) := rfl
set_option maxRecDepth 200000 in
set_option maxHeartbeats 4000000 in
theorem zr_164 : cd_164.all (bd_row 164) = true := by decide +kernel
set_option maxRecDepth 200000 in
theorem zm_164 : bd_mw 164 = true := by decide +kernel
set_option maxRecDepth 200000 in
theorem zc_164 : lw_tbl[(mpM 164).1]? = some (.code (mtM 164).1 (mtM 164).2.1 (mtM 164).2.2.1 (mtM 164).2.2.2.1) := rfl
set_option maxRecDepth 200000 in
set_option maxHeartbeats 4000000 in
theorem zr_165 : cd_165.all (bd_row 165) = true := by decide +kernel
set_option maxRecDepth 200000 in
theorem zm_165 : bd_mw 165 = true := by decide +kernel
set_option maxRecDepth 200000 in
theorem zc_165 : lw_tbl[(mpM 165).1]? = some (.code (mtM 165).1 (mtM 165).2.1 (mtM 165).2.2.1 (mtM 165).2.2.2.1) := rfl
set_option maxRecDepth 200000 in
set_option maxHeartbeats 4000000 in
theorem zr_166 : cd_166.all (bd_row 166) = true := by decide +kernel
set_option maxRecDepth 200000 in
theorem zm_166 : bd_mw 166 = true := by decide +kernel
set_option maxRecDepth 200000 in
theorem zc_166 : lw_tbl[(mpM 166).1]? = some (.code (mtM 166).1 (mtM 166).2.1 (mtM 166).2.2.1 (mtM 166).2.2.2.1) := rfl
set_option maxRecDepth 200000 in
set_option maxHeartbeats 4000000 in
theorem zr_167 : cd_167.all (bd_row 167) = true := by decide +kernel
set_option maxRecDepth 200000 in
theorem zm_167 : bd_mw 167 = true := by decide +kernel
set_option maxRecDepth 200000 in
theorem zc_167 : lw_tbl[(mpM 167).1]? = some (.code (mtM 167).1 (mtM 167).2.1 (mtM 167).2.2.1 (mtM 167).2.2.2.1) := rfl
set_option maxRecDepth 200000 in
set_option maxHeartbeats 4000000 in
theorem zr_168 : cd_168.all (bd_row 168) = true := by decide +kernel
set_option maxRecDepth 200000 in
theorem zm_168 : bd_mw 168 = true := by decide +kernel
set_option maxRecDepth 200000 in
theorem zc_168 : lw_tbl[(mpM 168).1]? = some (.code (mtM 168).1 (mtM 168).2.1 (mtM 168).2.2.1 (mtM 168).2.2.2.1) := rfl
set_option maxRecDepth 200000 in
set_option maxHeartbeats 4000000 in
theorem zr_169 : cd_169.all (bd_row 169) = true := by decide +kernel
set_option maxRecDepth 200000 in
theorem zm_169 : bd_mw 169 = true := by decide +kernel
set_option maxRecDepth 200000 in
theorem zc_169 : lw_tbl[(mpM 169).1]? = some (.code (mtM 169).1 (mtM 169).2.1 (mtM 169).2.2.1 (mtM 169).2.2.2.1) := rfl
set_option maxRecDepth 200000 in
set_option maxHeartbeats 4000000 in
theorem zr_170 : cd_170.all (bd_row 170) = true := by decide +kernel
set_option maxRecDepth 200000 in
theorem zm_170 : bd_mw 170 = true := by decide +kernel
set_option maxRecDepth 200000 in
theorem zc_170 : lw_tbl[(mpM 170).1]? = some (.code (mtM 170).1 (mtM 170).2.1 (mtM 170).2.2.1 (mtM 170).2.2.2.1) := rfl
set_option maxRecDepth 200000 in
set_option maxHeartbeats 4000000 in
theorem zr_171 : cd_171.all (bd_row 171) = true := by decide +kernel
set_option maxRecDepth 200000 in
theorem zm_171 : bd_mw 171 = true := by decide +kernel
set_option maxRecDepth 200000 in
theorem zc_171 : lw_tbl[(mpM 171).1]? = some (.code (mtM 171).1 (mtM 171).2.1 (mtM 171).2.2.1 (mtM 171).2.2.2.1) := rfl
set_option maxRecDepth 200000 in
set_option maxHeartbeats 4000000 in
theorem zr_172 : cd_172.all (bd_row 172) = true := by decide +kernel
set_option maxRecDepth 200000 in
theorem zm_172 : bd_mw 172 = true := by decide +kernel
set_option maxRecDepth 200000 in
theorem zc_172 : lw_tbl[(mpM 172).1]? = some (.code (mtM 172).1 (mtM 172).2.1 (mtM 172).2.2.1 (mtM 172).2.2.2.1) := rfl
set_option maxRecDepth 200000 in
set_option maxHeartbeats 4000000 in
theorem zr_173 : cd_173.all (bd_row 173) = true := by decide +kernel
set_option maxRecDepth 200000 in
theorem zm_173 : bd_mw 173 = true := by decide +kernel
set_option maxRecDepth 200000 in
theorem zc_173 : lw_tbl[(mpM 173).1]? = some (.code (mtM 173).1 (mtM 173).2.1 (mtM 173).2.2.1 (mtM 173).2.2.2.1) := rfl
set_option maxRecDepth 200000 in
set_option maxHeartbeats 4000000 in
theorem zr_174 : cd_174.all (bd_row 174) = true := by decide +kernel
set_option maxRecDepth 200000 in
theorem zm_174 : bd_mw 174 = true := by decide +kernel
set_option maxRecDepth 200000 in
theorem zc_174 : lw_tbl[(mpM 174).1]? = some (.code (mtM 174).1 (mtM 174).2.1 (mtM 174).2.2.1 (mtM 174).2.2.2.1) := rfl
set_option maxRecDepth 200000 in
set_option maxHeartbeats 4000000 in
theorem zr_175 : cd_175.all (bd_row 175) = true := by decide +kernel
set_option maxRecDepth 200000 in
theorem zm_175 : bd_mw 175 = true := by decide +kernel
set_option maxRecDepth 200000 in
theorem zc_175 : lw_tbl[(mpM 175).1]? = some (.code (mtM 175).1 (mtM 175).2.1 (mtM 175).2.2.1 (mtM 175).2.2.2.1) := rfl
set_option maxRecDepth 200000 in
set_option maxHeartbeats 4000000 in
theorem zr_176 : cd_176.all (bd_row 176) = true := by decide +kernel
set_option maxRecDepth 200000 in
theorem zm_176 : bd_mw 176 = true := by decide +kernel
set_option maxRecDepth 200000 in
theorem zc_176 : lw_tbl[(mpM 176).1]? = some (.code (mtM 176).1 (mtM 176).2.1 (mtM 176).2.2.1 (mtM 176).2.2.2.1) := rfl
set_option maxRecDepth 200000 in
set_option maxHeartbeats 4000000 in
theorem zr_177 : cd_177.all (bd_row 177) = true := by decide +kernel
set_option maxRecDepth 200000 in
theorem zm_177 : bd_mw 177 = true := by decide +kernel
set_option maxRecDepth 200000 in
theorem zc_177 : lw_tbl[(mpM 177).1]? = some (.code (mtM 177).1 (mtM 177).2.1 (mtM 177).2.2.1 (mtM 177).2.2.2.1) := rfl
set_option maxRecDepth 200000 in
set_option maxHeartbeats 4000000 in
theorem zr_178 : cd_178.all (bd_row 178) = true := by decide +kernel
set_option maxRecDepth 200000 in
theorem zm_178 : bd_mw 178 = true := by decide +kernel
set_option maxRecDepth 200000 in
theorem zc_178 : lw_tbl[(mpM 178).1]? = some (.code (mtM 178).1 (mtM 178).2.1 (mtM 178).2.2.1 (mtM 178).2.2.2.1) := rfl
set_option maxRecDepth 200000 in
set_option maxHeartbeats 4000000 in
theorem zr_179 : cd_179.all (bd_row 179) = true := by decide +kernel
set_option maxRecDepth 200000 in
theorem zm_179 : bd_mw 179 = true := by decide +kernel
set_option maxRecDepth 200000 in
theorem zc_179 : lw_tbl[(mpM 179).1]? = some (.code (mtM 179).1 (mtM 179).2.1 (mtM 179).2.2.1 (mtM 179).2.2.2.1) := rfl
set_option maxRecDepth 200000 in
set_option maxHeartbeats 4000000 in
theorem zr_180 : cd_180.all (bd_row 180) = true := by decide +kernel
set_option maxRecDepth 200000 in
theorem zm_180 : bd_mw 180 = true := by decide +kernel
set_option maxRecDepth 200000 in
theorem zc_180 : lw_tbl[(mpM 180).1]? = some (.code (mtM 180).1 (mtM 180).2.1 (mtM 180).2.2.1 (mtM 180).2.2.2.1) := rfl
set_option maxRecDepth 200000 in
set_option maxHeartbeats 4000000 in
theorem zr_181 : cd_181.all (bd_row 181) = true := by decide +kernel
set_option maxRecDepth 200000 in
theorem zm_181 : bd_mw 181 = true := by decide +kernel
set_option maxRecDepth 200000 in
theorem zc_181 : lw_tbl[(mpM 181).1]? = some (.code (mtM 181).1 (mtM 181).2.1 (mtM 181).2.2.1 (mtM 181).2.2.2.1) := rfl
set_option maxRecDepth 200000 in
set_option maxHeartbeats 4000000 in
theorem zr_182 : cd_182.all (bd_row 182) = true := by decide +kernel
set_option maxRecDepth 200000 in
theorem zm_182 : bd_mw 182 = true := by decide +kernel
set_option maxRecDepth 200000 in
theorem zc_182 : lw_tbl[(mpM 182).1]? = some (.code (mtM 182).1 (mtM 182).2.1 (mtM 182).2.2.1 (mtM 182).2.2.2.1) := rfl
set_option maxRecDepth 200000 in
set_option maxHeartbeats 4000000 in
theorem zr_183 : cd_183.all (bd_row 183) = true := by decide +kernel
set_option maxRecDepth 200000 in
theorem zm_183 : bd_mw 183 = true := by decide +kernel
set_option maxRecDepth 200000 in
theorem zc_183 : lw_tbl[(mpM 183).1]? = some (.code (mtM 183).1 (mtM 183).2.1 (mtM 183).2.2.1 (mtM 183).2.2.2.1) := rfl
set_option maxRecDepth 200000 in
set_option maxHeartbeats 4000000 in
theorem zr_184 : cd_184.all (bd_row 184) = true := by decide +kernel
set_option maxRecDepth 200000 in
theorem zm_184 : bd_mw 184 = true := by decide +kernel
set_option maxRecDepth 200000 in
theorem zc_184 : lw_tbl[(mpM 184).1]? = some (.code (mtM 184).1 (mtM 184).2.1 (mtM 184).2.2.1 (mtM 184).2.2.2.1) := rfl
set_option maxRecDepth 200000 in
set_option maxHeartbeats 4000000 in
theorem zr_185 : cd_185.all (bd_row 185) = true := by decide +kernel
set_option maxRecDepth 200000 in
theorem zm_185 : bd_mw 185 = true := by decide +kernel
set_option maxRecDepth 200000 in
theorem zc_185 : lw_tbl[(mpM 185).1]? = some (.code (mtM 185).1 (mtM 185).2.1 (mtM 185).2.2.1 (mtM 185).2.2.2.1) := rfl
set_option maxRecDepth 200000 in
set_option maxHeartbeats 4000000 in
theorem zr_186 : cd_186.all (bd_row 186) = true := by decide +kernel
set_option maxRecDepth 200000 in
theorem zm_186 : bd_mw 186 = true := by decide +kernel
set_option maxRecDepth 200000 in
theorem zc_186 : lw_tbl[(mpM 186).1]? = some (.code (mtM 186).1 (mtM 186).2.1 (mtM 186).2.2.1 (mtM 186).2.2.2.1) := rfl
set_option maxRecDepth 200000 in
set_option maxHeartbeats 4000000 in
theorem zr_187 : cd_187.all (bd_row 187) = true := by decide +kernel
set_option maxRecDepth 200000 in
theorem zm_187 : bd_mw 187 = true := by decide +kernel
set_option maxRecDepth 200000 in
theorem zc_187 : lw_tbl[(mpM 187).1]? = some (.code (mtM 187).1 (mtM 187).2.1 (mtM 187).2.2.1 (mtM 187).2.2.2.1) := rfl
set_option maxRecDepth 200000 in
set_option maxHeartbeats 4000000 in
theorem zr_188 : cd_188.all (bd_row 188) = true := by decide +kernel
set_option maxRecDepth 200000 in
theorem zm_188 : bd_mw 188 = true := by decide +kernel
set_option maxRecDepth 200000 in
theorem zc_188 : lw_tbl[(mpM 188).1]? = some (.code (mtM 188).1 (mtM 188).2.1 (mtM 188).2.2.1 (mtM 188).2.2.2.1) := rfl
set_option maxRecDepth 200000 in
set_option maxHeartbeats 4000000 in
theorem zr_189 : cd_189.all (bd_row 189) = true := by decide +kernel
set_option maxRecDepth 200000 in
theorem zm_189 : bd_mw 189 = true := by decide +kernel
set_option maxRecDepth 200000 in
theorem zc_189 : lw_tbl[(mpM 189).1]? = some (.code (mtM 189).1 (mtM 189).2.1 (mtM 189).2.2.1 (mtM 189).2.2.2.1) := rfl
set_option maxRecDepth 200000 in
set_option maxHeartbeats 4000000 in
theorem zr_190 : cd_190.all (bd_row 190) = true := by decide +kernel
set_option maxRecDepth 200000 in
theorem zm_190 : bd_mw 190 = true := by decide +kernel
set_option maxRecDepth 200000 in
theorem zc_190 : lw_tbl[(mpM 190).1]? = some (.code (mtM 190).1 (mtM 190).2.1 (mtM 190).2.2.1 (mtM 190).2.2.2.1) := rfl
set_option maxRecDepth 200000 in
set_option maxHeartbeats 4000000 in
theorem zr_191 : cd_191.all (bd_row 191) = true := by decide +kernel
set_option maxRecDepth 200000 in
theorem zm_191 : bd_mw 191 = true := by decide +kernel
set_option maxRecDepth 200000 in
theorem zc_191 : lw_tbl[(mpM 191).1]? = some (.code (mtM 191).1 (mtM 191).2.1 (mtM 191).2.2.1 (mtM 191).2.2.2.1) := rfl
set_option maxRecDepth 200000 in
set_option maxHeartbeats 4000000 in
theorem zr_192 : cd_192.all (bd_row 192) = true := by decide +kernel
set_option maxRecDepth 200000 in
theorem zm_192 : bd_mw 192 = true := by decide +kernel
set_option maxRecDepth 200000 in
theorem zc_192 : lw_tbl[(mpM 192).1]? = some (.code (mtM 192).1 (mtM 192).2.1 (mtM 192).2.2.1 (mtM 192).2.2.2.1) := rfl
set_option maxRecDepth 200000 in
set_option maxHeartbeats 4000000 in
theorem zr_193 : cd_193.all (bd_row 193) = true := by decide +kernel
set_option maxRecDepth 200000 in
theorem zm_193 : bd_mw 193 = true := by decide +kernel
set_option maxRecDepth 200000 in
theorem zc_193 : lw_tbl[(mpM 193).1]? = some (.code (mtM 193).1 (mtM 193).2.1 (mtM 193).2.2.1 (mtM 193).2.2.2.1) := rfl
set_option maxRecDepth 200000 in
set_option maxHeartbeats 4000000 in
theorem zr_194 : cd_194.all (bd_row 194) = true := by decide +kernel
set_option maxRecDepth 200000 in
theorem zm_194 : bd_mw 194 = true := by decide +kernel
set_option maxRecDepth 200000 in
theorem zc_194 : lw_tbl[(mpM 194).1]? = some (.code (mtM 194).1 (mtM 194).2.1 (mtM 194).2.2.1 (mtM 194).2.2.2.1) := rfl
set_option maxRecDepth 200000 in
set_option maxHeartbeats 4000000 in
theorem zr_195 : cd_195.all (bd_row 195) = true := by decide +kernel
set_option maxRecDepth 200000 in
theorem zm_195 : bd_mw 195 = true := by decide +kernel
set_option maxRecDepth 200000 in
theorem zc_195 : lw_tbl[(mpM 195).1]? = some (.code (mtM 195).1 (mtM 195).2.1 (mtM 195).2.2.1 (mtM 195).2.2.2.1) := rfl
set_option maxRecDepth 200000 in
set_option maxHeartbeats 4000000 in
theorem zr_196 : cd_196.all (bd_row 196) = true := by decide +kernel
set_option maxRecDepth 200000 in
theorem zm_196 : bd_mw 196 = true := by decide +kernel
set_option maxRecDepth 200000 in
theorem zc_196 : lw_tbl[(mpM 196).1]? = some (.code (mtM 196).1 (mtM 196).2.1 (mtM 196).2.2.1 (mtM 196).2.2.2.1) := rfl
set_option maxRecDepth 200000 in
set_option maxHeartbeats 4000000 in
theorem zr_197 : cd_197.all (bd_row 197) = true := by decide +kernel
set_option maxRecDepth 200000 in
theorem zm_197 : bd_mw 197 = true := by decide +kernel
set_option maxRecDepth 200000 in
theorem zc_197 : lw_tbl[(mpM 197).1]? = some (.code (mtM 197).1 (mtM 197).2.1 (mtM 197).2.2.1 (mtM 197).2.2.2.1) := rfl
set_option maxRecDepth 200000 in
set_option maxHeartbeats 4000000 in
theorem zr_198 : cd_198.all (bd_row 198) = true := by decide +kernel
set_option maxRecDepth 200000 in
theorem zm_198 : bd_mw 198 = true := by decide +kernel
set_option maxRecDepth 200000 in
theorem zc_198 : lw_tbl[(mpM 198).1]? = some (.code (mtM 198).1 (mtM 198).2.1 (mtM 198).2.2.1 (mtM 198).2.2.2.1) := rfl
set_option maxRecDepth 200000 in
set_option maxHeartbeats 4000000 in
theorem zr_199 : cd_199.all (bd_row 199) = true := by decide +kernel
set_option maxRecDepth 200000 in
theorem zm_199 : bd_mw 199 = true := by decide +kernel
set_option maxRecDepth 200000 in
theorem zc_199 : lw_tbl[(mpM 199).1]? = some (.code (mtM 199).1 (mtM 199).2.1 (mtM 199).2.2.1 (mtM 199).2.2.2.1) := rfl
set_option maxRecDepth 200000 in
set_option maxHeartbeats 4000000 in
theorem zr_200 : cd_200.all (bd_row 200) = true := by decide +kernel
set_option maxRecDepth 200000 in
theorem zm_200 : bd_mw 200 = true := by decide +kernel
set_option maxRecDepth 200000 in
theorem zc_200 : lw_tbl[(mpM 200).1]? = some (.code (mtM 200).1 (mtM 200).2.1 (mtM 200).2.2.1 (mtM 200).2.2.2.1) := rfl
set_option maxRecDepth 200000 in
set_option maxHeartbeats 4000000 in
theorem zr_201 : cd_201.all (bd_row 201) = true := by decide +kernel
set_option maxRecDepth 200000 in
theorem zm_201 : bd_mw 201 = true := by decide +kernel
set_option maxRecDepth 200000 in
theorem zc_201 : lw_tbl[(mpM 201).1]? = some (.code (mtM 201).1 (mtM 201).2.1 (mtM 201).2.2.1 (mtM 201).2.2.2.1) := rfl
set_option maxRecDepth 200000 in
set_option maxHeartbeats 4000000 in
theorem zr_202 : cd_202.all (bd_row 202) = true := by decide +kernel
set_option maxRecDepth 200000 in
theorem zm_202 : bd_mw 202 = true := by decide +kernel
set_option maxRecDepth 200000 in
theorem zc_202 : lw_tbl[(mpM 202).1]? = some (.code (mtM 202).1 (mtM 202).2.1 (mtM 202).2.2.1 (mtM 202).2.2.2.1) := rfl
set_option maxRecDepth 200000 in
set_option maxHeartbeats 4000000 in
theorem zr_203 : cd_203.all (bd_row 203) = true := by decide +kernel
set_option maxRecDepth 200000 in
theorem zm_203 : bd_mw 203 = true := by decide +kernel
set_option maxRecDepth 200000 in
theorem zc_203 : lw_tbl[(mpM 203).1]? = some (.code (mtM 203).1 (mtM 203).2.1 (mtM 203).2.2.1 (mtM 203).2.2.2.1) := rfl
set_option maxRecDepth 200000 in
set_option maxHeartbeats 4000000 in
theorem zr_204 : cd_204.all (bd_row 204) = true := by decide +kernel
set_option maxRecDepth 200000 in
theorem zm_204 : bd_mw 204 = true := by decide +kernel
set_option maxRecDepth 200000 in
theorem zc_204 : lw_tbl[(mpM 204).1]? = some (.code (mtM 204).1 (mtM 204).2.1 (mtM 204).2.2.1 (mtM 204).2.2.2.1) := rfl
set_option maxRecDepth 200000 in
set_option maxHeartbeats 4000000 in
theorem zr_205 : cd_205.all (bd_row 205) = true := by decide +kernel
set_option maxRecDepth 200000 in
theorem zm_205 : bd_mw 205 = true := by decide +kernel
set_option maxRecDepth 200000 in
theorem zc_205 : lw_tbl[(mpM 205).1]? = some (.code (mtM 205).1 (mtM 205).2.1 (mtM 205).2.2.1 (mtM 205).2.2.2.1) := rfl
set_option maxRecDepth 200000 in
set_option maxHeartbeats 4000000 in
theorem zr_206 : cd_206.all (bd_row 206) = true := by decide +kernel
set_option maxRecDepth 200000 in
theorem zm_206 : bd_mw 206 = true := by decide +kernel
set_option maxRecDepth 200000 in
theorem zc_206 : lw_tbl[(mpM 206).1]? = some (.code (mtM 206).1 (mtM 206).2.1 (mtM 206).2.2.1 (mtM 206).2.2.2.1) := rfl
set_option maxRecDepth 200000 in
set_option maxHeartbeats 4000000 in
theorem zr_207 : cd_207.all (bd_row 207) = true := by decide +kernel
set_option maxRecDepth 200000 in
theorem zm_207 : bd_mw 207 = true := by decide +kernel
set_option maxRecDepth 200000 in
theorem zc_207 : lw_tbl[(mpM 207).1]? = some (.code (mtM 207).1 (mtM 207).2.1 (mtM 207).2.2.1 (mtM 207).2.2.2.1) := rfl
set_option maxRecDepth 200000 in
set_option maxHeartbeats 4000000 in
theorem zr_208 : cd_208.all (bd_row 208) = true := by decide +kernel
set_option maxRecDepth 200000 in
theorem zm_208 : bd_mw 208 = true := by decide +kernel
set_option maxRecDepth 200000 in
theorem zc_208 : lw_tbl[(mpM 208).1]? = some (.code (mtM 208).1 (mtM 208).2.1 (mtM 208).2.2.1 (mtM 208).2.2.2.1) := rfl
set_option maxRecDepth 200000 in
set_option maxHeartbeats 4000000 in
theorem zr_209 : cd_209.all (bd_row 209) = true := by decide +kernel
set_option maxRecDepth 200000 in
theorem zm_209 : bd_mw 209 = true := by decide +kernel
set_option maxRecDepth 200000 in
theorem zc_209 : lw_tbl[(mpM 209).1]? = some (.code (mtM 209).1 (mtM 209).2.1 (mtM 209).2.2.1 (mtM 209).2.2.2.1) := rfl
set_option maxRecDepth 200000 in
set_option maxHeartbeats 4000000 in
theorem zr_210 : cd_210.all (bd_row 210) = true := by decide +kernel
set_option maxRecDepth 200000 in
theorem zm_210 : bd_mw 210 = true := by decide +kernel
set_option maxRecDepth 200000 in
theorem zc_210 : lw_tbl[(mpM 210).1]? = some (.code (mtM 210).1 (mtM 210).2.1 (mtM 210).2.2.1 (mtM 210).2.2.2.1) := rfl
set_option maxRecDepth 200000 in
set_option maxHeartbeats 4000000 in
theorem zr_211 : cd_211.all (bd_row 211) = true := by decide +kernel
set_option maxRecDepth 200000 in
theorem zm_211 : bd_mw 211 = true := by decide +kernel
set_option maxRecDepth 200000 in
theorem zc_211 : lw_tbl[(mpM 211).1]? = some (.code (mtM 211).1 (mtM 211).2.1 (mtM 211).2.2.1 (mtM 211).2.2.2.1) := rfl
set_option maxRecDepth 200000 in
set_option maxHeartbeats 4000000 in
theorem zr_212 : cd_212.all (bd_row 212) = true := by decide +kernel
set_option maxRecDepth 200000 in
theorem zm_212 : bd_mw 212 = true := by decide +kernel
set_option maxRecDepth 200000 in
theorem zc_212 : lw_tbl[(mpM 212).1]? = some (.code (mtM 212).1 (mtM 212).2.1 (mtM 212).2.2.1 (mtM 212).2.2.2.1) := rfl
set_option maxRecDepth 200000 in
set_option maxHeartbeats 4000000 in
theorem zr_213 : cd_213.all (bd_row 213) = true := by decide +kernel
set_option maxRecDepth 200000 in
theorem zm_213 : bd_mw 213 = true := by decide +kernel
set_option maxRecDepth 200000 in
theorem zc_213 : lw_tbl[(mpM 213).1]? = some (.code (mtM 213).1 (mtM 213).2.1 (mtM 213).2.2.1 (mtM 213).2.2.2.1) := rfl
