set_option maxRecDepth 20000 in
theorem qw_249 : qG (Cond.selects RX0 yX0_hasCell yX0_hasCell) := ⟨List.mem_append_right _ (List.mem_append_right _ (List.mem_append_left _ (List.mem_of_getElem? (l := tables_1_2) (i := 139) rfl))), good_of_word (by decide +kernel)⟩
set_option maxRecDepth 20000 in
theorem qw_250 : qG (Cond.code yX5_text cX5_text 2 (some .int)) := ⟨List.mem_append_right _ (List.mem_append_left _ (List.mem_of_getElem? (l := tables_1_1) (i := 238) rfl)), good_of_word (by decide +kernel)⟩
set_option maxRecDepth 20000 in
theorem qw_251 : qG (Cond.selects RX5 yX5_text yX5_text) := ⟨List.mem_append_right _ (List.mem_append_left _ (List.mem_of_getElem? (l := tables_1_1) (i := 237) rfl)), good_of_word (by decide +kernel)⟩
set_option maxRecDepth 20000 in
theorem qw_252 : qG (Cond.instanceMethod yX5_text) := ⟨List.mem_append_right _ (List.mem_append_left _ (List.mem_of_getElem? (l := tables_1_1) (i := 236) rfl)), good_of_word (by decide +kernel)⟩
set_option maxRecDepth 20000 in
theorem qw_253 : qG (Cond.methodLink RL 22 yX5_text) := ⟨List.mem_append_right _ (List.mem_append_left _ (List.mem_of_getElem? (l := tables_1_1) (i := 235) rfl)), good_of_word (by decide +kernel)⟩
set_option maxRecDepth 20000 in
theorem qw_254 : qG (Cond.code yX5_fault cX5_fault 1 (some .int)) := ⟨List.mem_append_right _ (List.mem_append_right _ (List.mem_append_left _ (List.mem_of_getElem? (l := tables_1_2) (i := 156) rfl))), good_of_word (by decide +kernel)⟩
set_option maxRecDepth 20000 in
theorem qw_255 : qG (Cond.selects RX5 yX5_fault yX5_fault) := ⟨List.mem_append_right _ (List.mem_append_right _ (List.mem_append_left _ (List.mem_of_getElem? (l := tables_1_2) (i := 155) rfl))), good_of_word (by decide +kernel)⟩
set_option maxRecDepth 20000 in
theorem qw_256 : qG (Cond.instanceMethod yX5_fault) := ⟨List.mem_append_right _ (List.mem_append_right _ (List.mem_append_left _ (List.mem_of_getElem? (l := tables_1_2) (i := 154) rfl))), good_of_word (by decide +kernel)⟩
set_option maxRecDepth 20000 in
theorem qw_257 : qG (Cond.methodLink RL 27 yX5_fault) := ⟨List.mem_append_right _ (List.mem_append_right _ (List.mem_append_left _ (List.mem_of_getElem? (l := tables_1_2) (i := 153) rfl))), good_of_word (by decide +kernel)⟩
set_option maxRecDepth 20000 in
theorem qw_258 : qG (Cond.code yX5_rule cX5_rule 2 (some .int)) := ⟨List.mem_append_right _ (List.mem_append_right _ (List.mem_append_left _ (List.mem_of_getElem? (l := tables_1_2) (i := 160) rfl))), good_of_word (by decide +kernel)⟩
set_option maxRecDepth 20000 in
theorem qw_259 : qG (Cond.selects RX5 yX5_rule yX5_rule) := ⟨List.mem_append_right _ (List.mem_append_right _ (List.mem_append_left _ (List.mem_of_getElem? (l := tables_1_2) (i := 159) rfl))), good_of_word (by decide +kernel)⟩
set_option maxRecDepth 20000 in
theorem qw_260 : qG (Cond.instanceMethod yX5_rule) := ⟨List.mem_append_right _ (List.mem_append_right _ (List.mem_append_left _ (List.mem_of_getElem? (l := tables_1_2) (i := 158) rfl))), good_of_word (by decide +kernel)⟩
set_option maxRecDepth 20000 in
theorem qw_261 : qG (Cond.methodLink RL 31 yX5_rule) := ⟨List.mem_append_right _ (List.mem_append_right _ (List.mem_append_left _ (List.mem_of_getElem? (l := tables_1_2) (i := 157) rfl))), good_of_word (by decide +kernel)⟩
set_option maxRecDepth 20000 in
theorem qw_262 : qG (Cond.code yX4_build cX4_build 4 none) := ⟨List.mem_append_right _ (List.mem_append_right _ (List.mem_append_left _ (List.mem_of_getElem? (l := tables_1_2) (i := 174) rfl))), good_of_word (by decide +kernel)⟩
set_option maxRecDepth 20000 in
theorem qw_263 : qG (Cond.selects RX4 yX4_build yX4_build) := ⟨List.mem_append_right _ (List.mem_append_right _ (List.mem_append_left _ (List.mem_of_getElem? (l := tables_1_2) (i := 173) rfl))), good_of_word (by decide +kernel)⟩
set_option maxRecDepth 20000 in
theorem qw_264 : qG (Cond.instanceMethod yX4_build) := ⟨List.mem_append_right _ (List.mem_append_right _ (List.mem_append_left _ (List.mem_of_getElem? (l := tables_1_2) (i := 172) rfl))), good_of_word (by decide +kernel)⟩
set_option maxRecDepth 20000 in
theorem qw_265 : qG (Cond.methodLink RX5 251 yX4_build) := ⟨List.mem_append_right _ (List.mem_append_right _ (List.mem_append_left _ (List.mem_of_getElem? (l := tables_1_2) (i := 171) rfl))), good_of_word (by decide +kernel)⟩
set_option maxRecDepth 20000 in
theorem qw_266 : qG (Cond.code yX5_freshViews cX5_freshViews 1 (some (.object "BackLenses$Views"))) := ⟨List.mem_append_right _ (List.mem_append_right _ (List.mem_append_left _ (List.mem_of_getElem? (l := tables_1_2) (i := 170) rfl))), good_of_word (by decide +kernel)⟩
theorem qw_267 : qG (Cond.selects RX5 yX5_freshViews yX5_freshViews) := ⟨List.mem_append_left _ (List.mem_of_getElem? (i := 13) (by decide +kernel)), good_of_word (by decide +kernel)⟩
set_option maxRecDepth 20000 in
theorem qw_268 : qG (Cond.instanceMethod yX5_freshViews) := ⟨List.mem_append_right _ (List.mem_append_right _ (List.mem_append_left _ (List.mem_of_getElem? (l := tables_1_2) (i := 169) rfl))), good_of_word (by decide +kernel)⟩
set_option maxRecDepth 20000 in
theorem qw_269 : qG (Cond.methodLink RX5 112 yX5_freshViews) := ⟨List.mem_append_right _ (List.mem_append_right _ (List.mem_append_left _ (List.mem_of_getElem? (l := tables_1_2) (i := 167) rfl))), good_of_word (by decide +kernel)⟩
set_option maxRecDepth 20000 in
theorem qw_270 : qG (Cond.methodLink RX5 109 yX0_hasDay) := ⟨List.mem_append_right _ (List.mem_append_right _ (List.mem_append_left _ (List.mem_of_getElem? (l := tables_1_2) (i := 166) rfl))), good_of_word (by decide +kernel)⟩
set_option maxRecDepth 20000 in
theorem qw_271 : qG (Cond.methodLink RX5 105 yX0_hasCell) := ⟨List.mem_append_right _ (List.mem_append_right _ (List.mem_append_left _ (List.mem_of_getElem? (l := tables_1_2) (i := 165) rfl))), good_of_word (by decide +kernel)⟩
set_option maxRecDepth 20000 in
theorem qw_272 : qG (Cond.methodLink RX4 65 yX4_ray) := ⟨List.mem_append_right _ (List.mem_append_right _ (List.mem_append_left _ (List.mem_of_getElem? (l := tables_1_2) (i := 185) rfl))), good_of_word (by decide +kernel)⟩
set_option maxRecDepth 20000 in
theorem qw_273 : qG (Cond.code yX4_sight cX4_sight 5 (some .int)) := ⟨List.mem_append_right _ (List.mem_append_right _ (List.mem_append_left _ (List.mem_of_getElem? (l := tables_1_2) (i := 184) rfl))), good_of_word (by decide +kernel)⟩
theorem qw_274 : qG (Cond.selects RX4 yX4_sight yX4_sight) := ⟨List.mem_append_left _ (List.mem_of_getElem? (i := 15) (by decide +kernel)), good_of_word (by decide +kernel)⟩
set_option maxRecDepth 20000 in
theorem qw_275 : qG (Cond.instanceMethod yX4_sight) := ⟨List.mem_append_right _ (List.mem_append_right _ (List.mem_append_left _ (List.mem_of_getElem? (l := tables_1_2) (i := 183) rfl))), good_of_word (by decide +kernel)⟩
set_option maxRecDepth 20000 in
theorem qw_276 : qG (Cond.methodLink RX4 40 yX4_sight) := ⟨List.mem_append_right _ (List.mem_append_right _ (List.mem_append_left _ (List.mem_of_getElem? (l := tables_1_2) (i := 181) rfl))), good_of_word (by decide +kernel)⟩
set_option maxRecDepth 20000 in
theorem qw_277 : qG (Cond.methodLink RX4 62 yX2_number) := ⟨List.mem_append_right _ (List.mem_append_right _ (List.mem_append_left _ (List.mem_of_getElem? (l := tables_1_2) (i := 180) rfl))), good_of_word (by decide +kernel)⟩
set_option maxRecDepth 20000 in
theorem qw_278 : qG (Cond.methodLink RX4 47 arraycopyName) := ⟨List.mem_append_right _ (List.mem_append_right _ (List.mem_append_left _ (List.mem_of_getElem? (l := tables_1_2) (i := 179) rfl))), good_of_word (by decide +kernel)⟩
set_option maxRecDepth 20000 in
theorem qw_279 : qG (Cond.code yX4_buildMarks cX4_buildMarks 5 none) := ⟨List.mem_append_right _ (List.mem_append_right _ (List.mem_append_left _ (List.mem_of_getElem? (l := tables_1_2) (i := 178) rfl))), good_of_word (by decide +kernel)⟩
theorem qw_280 : qG (Cond.selects RX4 yX4_buildMarks yX4_buildMarks) := ⟨List.mem_append_left _ (List.mem_of_getElem? (i := 14) (by decide +kernel)), good_of_word (by decide +kernel)⟩
set_option maxRecDepth 20000 in
theorem qw_281 : qG (Cond.instanceMethod yX4_buildMarks) := ⟨List.mem_append_right _ (List.mem_append_right _ (List.mem_append_left _ (List.mem_of_getElem? (l := tables_1_2) (i := 177) rfl))), good_of_word (by decide +kernel)⟩
set_option maxRecDepth 20000 in
theorem qw_282 : qG (Cond.methodLink RX4 36 yX4_buildMarks) := ⟨List.mem_append_right _ (List.mem_append_right _ (List.mem_append_left _ (List.mem_of_getElem? (l := tables_1_2) (i := 175) rfl))), good_of_word (by decide +kernel)⟩
set_option maxRecDepth 20000 in
theorem qw_283 : qG (Cond.fieldLink RX4 32 "BackLenses$Views" "high" "I") := ⟨List.mem_append_right _ (List.mem_append_left _ (List.mem_of_getElem? (l := tables_1_1) (i := 101) rfl)), good_of_word (by decide +kernel)⟩
set_option maxRecDepth 20000 in
theorem qw_284 : qG (Cond.fieldLink RX4 28 "BackLenses$Views" "wide" "I") := ⟨List.mem_append_right _ (List.mem_append_left _ (List.mem_of_getElem? (l := tables_1_1) (i := 100) rfl)), good_of_word (by decide +kernel)⟩
set_option maxRecDepth 20000 in
theorem qw_285 : qG (Cond.code yX4_markOf cX4_markOf 3 (some .int)) := ⟨List.mem_append_right _ (List.mem_append_right _ (List.mem_append_left _ (List.mem_of_getElem? (l := tables_1_2) (i := 192) rfl))), good_of_word (by decide +kernel)⟩
set_option maxRecDepth 20000 in
theorem qw_286 : qG (Cond.selects RX4 yX4_markOf yX4_markOf) := ⟨List.mem_append_right _ (List.mem_append_right _ (List.mem_append_left _ (List.mem_of_getElem? (l := tables_1_2) (i := 191) rfl))), good_of_word (by decide +kernel)⟩
set_option maxRecDepth 20000 in
theorem qw_287 : qG (Cond.instanceMethod yX4_markOf) := ⟨List.mem_append_right _ (List.mem_append_right _ (List.mem_append_left _ (List.mem_of_getElem? (l := tables_1_2) (i := 190) rfl))), good_of_word (by decide +kernel)⟩
set_option maxRecDepth 20000 in
theorem qw_288 : qG (Cond.methodLink RX5 116 yX4_markOf) := ⟨List.mem_append_right _ (List.mem_append_right _ (List.mem_append_left _ (List.mem_of_getElem? (l := tables_1_2) (i := 189) rfl))), good_of_word (by decide +kernel)⟩
set_option maxRecDepth 20000 in
theorem qw_289 : qG (Cond.code yX4_ray cX4_ray 10 (some .int)) := ⟨List.mem_append_right _ (List.mem_append_right _ (List.mem_append_left _ (List.mem_of_getElem? (l := tables_1_2) (i := 188) rfl))), good_of_word (by decide +kernel)⟩
theorem qw_290 : qG (Cond.selects RX4 yX4_ray yX4_ray) := ⟨List.mem_append_left _ (List.mem_of_getElem? (i := 16) (by decide +kernel)), good_of_word (by decide +kernel)⟩
set_option maxRecDepth 20000 in
theorem qw_291 : qG (Cond.instanceMethod yX4_ray) := ⟨List.mem_append_right _ (List.mem_append_right _ (List.mem_append_left _ (List.mem_of_getElem? (l := tables_1_2) (i := 187) rfl))), good_of_word (by decide +kernel)⟩
set_option maxRecDepth 20000 in
theorem qw_292 : qG (Cond.code yX5_mark cX5_mark 3 (some .int)) := ⟨List.mem_append_right _ (List.mem_append_right _ (List.mem_append_left _ (List.mem_of_getElem? (l := tables_1_2) (i := 164) rfl))), good_of_word (by decide +kernel)⟩
set_option maxRecDepth 20000 in
theorem qw_293 : qG (Cond.selects RX5 yX5_mark yX5_mark) := ⟨List.mem_append_right _ (List.mem_append_right _ (List.mem_append_left _ (List.mem_of_getElem? (l := tables_1_2) (i := 163) rfl))), good_of_word (by decide +kernel)⟩
set_option maxRecDepth 20000 in
theorem qw_294 : qG (Cond.instanceMethod yX5_mark) := ⟨List.mem_append_right _ (List.mem_append_right _ (List.mem_append_left _ (List.mem_of_getElem? (l := tables_1_2) (i := 162) rfl))), good_of_word (by decide +kernel)⟩
set_option maxRecDepth 20000 in
theorem qw_295 : qG (Cond.methodLink RL 35 yX5_mark) := ⟨List.mem_append_right _ (List.mem_append_right _ (List.mem_append_left _ (List.mem_of_getElem? (l := tables_1_2) (i := 161) rfl))), good_of_word (by decide +kernel)⟩
set_option maxRecDepth 20000 in
theorem qw_296 : qG (Cond.methodLink RX5 123 yX2_number) := ⟨List.mem_append_right _ (List.mem_append_right _ (List.mem_append_left _ (List.mem_of_getElem? (l := tables_1_2) (i := 201) rfl))), good_of_word (by decide +kernel)⟩
set_option maxRecDepth 20000 in
theorem qw_297 : qG (Cond.code yX2_has cX2_has 2 (some .boolean)) := ⟨List.mem_append_right _ (List.mem_append_right _ (List.mem_append_left _ (List.mem_of_getElem? (l := tables_1_2) (i := 200) rfl))), good_of_word (by decide +kernel)⟩
set_option maxRecDepth 20000 in
theorem qw_298 : qG (Cond.selects RX2 yX2_has yX2_has) := ⟨List.mem_append_right _ (List.mem_append_right _ (List.mem_append_left _ (List.mem_of_getElem? (l := tables_1_2) (i := 199) rfl))), good_of_word (by decide +kernel)⟩
set_option maxRecDepth 20000 in
theorem qw_299 : qG (Cond.instanceMethod yX2_has) := ⟨List.mem_append_right _ (List.mem_append_right _ (List.mem_append_left _ (List.mem_of_getElem? (l := tables_1_2) (i := 198) rfl))), good_of_word (by decide +kernel)⟩
set_option maxRecDepth 20000 in
theorem qw_300 : qG (Cond.methodLink RX5 120 yX2_has) := ⟨List.mem_append_right _ (List.mem_append_right _ (List.mem_append_left _ (List.mem_of_getElem? (l := tables_1_2) (i := 197) rfl))), good_of_word (by decide +kernel)⟩
set_option maxRecDepth 20000 in
theorem qw_301 : qG (Cond.code yX5_change cX5_change 3 (some .int)) := ⟨List.mem_append_right _ (List.mem_append_right _ (List.mem_append_left _ (List.mem_of_getElem? (l := tables_1_2) (i := 196) rfl))), good_of_word (by decide +kernel)⟩
set_option maxRecDepth 20000 in
theorem qw_302 : qG (Cond.selects RX5 yX5_change yX5_change) := ⟨List.mem_append_right _ (List.mem_append_right _ (List.mem_append_left _ (List.mem_of_getElem? (l := tables_1_2) (i := 195) rfl))), good_of_word (by decide +kernel)⟩
set_option maxRecDepth 20000 in
theorem qw_303 : qG (Cond.instanceMethod yX5_change) := ⟨List.mem_append_right _ (List.mem_append_right _ (List.mem_append_left _ (List.mem_of_getElem? (l := tables_1_2) (i := 194) rfl))), good_of_word (by decide +kernel)⟩
set_option maxRecDepth 20000 in
theorem qw_304 : qG (Cond.methodLink RL 40 yX5_change) := ⟨List.mem_append_right _ (List.mem_append_right _ (List.mem_append_left _ (List.mem_of_getElem? (l := tables_1_2) (i := 193) rfl))), good_of_word (by decide +kernel)⟩
set_option maxRecDepth 20000 in
theorem qw_305 : qG (Cond.code yX5_isChoice cX5_isChoice 1 (some .boolean)) := ⟨List.mem_append_right _ (List.mem_append_right _ (List.mem_append_left _ (List.mem_of_getElem? (l := tables_1_2) (i := 208) rfl))), good_of_word (by decide +kernel)⟩
set_option maxRecDepth 20000 in
theorem qw_306 : qG (Cond.static yX5_isChoice) := ⟨List.mem_append_right _ (List.mem_append_right _ (List.mem_append_left _ (List.mem_of_getElem? (l := tables_1_2) (i := 207) rfl))), good_of_word (by decide +kernel)⟩
set_option maxRecDepth 20000 in
theorem qw_307 : qG (Cond.methodLink RX5 126 yX5_isChoice) := ⟨List.mem_append_right _ (List.mem_append_right _ (List.mem_append_left _ (List.mem_of_getElem? (l := tables_1_2) (i := 206) rfl))), good_of_word (by decide +kernel)⟩
set_option maxRecDepth 20000 in
theorem qw_308 : qG (Cond.code yX5_lens cX5_lens 3 (some .int)) := ⟨List.mem_append_right _ (List.mem_append_right _ (List.mem_append_left _ (List.mem_of_getElem? (l := tables_1_2) (i := 205) rfl))), good_of_word (by decide +kernel)⟩
set_option maxRecDepth 20000 in
theorem qw_309 : qG (Cond.selects RX5 yX5_lens yX5_lens) := ⟨List.mem_append_right _ (List.mem_append_right _ (List.mem_append_left _ (List.mem_of_getElem? (l := tables_1_2) (i := 204) rfl))), good_of_word (by decide +kernel)⟩
set_option maxRecDepth 20000 in
theorem qw_310 : qG (Cond.instanceMethod yX5_lens) := ⟨List.mem_append_right _ (List.mem_append_right _ (List.mem_append_left _ (List.mem_of_getElem? (l := tables_1_2) (i := 203) rfl))), good_of_word (by decide +kernel)⟩
set_option maxRecDepth 20000 in
theorem qw_311 : qG (Cond.methodLink RL 44 yX5_lens) := ⟨List.mem_append_right _ (List.mem_append_right _ (List.mem_append_left _ (List.mem_of_getElem? (l := tables_1_2) (i := 202) rfl))), good_of_word (by decide +kernel)⟩
set_option maxRecDepth 20000 in
theorem qw_312 : qG (Cond.code yX5_isMark cX5_isMark 1 (some .boolean)) := ⟨List.mem_append_right _ (List.mem_append_right _ (List.mem_append_left _ (List.mem_of_getElem? (l := tables_1_2) (i := 215) rfl))), good_of_word (by decide +kernel)⟩
set_option maxRecDepth 20000 in
theorem qw_313 : qG (Cond.static yX5_isMark) := ⟨List.mem_append_right _ (List.mem_append_right _ (List.mem_append_left _ (List.mem_of_getElem? (l := tables_1_2) (i := 214) rfl))), good_of_word (by decide +kernel)⟩
set_option maxRecDepth 20000 in
theorem qw_314 : qG (Cond.methodLink RX5 129 yX5_isMark) := ⟨List.mem_append_right _ (List.mem_append_right _ (List.mem_append_left _ (List.mem_of_getElem? (l := tables_1_2) (i := 213) rfl))), good_of_word (by decide +kernel)⟩
set_option maxRecDepth 20000 in
theorem qw_315 : qG (Cond.code yX5_first cX5_first 4 (some .int)) := ⟨List.mem_append_right _ (List.mem_append_right _ (List.mem_append_left _ (List.mem_of_getElem? (l := tables_1_2) (i := 212) rfl))), good_of_word (by decide +kernel)⟩
set_option maxRecDepth 20000 in
theorem qw_316 : qG (Cond.selects RX5 yX5_first yX5_first) := ⟨List.mem_append_right _ (List.mem_append_right _ (List.mem_append_left _ (List.mem_of_getElem? (l := tables_1_2) (i := 211) rfl))), good_of_word (by decide +kernel)⟩
set_option maxRecDepth 20000 in
theorem qw_317 : qG (Cond.instanceMethod yX5_first) := ⟨List.mem_append_right _ (List.mem_append_right _ (List.mem_append_left _ (List.mem_of_getElem? (l := tables_1_2) (i := 210) rfl))), good_of_word (by decide +kernel)⟩
set_option maxRecDepth 20000 in
theorem qw_318 : qG (Cond.methodLink RL 48 yX5_first) := ⟨List.mem_append_right _ (List.mem_append_right _ (List.mem_append_left _ (List.mem_of_getElem? (l := tables_1_2) (i := 209) rfl))), good_of_word (by decide +kernel)⟩
set_option maxRecDepth 20000 in
theorem qw_319 : qG (Cond.methodLink RX0 69 yX2_add) := ⟨List.mem_append_right _ (List.mem_append_right _ (List.mem_append_left _ (List.mem_of_getElem? (l := tables_1_2) (i := 227) rfl))), good_of_word (by decide +kernel)⟩
set_option maxRecDepth 20000 in
theorem qw_320 : qG (Cond.methodLink RX0 63 yX0_hasCell) := ⟨List.mem_append_right _ (List.mem_append_right _ (List.mem_append_left _ (List.mem_of_getElem? (l := tables_1_2) (i := 225) rfl))), good_of_word (by decide +kernel)⟩
set_option maxRecDepth 20000 in
theorem qw_321 : qG (Cond.methodLink RX0 59 yX0_hasDay) := ⟨List.mem_append_right _ (List.mem_append_right _ (List.mem_append_left _ (List.mem_of_getElem? (l := tables_1_2) (i := 224) rfl))), good_of_word (by decide +kernel)⟩
set_option maxRecDepth 20000 in
theorem qw_322 : qG (Cond.code yX0_takeChange cX0_takeChange 4 (some .int)) := ⟨List.mem_append_right _ (List.mem_append_right _ (List.mem_append_left _ (List.mem_of_getElem? (l := tables_1_2) (i := 223) rfl))), good_of_word (by decide +kernel)⟩
set_option maxRecDepth 20000 in
theorem qw_323 : qG (Cond.selects RX0 yX0_takeChange yX0_takeChange) := ⟨List.mem_append_right _ (List.mem_append_right _ (List.mem_append_left _ (List.mem_of_getElem? (l := tables_1_2) (i := 222) rfl))), good_of_word (by decide +kernel)⟩
set_option maxRecDepth 20000 in
theorem qw_324 : qG (Cond.instanceMethod yX0_takeChange) := ⟨List.mem_append_right _ (List.mem_append_right _ (List.mem_append_left _ (List.mem_of_getElem? (l := tables_1_2) (i := 221) rfl))), good_of_word (by decide +kernel)⟩
set_option maxRecDepth 20000 in
theorem qw_325 : qG (Cond.methodLink RX5 135 yX0_takeChange) := ⟨List.mem_append_right _ (List.mem_append_right _ (List.mem_append_left _ (List.mem_of_getElem? (l := tables_1_2) (i := 220) rfl))), good_of_word (by decide +kernel)⟩
set_option maxRecDepth 20000 in
theorem qw_326 : qG (Cond.code yX5_turn cX5_turn 5 (some .int)) := ⟨List.mem_append_right _ (List.mem_append_right _ (List.mem_append_left _ (List.mem_of_getElem? (l := tables_1_2) (i := 219) rfl))), good_of_word (by decide +kernel)⟩
set_option maxRecDepth 20000 in
theorem qw_327 : qG (Cond.selects RX5 yX5_turn yX5_turn) := ⟨List.mem_append_right _ (List.mem_append_right _ (List.mem_append_left _ (List.mem_of_getElem? (l := tables_1_2) (i := 218) rfl))), good_of_word (by decide +kernel)⟩
set_option maxRecDepth 20000 in
theorem qw_328 : qG (Cond.instanceMethod yX5_turn) := ⟨List.mem_append_right _ (List.mem_append_right _ (List.mem_append_left _ (List.mem_of_getElem? (l := tables_1_2) (i := 217) rfl))), good_of_word (by decide +kernel)⟩
set_option maxRecDepth 20000 in
theorem qw_329 : qG (Cond.methodLink RL 52 yX5_turn) := ⟨List.mem_append_right _ (List.mem_append_right _ (List.mem_append_left _ (List.mem_of_getElem? (l := tables_1_2) (i := 216) rfl))), good_of_word (by decide +kernel)⟩
set_option maxRecDepth 20000 in
theorem qw_330 : qG (Cond.code yX2_shorten cX2_shorten 3 (some .int)) := ⟨List.mem_append_right _ (List.mem_append_right _ (List.mem_append_left _ (List.mem_of_getElem? (l := tables_1_2) (i := 235) rfl))), good_of_word (by decide +kernel)⟩
set_option maxRecDepth 20000 in
theorem qw_331 : qG (Cond.selects RX2 yX2_shorten yX2_shorten) := ⟨List.mem_append_right _ (List.mem_append_right _ (List.mem_append_left _ (List.mem_of_getElem? (l := tables_1_2) (i := 234) rfl))), good_of_word (by decide +kernel)⟩
set_option maxRecDepth 20000 in
theorem qw_332 : qG (Cond.instanceMethod yX2_shorten) := ⟨List.mem_append_right _ (List.mem_append_right _ (List.mem_append_left _ (List.mem_of_getElem? (l := tables_1_2) (i := 233) rfl))), good_of_word (by decide +kernel)⟩
set_option maxRecDepth 20000 in
theorem qw_333 : qG (Cond.methodLink RX5 139 yX2_shorten) := ⟨List.mem_append_right _ (List.mem_append_right _ (List.mem_append_left _ (List.mem_of_getElem? (l := tables_1_2) (i := 232) rfl))), good_of_word (by decide +kernel)⟩
set_option maxRecDepth 20000 in
theorem qw_334 : qG (Cond.code yX5_cut cX5_cut 4 (some .int)) := ⟨List.mem_append_right _ (List.mem_append_right _ (List.mem_append_left _ (List.mem_of_getElem? (l := tables_1_2) (i := 231) rfl))), good_of_word (by decide +kernel)⟩
set_option maxRecDepth 20000 in
theorem qw_335 : qG (Cond.selects RX5 yX5_cut yX5_cut) := ⟨List.mem_append_right _ (List.mem_append_right _ (List.mem_append_left _ (List.mem_of_getElem? (l := tables_1_2) (i := 230) rfl))), good_of_word (by decide +kernel)⟩
set_option maxRecDepth 20000 in
theorem qw_336 : qG (Cond.instanceMethod yX5_cut) := ⟨List.mem_append_right _ (List.mem_append_right _ (List.mem_append_left _ (List.mem_of_getElem? (l := tables_1_2) (i := 229) rfl))), good_of_word (by decide +kernel)⟩
set_option maxRecDepth 20000 in
theorem qw_337 : qG (Cond.methodLink RL 57 yX5_cut) := ⟨List.mem_append_right _ (List.mem_append_right _ (List.mem_append_left _ (List.mem_of_getElem? (l := tables_1_2) (i := 228) rfl))), good_of_word (by decide +kernel)⟩
set_option maxRecDepth 20000 in
theorem qw_338 : qG (Cond.methodLink RX5 143 yX2_add) := ⟨List.mem_append_right _ (List.mem_append_right _ (List.mem_append_right _ (List.mem_append_left _ (List.mem_of_getElem? (l := tables_1_3) (i := 1) rfl)))), good_of_word (by decide +kernel)⟩
set_option maxRecDepth 20000 in
theorem qw_339 : qG (Cond.methodLink RX5 140 yX0_cells) := ⟨List.mem_append_right _ (List.mem_append_right _ (List.mem_append_right _ (List.mem_append_left _ (List.mem_of_getElem? (l := tables_1_3) (i := 0) rfl)))), good_of_word (by decide +kernel)⟩
set_option maxRecDepth 20000 in
theorem qw_340 : qG (Cond.code yX5_grind cX5_grind 3 (some .int)) := ⟨List.mem_append_right _ (List.mem_append_right _ (List.mem_append_left _ (List.mem_of_getElem? (l := tables_1_2) (i := 239) rfl))), good_of_word (by decide +kernel)⟩
set_option maxRecDepth 20000 in
theorem qw_341 : qG (Cond.selects RX5 yX5_grind yX5_grind) := ⟨List.mem_append_right _ (List.mem_append_right _ (List.mem_append_left _ (List.mem_of_getElem? (l := tables_1_2) (i := 238) rfl))), good_of_word (by decide +kernel)⟩
set_option maxRecDepth 20000 in
theorem qw_342 : qG (Cond.instanceMethod yX5_grind) := ⟨List.mem_append_right _ (List.mem_append_right _ (List.mem_append_left _ (List.mem_of_getElem? (l := tables_1_2) (i := 237) rfl))), good_of_word (by decide +kernel)⟩
set_option maxRecDepth 20000 in
theorem qw_343 : qG (Cond.methodLink RL 61 yX5_grind) := ⟨List.mem_append_right _ (List.mem_append_right _ (List.mem_append_left _ (List.mem_of_getElem? (l := tables_1_2) (i := 236) rfl))), good_of_word (by decide +kernel)⟩
set_option maxRecDepth 20000 in
theorem qw_344 : qG (Cond.code yX2_replace cX2_replace 5 (some .int)) := ⟨List.mem_append_right _ (List.mem_append_right _ (List.mem_append_right _ (List.mem_append_left _ (List.mem_of_getElem? (l := tables_1_3) (i := 9) rfl)))), good_of_word (by decide +kernel)⟩
set_option maxRecDepth 20000 in
theorem qw_345 : qG (Cond.selects RX2 yX2_replace yX2_replace) := ⟨List.mem_append_right _ (List.mem_append_right _ (List.mem_append_right _ (List.mem_append_left _ (List.mem_of_getElem? (l := tables_1_3) (i := 8) rfl)))), good_of_word (by decide +kernel)⟩
set_option maxRecDepth 20000 in
theorem qw_346 : qG (Cond.instanceMethod yX2_replace) := ⟨List.mem_append_right _ (List.mem_append_right _ (List.mem_append_right _ (List.mem_append_left _ (List.mem_of_getElem? (l := tables_1_3) (i := 7) rfl)))), good_of_word (by decide +kernel)⟩
set_option maxRecDepth 20000 in
theorem qw_347 : qG (Cond.methodLink RX5 146 yX2_replace) := ⟨List.mem_append_right _ (List.mem_append_right _ (List.mem_append_right _ (List.mem_append_left _ (List.mem_of_getElem? (l := tables_1_3) (i := 6) rfl)))), good_of_word (by decide +kernel)⟩
set_option maxRecDepth 20000 in
theorem qw_348 : qG (Cond.code yX5_regrind cX5_regrind 3 (some .int)) := ⟨List.mem_append_right _ (List.mem_append_right _ (List.mem_append_right _ (List.mem_append_left _ (List.mem_of_getElem? (l := tables_1_3) (i := 5) rfl)))), good_of_word (by decide +kernel)⟩
set_option maxRecDepth 20000 in
theorem qw_349 : qG (Cond.selects RX5 yX5_regrind yX5_regrind) := ⟨List.mem_append_right _ (List.mem_append_right _ (List.mem_append_right _ (List.mem_append_left _ (List.mem_of_getElem? (l := tables_1_3) (i := 4) rfl)))), good_of_word (by decide +kernel)⟩
set_option maxRecDepth 20000 in
theorem qw_350 : qG (Cond.instanceMethod yX5_regrind) := ⟨List.mem_append_right _ (List.mem_append_right _ (List.mem_append_right _ (List.mem_append_left _ (List.mem_of_getElem? (l := tables_1_3) (i := 3) rfl)))), good_of_word (by decide +kernel)⟩
set_option maxRecDepth 20000 in
theorem qw_351 : qG (Cond.methodLink RL 65 yX5_regrind) := ⟨List.mem_append_right _ (List.mem_append_right _ (List.mem_append_right _ (List.mem_append_left _ (List.mem_of_getElem? (l := tables_1_3) (i := 2) rfl)))), good_of_word (by decide +kernel)⟩
set_option maxRecDepth 20000 in
theorem qw_352 : qG (Cond.code yX5_crack cX5_crack 6 (some .int)) := ⟨List.mem_append_right _ (List.mem_append_right _ (List.mem_append_right _ (List.mem_append_left _ (List.mem_of_getElem? (l := tables_1_3) (i := 13) rfl)))), good_of_word (by decide +kernel)⟩
set_option maxRecDepth 20000 in
theorem qw_353 : qG (Cond.selects RX5 yX5_crack yX5_crack) := ⟨List.mem_append_right _ (List.mem_append_right _ (List.mem_append_right _ (List.mem_append_left _ (List.mem_of_getElem? (l := tables_1_3) (i := 12) rfl)))), good_of_word (by decide +kernel)⟩
set_option maxRecDepth 20000 in
theorem qw_354 : qG (Cond.instanceMethod yX5_crack) := ⟨List.mem_append_right _ (List.mem_append_right _ (List.mem_append_right _ (List.mem_append_left _ (List.mem_of_getElem? (l := tables_1_3) (i := 11) rfl)))), good_of_word (by decide +kernel)⟩
set_option maxRecDepth 20000 in
theorem qw_355 : qG (Cond.methodLink RL 69 yX5_crack) := ⟨List.mem_append_right _ (List.mem_append_right _ (List.mem_append_right _ (List.mem_append_left _ (List.mem_of_getElem? (l := tables_1_3) (i := 10) rfl)))), good_of_word (by decide +kernel)⟩
set_option maxRecDepth 20000 in
theorem qw_356 : qG (Cond.code yX4_sightOf cX4_sightOf 3 (some .int)) := ⟨List.mem_append_right _ (List.mem_append_right _ (List.mem_append_right _ (List.mem_append_left _ (List.mem_of_getElem? (l := tables_1_3) (i := 21) rfl)))), good_of_word (by decide +kernel)⟩
set_option maxRecDepth 20000 in
theorem qw_357 : qG (Cond.selects RX4 yX4_sightOf yX4_sightOf) := ⟨List.mem_append_right _ (List.mem_append_right _ (List.mem_append_right _ (List.mem_append_left _ (List.mem_of_getElem? (l := tables_1_3) (i := 20) rfl)))), good_of_word (by decide +kernel)⟩
set_option maxRecDepth 20000 in
theorem qw_358 : qG (Cond.instanceMethod yX4_sightOf) := ⟨List.mem_append_right _ (List.mem_append_right _ (List.mem_append_right _ (List.mem_append_left _ (List.mem_of_getElem? (l := tables_1_3) (i := 19) rfl)))), good_of_word (by decide +kernel)⟩
set_option maxRecDepth 20000 in
theorem qw_359 : qG (Cond.methodLink RX5 149 yX4_sightOf) := ⟨List.mem_append_right _ (List.mem_append_right _ (List.mem_append_right _ (List.mem_append_left _ (List.mem_of_getElem? (l := tables_1_3) (i := 18) rfl)))), good_of_word (by decide +kernel)⟩
set_option maxRecDepth 20000 in
theorem qw_360 : qG (Cond.code yX5_sees cX5_sees 3 (some .int)) := ⟨List.mem_append_right _ (List.mem_append_right _ (List.mem_append_right _ (List.mem_append_left _ (List.mem_of_getElem? (l := tables_1_3) (i := 17) rfl)))), good_of_word (by decide +kernel)⟩
set_option maxRecDepth 20000 in
theorem qw_361 : qG (Cond.selects RX5 yX5_sees yX5_sees) := ⟨List.mem_append_right _ (List.mem_append_right _ (List.mem_append_right _ (List.mem_append_left _ (List.mem_of_getElem? (l := tables_1_3) (i := 16) rfl)))), good_of_word (by decide +kernel)⟩
set_option maxRecDepth 20000 in
theorem qw_362 : qG (Cond.instanceMethod yX5_sees) := ⟨List.mem_append_right _ (List.mem_append_right _ (List.mem_append_right _ (List.mem_append_left _ (List.mem_of_getElem? (l := tables_1_3) (i := 15) rfl)))), good_of_word (by decide +kernel)⟩
set_option maxRecDepth 20000 in
theorem qw_363 : qG (Cond.methodLink RL 74 yX5_sees) := ⟨List.mem_append_right _ (List.mem_append_right _ (List.mem_append_right _ (List.mem_append_left _ (List.mem_of_getElem? (l := tables_1_3) (i := 14) rfl)))), good_of_word (by decide +kernel)⟩
set_option maxRecDepth 20000 in
theorem qw_364 : qG (Cond.code yX5_shownBy cX5_shownBy 3 (some .int)) := ⟨List.mem_append_right _ (List.mem_append_right _ (List.mem_append_right _ (List.mem_append_left _ (List.mem_of_getElem? (l := tables_1_3) (i := 29) rfl)))), good_of_word (by decide +kernel)⟩
theorem qw_365 : qG (Cond.selects RX5 yX5_shownBy yX5_shownBy) := ⟨List.mem_append_left _ (List.mem_of_getElem? (i := 17) (by decide +kernel)), good_of_word (by decide +kernel)⟩
set_option maxRecDepth 20000 in
theorem qw_366 : qG (Cond.instanceMethod yX5_shownBy) := ⟨List.mem_append_right _ (List.mem_append_right _ (List.mem_append_right _ (List.mem_append_left _ (List.mem_of_getElem? (l := tables_1_3) (i := 28) rfl)))), good_of_word (by decide +kernel)⟩
set_option maxRecDepth 20000 in
theorem qw_367 : qG (Cond.methodLink RX5 152 yX5_shownBy) := ⟨List.mem_append_right _ (List.mem_append_right _ (List.mem_append_right _ (List.mem_append_left _ (List.mem_of_getElem? (l := tables_1_3) (i := 26) rfl)))), good_of_word (by decide +kernel)⟩
set_option maxRecDepth 20000 in
theorem qw_368 : qG (Cond.code yX5_shows cX5_shows 4 (some .int)) := ⟨List.mem_append_right _ (List.mem_append_right _ (List.mem_append_right _ (List.mem_append_left _ (List.mem_of_getElem? (l := tables_1_3) (i := 25) rfl)))), good_of_word (by decide +kernel)⟩
set_option maxRecDepth 20000 in
theorem qw_369 : qG (Cond.selects RX5 yX5_shows yX5_shows) := ⟨List.mem_append_right _ (List.mem_append_right _ (List.mem_append_right _ (List.mem_append_left _ (List.mem_of_getElem? (l := tables_1_3) (i := 24) rfl)))), good_of_word (by decide +kernel)⟩
set_option maxRecDepth 20000 in
theorem qw_370 : qG (Cond.instanceMethod yX5_shows) := ⟨List.mem_append_right _ (List.mem_append_right _ (List.mem_append_right _ (List.mem_append_left _ (List.mem_of_getElem? (l := tables_1_3) (i := 23) rfl)))), good_of_word (by decide +kernel)⟩
set_option maxRecDepth 20000 in
theorem qw_371 : qG (Cond.methodLink RL 78 yX5_shows) := ⟨List.mem_append_right _ (List.mem_append_right _ (List.mem_append_right _ (List.mem_append_left _ (List.mem_of_getElem? (l := tables_1_3) (i := 22) rfl)))), good_of_word (by decide +kernel)⟩
set_option maxRecDepth 20000 in
theorem qw_372 : qG (Cond.methodLink RX4 72 yX4_markOf) := ⟨List.mem_append_right _ (List.mem_append_right _ (List.mem_append_right _ (List.mem_append_left _ (List.mem_of_getElem? (l := tables_1_3) (i := 38) rfl)))), good_of_word (by decide +kernel)⟩
set_option maxRecDepth 20000 in
theorem qw_373 : qG (Cond.code yX4_unlike cX4_unlike 5 (some .int)) := ⟨List.mem_append_right _ (List.mem_append_right _ (List.mem_append_right _ (List.mem_append_left _ (List.mem_of_getElem? (l := tables_1_3) (i := 37) rfl)))), good_of_word (by decide +kernel)⟩
set_option maxRecDepth 20000 in
theorem qw_374 : qG (Cond.selects RX4 yX4_unlike yX4_unlike) := ⟨List.mem_append_right _ (List.mem_append_right _ (List.mem_append_right _ (List.mem_append_left _ (List.mem_of_getElem? (l := tables_1_3) (i := 36) rfl)))), good_of_word (by decide +kernel)⟩
set_option maxRecDepth 20000 in
theorem qw_375 : qG (Cond.instanceMethod yX4_unlike) := ⟨List.mem_append_right _ (List.mem_append_right _ (List.mem_append_right _ (List.mem_append_left _ (List.mem_of_getElem? (l := tables_1_3) (i := 35) rfl)))), good_of_word (by decide +kernel)⟩
set_option maxRecDepth 20000 in
theorem qw_376 : qG (Cond.methodLink RX5 155 yX4_unlike) := ⟨List.mem_append_right _ (List.mem_append_right _ (List.mem_append_right _ (List.mem_append_left _ (List.mem_of_getElem? (l := tables_1_3) (i := 34) rfl)))), good_of_word (by decide +kernel)⟩
set_option maxRecDepth 20000 in
theorem qw_377 : qG (Cond.code yX5_frame cX5_frame 5 (some .int)) := ⟨List.mem_append_right _ (List.mem_append_right _ (List.mem_append_right _ (List.mem_append_left _ (List.mem_of_getElem? (l := tables_1_3) (i := 33) rfl)))), good_of_word (by decide +kernel)⟩
set_option maxRecDepth 20000 in
theorem qw_378 : qG (Cond.selects RX5 yX5_frame yX5_frame) := ⟨List.mem_append_right _ (List.mem_append_right _ (List.mem_append_right _ (List.mem_append_left _ (List.mem_of_getElem? (l := tables_1_3) (i := 32) rfl)))), good_of_word (by decide +kernel)⟩
set_option maxRecDepth 20000 in
theorem qw_379 : qG (Cond.instanceMethod yX5_frame) := ⟨List.mem_append_right _ (List.mem_append_right _ (List.mem_append_right _ (List.mem_append_left _ (List.mem_of_getElem? (l := tables_1_3) (i := 31) rfl)))), good_of_word (by decide +kernel)⟩
set_option maxRecDepth 20000 in
theorem qw_380 : qG (Cond.methodLink RL 82 yX5_frame) := ⟨List.mem_append_right _ (List.mem_append_right _ (List.mem_append_right _ (List.mem_append_left _ (List.mem_of_getElem? (l := tables_1_3) (i := 30) rfl)))), good_of_word (by decide +kernel)⟩
set_option maxRecDepth 20000 in
theorem qw_381 : qG (Cond.code yX5_between cX5_between 3 (some .int)) := ⟨List.mem_append_right _ (List.mem_append_right _ (List.mem_append_right _ (List.mem_append_left _ (List.mem_of_getElem? (l := tables_1_3) (i := 42) rfl)))), good_of_word (by decide +kernel)⟩
set_option maxRecDepth 20000 in
theorem qw_382 : qG (Cond.selects RX5 yX5_between yX5_between) := ⟨List.mem_append_right _ (List.mem_append_right _ (List.mem_append_right _ (List.mem_append_left _ (List.mem_of_getElem? (l := tables_1_3) (i := 41) rfl)))), good_of_word (by decide +kernel)⟩
set_option maxRecDepth 20000 in
theorem qw_383 : qG (Cond.instanceMethod yX5_between) := ⟨List.mem_append_right _ (List.mem_append_right _ (List.mem_append_right _ (List.mem_append_left _ (List.mem_of_getElem? (l := tables_1_3) (i := 40) rfl)))), good_of_word (by decide +kernel)⟩
set_option maxRecDepth 20000 in
theorem qw_384 : qG (Cond.methodLink RL 86 yX5_between) := ⟨List.mem_append_right _ (List.mem_append_right _ (List.mem_append_right _ (List.mem_append_left _ (List.mem_of_getElem? (l := tables_1_3) (i := 39) rfl)))), good_of_word (by decide +kernel)⟩
set_option maxRecDepth 20000 in
theorem qw_385 : qG (Cond.code yX4_cellsWith cX4_cellsWith 5 (some .int)) := ⟨List.mem_append_right _ (List.mem_append_right _ (List.mem_append_right _ (List.mem_append_left _ (List.mem_of_getElem? (l := tables_1_3) (i := 50) rfl)))), good_of_word (by decide +kernel)⟩
set_option maxRecDepth 20000 in
theorem qw_386 : qG (Cond.selects RX4 yX4_cellsWith yX4_cellsWith) := ⟨List.mem_append_right _ (List.mem_append_right _ (List.mem_append_right _ (List.mem_append_left _ (List.mem_of_getElem? (l := tables_1_3) (i := 49) rfl)))), good_of_word (by decide +kernel)⟩
set_option maxRecDepth 20000 in
theorem qw_387 : qG (Cond.instanceMethod yX4_cellsWith) := ⟨List.mem_append_right _ (List.mem_append_right _ (List.mem_append_right _ (List.mem_append_left _ (List.mem_of_getElem? (l := tables_1_3) (i := 48) rfl)))), good_of_word (by decide +kernel)⟩
set_option maxRecDepth 20000 in
theorem qw_388 : qG (Cond.methodLink RX5 158 yX4_cellsWith) := ⟨List.mem_append_right _ (List.mem_append_right _ (List.mem_append_right _ (List.mem_append_left _ (List.mem_of_getElem? (l := tables_1_3) (i := 47) rfl)))), good_of_word (by decide +kernel)⟩
set_option maxRecDepth 20000 in
theorem qw_389 : qG (Cond.code yX5_all cX5_all 3 (some .int)) := ⟨List.mem_append_right _ (List.mem_append_right _ (List.mem_append_right _ (List.mem_append_left _ (List.mem_of_getElem? (l := tables_1_3) (i := 46) rfl)))), good_of_word (by decide +kernel)⟩
set_option maxRecDepth 20000 in
theorem qw_390 : qG (Cond.selects RX5 yX5_all yX5_all) := ⟨List.mem_append_right _ (List.mem_append_right _ (List.mem_append_right _ (List.mem_append_left _ (List.mem_of_getElem? (l := tables_1_3) (i := 45) rfl)))), good_of_word (by decide +kernel)⟩
set_option maxRecDepth 20000 in
theorem qw_391 : qG (Cond.instanceMethod yX5_all) := ⟨List.mem_append_right _ (List.mem_append_right _ (List.mem_append_right _ (List.mem_append_left _ (List.mem_of_getElem? (l := tables_1_3) (i := 44) rfl)))), good_of_word (by decide +kernel)⟩
set_option maxRecDepth 20000 in
theorem qw_392 : qG (Cond.methodLink RL 90 yX5_all) := ⟨List.mem_append_right _ (List.mem_append_right _ (List.mem_append_right _ (List.mem_append_left _ (List.mem_of_getElem? (l := tables_1_3) (i := 43) rfl)))), good_of_word (by decide +kernel)⟩
set_option maxRecDepth 20000 in
theorem qw_393 : qG (Cond.code yX5_since cX5_since 9 (some .int)) := ⟨List.mem_append_right _ (List.mem_append_right _ (List.mem_append_right _ (List.mem_append_left _ (List.mem_of_getElem? (l := tables_1_3) (i := 54) rfl)))), good_of_word (by decide +kernel)⟩
set_option maxRecDepth 20000 in
theorem qw_394 : qG (Cond.selects RX5 yX5_since yX5_since) := ⟨List.mem_append_right _ (List.mem_append_right _ (List.mem_append_right _ (List.mem_append_left _ (List.mem_of_getElem? (l := tables_1_3) (i := 53) rfl)))), good_of_word (by decide +kernel)⟩
set_option maxRecDepth 20000 in
theorem qw_395 : qG (Cond.instanceMethod yX5_since) := ⟨List.mem_append_right _ (List.mem_append_right _ (List.mem_append_right _ (List.mem_append_left _ (List.mem_of_getElem? (l := tables_1_3) (i := 52) rfl)))), good_of_word (by decide +kernel)⟩
set_option maxRecDepth 20000 in
theorem qw_396 : qG (Cond.methodLink RL 94 yX5_since) := ⟨List.mem_append_right _ (List.mem_append_right _ (List.mem_append_right _ (List.mem_append_left _ (List.mem_of_getElem? (l := tables_1_3) (i := 51) rfl)))), good_of_word (by decide +kernel)⟩
set_option maxRecDepth 20000 in
theorem qw_397 : qG (Cond.code yX5_again cX5_again 5 (some .int)) := ⟨List.mem_append_right _ (List.mem_append_right _ (List.mem_append_right _ (List.mem_append_left _ (List.mem_of_getElem? (l := tables_1_3) (i := 58) rfl)))), good_of_word (by decide +kernel)⟩
set_option maxRecDepth 20000 in
theorem qw_398 : qG (Cond.selects RX5 yX5_again yX5_again) := ⟨List.mem_append_right _ (List.mem_append_right _ (List.mem_append_right _ (List.mem_append_left _ (List.mem_of_getElem? (l := tables_1_3) (i := 57) rfl)))), good_of_word (by decide +kernel)⟩
set_option maxRecDepth 20000 in
theorem qw_399 : qG (Cond.instanceMethod yX5_again) := ⟨List.mem_append_right _ (List.mem_append_right _ (List.mem_append_right _ (List.mem_append_left _ (List.mem_of_getElem? (l := tables_1_3) (i := 56) rfl)))), good_of_word (by decide +kernel)⟩
set_option maxRecDepth 20000 in
theorem qw_400 : qG (Cond.methodLink RL 98 yX5_again) := ⟨List.mem_append_right _ (List.mem_append_right _ (List.mem_append_right _ (List.mem_append_left _ (List.mem_of_getElem? (l := tables_1_3) (i := 55) rfl)))), good_of_word (by decide +kernel)⟩
set_option maxRecDepth 20000 in
theorem qw_401 : qG (Cond.code yX5_show cX5_show 4 (some .int)) := ⟨List.mem_append_right _ (List.mem_append_right _ (List.mem_append_right _ (List.mem_append_left _ (List.mem_of_getElem? (l := tables_1_3) (i := 62) rfl)))), good_of_word (by decide +kernel)⟩
set_option maxRecDepth 20000 in
theorem qw_402 : qG (Cond.selects RX5 yX5_show yX5_show) := ⟨List.mem_append_right _ (List.mem_append_right _ (List.mem_append_right _ (List.mem_append_left _ (List.mem_of_getElem? (l := tables_1_3) (i := 61) rfl)))), good_of_word (by decide +kernel)⟩
set_option maxRecDepth 20000 in
theorem qw_403 : qG (Cond.instanceMethod yX5_show) := ⟨List.mem_append_right _ (List.mem_append_right _ (List.mem_append_right _ (List.mem_append_left _ (List.mem_of_getElem? (l := tables_1_3) (i := 60) rfl)))), good_of_word (by decide +kernel)⟩
set_option maxRecDepth 20000 in
theorem qw_404 : qG (Cond.methodLink RL 102 yX5_show) := ⟨List.mem_append_right _ (List.mem_append_right _ (List.mem_append_right _ (List.mem_append_left _ (List.mem_of_getElem? (l := tables_1_3) (i := 59) rfl)))), good_of_word (by decide +kernel)⟩
set_option maxRecDepth 20000 in
theorem qw_405 : qG (Cond.code yX5_forget cX5_forget 2 (some .int)) := ⟨List.mem_append_right _ (List.mem_append_right _ (List.mem_append_right _ (List.mem_append_left _ (List.mem_of_getElem? (l := tables_1_3) (i := 66) rfl)))), good_of_word (by decide +kernel)⟩
set_option maxRecDepth 20000 in
theorem qw_406 : qG (Cond.selects RX5 yX5_forget yX5_forget) := ⟨List.mem_append_right _ (List.mem_append_right _ (List.mem_append_right _ (List.mem_append_left _ (List.mem_of_getElem? (l := tables_1_3) (i := 65) rfl)))), good_of_word (by decide +kernel)⟩
set_option maxRecDepth 20000 in
theorem qw_407 : qG (Cond.instanceMethod yX5_forget) := ⟨List.mem_append_right _ (List.mem_append_right _ (List.mem_append_right _ (List.mem_append_left _ (List.mem_of_getElem? (l := tables_1_3) (i := 64) rfl)))), good_of_word (by decide +kernel)⟩
set_option maxRecDepth 20000 in
theorem qw_408 : qG (Cond.methodLink RL 106 yX5_forget) := ⟨List.mem_append_right _ (List.mem_append_right _ (List.mem_append_right _ (List.mem_append_left _ (List.mem_of_getElem? (l := tables_1_3) (i := 63) rfl)))), good_of_word (by decide +kernel)⟩
set_option maxRecDepth 20000 in
theorem qw_409 : qG (Cond.code yX5_fitting cX5_fitting 8 (some .int)) := ⟨List.mem_append_right _ (List.mem_append_right _ (List.mem_append_right _ (List.mem_append_left _ (List.mem_of_getElem? (l := tables_1_3) (i := 74) rfl)))), good_of_word (by decide +kernel)⟩
theorem qw_410 : qG (Cond.selects RX5 yX5_fitting yX5_fitting) := ⟨List.mem_append_left _ (List.mem_of_getElem? (i := 18) (by decide +kernel)), good_of_word (by decide +kernel)⟩
set_option maxRecDepth 20000 in
theorem qw_411 : qG (Cond.instanceMethod yX5_fitting) := ⟨List.mem_append_right _ (List.mem_append_right _ (List.mem_append_right _ (List.mem_append_left _ (List.mem_of_getElem? (l := tables_1_3) (i := 73) rfl)))), good_of_word (by decide +kernel)⟩
set_option maxRecDepth 20000 in
theorem qw_412 : qG (Cond.methodLink RX5 164 yX5_fitting) := ⟨List.mem_append_right _ (List.mem_append_right _ (List.mem_append_right _ (List.mem_append_left _ (List.mem_of_getElem? (l := tables_1_3) (i := 71) rfl)))), good_of_word (by decide +kernel)⟩
set_option maxRecDepth 20000 in
theorem qw_413 : qG (Cond.code yX4_answerOf cX4_answerOf 4 (some .int)) := ⟨List.mem_append_right _ (List.mem_append_right _ (List.mem_append_right _ (List.mem_append_left _ (List.mem_of_getElem? (l := tables_1_3) (i := 78) rfl)))), good_of_word (by decide +kernel)⟩
set_option maxRecDepth 20000 in
theorem qw_414 : qG (Cond.selects RX4 yX4_answerOf yX4_answerOf) := ⟨List.mem_append_right _ (List.mem_append_right _ (List.mem_append_right _ (List.mem_append_left _ (List.mem_of_getElem? (l := tables_1_3) (i := 77) rfl)))), good_of_word (by decide +kernel)⟩
set_option maxRecDepth 20000 in
theorem qw_415 : qG (Cond.instanceMethod yX4_answerOf) := ⟨List.mem_append_right _ (List.mem_append_right _ (List.mem_append_right _ (List.mem_append_left _ (List.mem_of_getElem? (l := tables_1_3) (i := 76) rfl)))), good_of_word (by decide +kernel)⟩
set_option maxRecDepth 20000 in
theorem qw_416 : qG (Cond.methodLink RX5 254 yX4_answerOf) := ⟨List.mem_append_right _ (List.mem_append_right _ (List.mem_append_right _ (List.mem_append_left _ (List.mem_of_getElem? (l := tables_1_3) (i := 75) rfl)))), good_of_word (by decide +kernel)⟩
set_option maxRecDepth 20000 in
theorem qw_417 : qG (Cond.methodLink RX4 69 yX4_sightOf) := ⟨List.mem_append_right _ (List.mem_append_right _ (List.mem_append_right _ (List.mem_append_left _ (List.mem_of_getElem? (l := tables_1_3) (i := 79) rfl)))), good_of_word (by decide +kernel)⟩
set_option maxRecDepth 20000 in
theorem qw_418 : qG (Cond.code yX5_days cX5_days 1 (some .int)) := ⟨List.mem_append_right _ (List.mem_append_right _ (List.mem_append_right _ (List.mem_append_left _ (List.mem_of_getElem? (l := tables_1_3) (i := 70) rfl)))), good_of_word (by decide +kernel)⟩
set_option maxRecDepth 20000 in
theorem qw_419 : qG (Cond.selects RX5 yX5_days yX5_days) := ⟨List.mem_append_right _ (List.mem_append_right _ (List.mem_append_right _ (List.mem_append_left _ (List.mem_of_getElem? (l := tables_1_3) (i := 69) rfl)))), good_of_word (by decide +kernel)⟩
set_option maxRecDepth 20000 in
theorem qw_420 : qG (Cond.instanceMethod yX5_days) := ⟨List.mem_append_right _ (List.mem_append_right _ (List.mem_append_right _ (List.mem_append_left _ (List.mem_of_getElem? (l := tables_1_3) (i := 68) rfl)))), good_of_word (by decide +kernel)⟩
set_option maxRecDepth 20000 in
theorem qw_421 : qG (Cond.methodLink RL 110 yX5_days) := ⟨List.mem_append_right _ (List.mem_append_right _ (List.mem_append_right _ (List.mem_append_left _ (List.mem_of_getElem? (l := tables_1_3) (i := 67) rfl)))), good_of_word (by decide +kernel)⟩
set_option maxRecDepth 20000 in
theorem qw_422 : qG (Cond.code yX5_lie cX5_lie 2 (some .int)) := ⟨List.mem_append_right _ (List.mem_append_right _ (List.mem_append_right _ (List.mem_append_left _ (List.mem_of_getElem? (l := tables_1_3) (i := 83) rfl)))), good_of_word (by decide +kernel)⟩
set_option maxRecDepth 20000 in
theorem qw_423 : qG (Cond.selects RX5 yX5_lie yX5_lie) := ⟨List.mem_append_right _ (List.mem_append_right _ (List.mem_append_right _ (List.mem_append_left _ (List.mem_of_getElem? (l := tables_1_3) (i := 82) rfl)))), good_of_word (by decide +kernel)⟩
set_option maxRecDepth 20000 in
theorem qw_424 : qG (Cond.instanceMethod yX5_lie) := ⟨List.mem_append_right _ (List.mem_append_right _ (List.mem_append_right _ (List.mem_append_left _ (List.mem_of_getElem? (l := tables_1_3) (i := 81) rfl)))), good_of_word (by decide +kernel)⟩
set_option maxRecDepth 20000 in
theorem qw_425 : qG (Cond.methodLink RL 114 yX5_lie) := ⟨List.mem_append_right _ (List.mem_append_right _ (List.mem_append_right _ (List.mem_append_left _ (List.mem_of_getElem? (l := tables_1_3) (i := 80) rfl)))), good_of_word (by decide +kernel)⟩
set_option maxRecDepth 20000 in
theorem qw_426 : qG (Cond.constant RJ6 267 (252645135)) := ⟨List.mem_append_right _ (List.mem_append_right _ (List.mem_append_right _ (List.mem_append_left _ (List.mem_of_getElem? (l := tables_1_3) (i := 93) rfl)))), good_of_word (by decide +kernel)⟩
set_option maxRecDepth 20000 in
theorem qw_427 : qG (Cond.constant RJ6 266 (858993459)) := ⟨List.mem_append_right _ (List.mem_append_right _ (List.mem_append_right _ (List.mem_append_left _ (List.mem_of_getElem? (l := tables_1_3) (i := 92) rfl)))), good_of_word (by decide +kernel)⟩
set_option maxRecDepth 20000 in
theorem qw_428 : qG (Cond.constant RJ6 265 (1431655765)) := ⟨List.mem_append_right _ (List.mem_append_right _ (List.mem_append_right _ (List.mem_append_left _ (List.mem_of_getElem? (l := tables_1_3) (i := 91) rfl)))), good_of_word (by decide +kernel)⟩
set_option maxRecDepth 20000 in
theorem qw_429 : qG (Cond.code yJ6_bitCount_0f7a4 cJ6_bitCount_0f7a4 1 (some .int)) := ⟨List.mem_append_right _ (List.mem_append_right _ (List.mem_append_right _ (List.mem_append_left _ (List.mem_of_getElem? (l := tables_1_3) (i := 90) rfl)))), good_of_word (by decide +kernel)⟩
set_option maxRecDepth 20000 in
theorem qw_430 : qG (Cond.initialized RJ6) := ⟨List.mem_append_right _ (List.mem_append_left _ (List.mem_of_getElem? (l := tables_1_1) (i := 14) rfl)), good_of_word (by decide +kernel)⟩
set_option maxRecDepth 20000 in
theorem qw_431 : qG (Cond.static yJ6_bitCount_0f7a4) := ⟨List.mem_append_right _ (List.mem_append_right _ (List.mem_append_right _ (List.mem_append_left _ (List.mem_of_getElem? (l := tables_1_3) (i := 89) rfl)))), good_of_word (by decide +kernel)⟩
set_option maxRecDepth 20000 in
theorem qw_432 : qG (Cond.methodLink RX5 167 yJ6_bitCount_0f7a4) := ⟨List.mem_append_right _ (List.mem_append_right _ (List.mem_append_right _ (List.mem_append_left _ (List.mem_of_getElem? (l := tables_1_3) (i := 88) rfl)))), good_of_word (by decide +kernel)⟩
set_option maxRecDepth 20000 in
theorem qw_433 : qG (Cond.methodLink RX5 257 yJ7_fill_53178) := ⟨List.mem_append_right _ (List.mem_append_right _ (List.mem_append_right _ (List.mem_append_left _ (List.mem_of_getElem? (l := tables_1_3) (i := 98) rfl)))), good_of_word (by decide +kernel)⟩
set_option maxRecDepth 20000 in
theorem qw_434 : qG (Cond.code Lib.Math.max.name Lib.Math.max.code 2 (some .int)) := ⟨List.mem_append_right _ (List.mem_append_right _ (List.mem_append_right _ (List.mem_append_left _ (List.mem_of_getElem? (l := tables_1_3) (i := 101) rfl)))), good_of_word (by decide +kernel)⟩
set_option maxRecDepth 20000 in
theorem qw_435 : qG (Cond.initialized "java/lang/Math") := ⟨List.mem_append_right _ (List.mem_append_left _ (List.mem_of_getElem? (l := tables_1_1) (i := 15) rfl)), good_of_word (by decide +kernel)⟩
set_option maxRecDepth 20000 in
theorem qw_436 : qG (Cond.static Lib.Math.max.name) := ⟨List.mem_append_right _ (List.mem_append_right _ (List.mem_append_right _ (List.mem_append_left _ (List.mem_of_getElem? (l := tables_1_3) (i := 100) rfl)))), good_of_word (by decide +kernel)⟩
set_option maxRecDepth 20000 in
theorem qw_437 : qG (Cond.methodLink RX5 263 Lib.Math.max.name) := ⟨List.mem_append_right _ (List.mem_append_right _ (List.mem_append_right _ (List.mem_append_left _ (List.mem_of_getElem? (l := tables_1_3) (i := 99) rfl)))), good_of_word (by decide +kernel)⟩
set_option maxRecDepth 20000 in
theorem qw_438 : qG (Cond.code yX5_leftAtWorst cX5_leftAtWorst 9 (some .int)) := ⟨List.mem_append_right _ (List.mem_append_right _ (List.mem_append_right _ (List.mem_append_left _ (List.mem_of_getElem? (l := tables_1_3) (i := 97) rfl)))), good_of_word (by decide +kernel)⟩
theorem qw_439 : qG (Cond.selects RX5 yX5_leftAtWorst yX5_leftAtWorst) := ⟨List.mem_append_left _ (List.mem_of_getElem? (i := 19) (by decide +kernel)), good_of_word (by decide +kernel)⟩
set_option maxRecDepth 20000 in
theorem qw_440 : qG (Cond.instanceMethod yX5_leftAtWorst) := ⟨List.mem_append_right _ (List.mem_append_right _ (List.mem_append_right _ (List.mem_append_left _ (List.mem_of_getElem? (l := tables_1_3) (i := 96) rfl)))), good_of_word (by decide +kernel)⟩
set_option maxRecDepth 20000 in
theorem qw_441 : qG (Cond.methodLink RX5 172 yX5_leftAtWorst) := ⟨List.mem_append_right _ (List.mem_append_right _ (List.mem_append_right _ (List.mem_append_left _ (List.mem_of_getElem? (l := tables_1_3) (i := 94) rfl)))), good_of_word (by decide +kernel)⟩
set_option maxRecDepth 20000 in
theorem qw_442 : qG (Cond.code yX5_look cX5_look 9 (some .int)) := ⟨List.mem_append_right _ (List.mem_append_right _ (List.mem_append_right _ (List.mem_append_left _ (List.mem_of_getElem? (l := tables_1_3) (i := 87) rfl)))), good_of_word (by decide +kernel)⟩
set_option maxRecDepth 20000 in
theorem qw_443 : qG (Cond.selects RX5 yX5_look yX5_look) := ⟨List.mem_append_right _ (List.mem_append_right _ (List.mem_append_right _ (List.mem_append_left _ (List.mem_of_getElem? (l := tables_1_3) (i := 86) rfl)))), good_of_word (by decide +kernel)⟩
set_option maxRecDepth 20000 in
theorem qw_444 : qG (Cond.instanceMethod yX5_look) := ⟨List.mem_append_right _ (List.mem_append_right _ (List.mem_append_right _ (List.mem_append_left _ (List.mem_of_getElem? (l := tables_1_3) (i := 85) rfl)))), good_of_word (by decide +kernel)⟩
set_option maxRecDepth 20000 in
theorem qw_445 : qG (Cond.methodLink RL 118 yX5_look) := ⟨List.mem_append_right _ (List.mem_append_right _ (List.mem_append_right _ (List.mem_append_left _ (List.mem_of_getElem? (l := tables_1_3) (i := 84) rfl)))), good_of_word (by decide +kernel)⟩
set_option maxRecDepth 20000 in
theorem qw_446 : qG (Cond.constantLong RX5 177 (-4)) := ⟨List.mem_append_right _ (List.mem_append_right _ (List.mem_append_right _ (List.mem_append_left _ (List.mem_of_getElem? (l := tables_1_3) (i := 107) rfl)))), good_of_word (by decide +kernel)⟩
set_option maxRecDepth 20000 in
theorem qw_447 : qG (Cond.constantLong RX5 175 (-1)) := ⟨List.mem_append_right _ (List.mem_append_right _ (List.mem_append_right _ (List.mem_append_left _ (List.mem_of_getElem? (l := tables_1_3) (i := 106) rfl)))), good_of_word (by decide +kernel)⟩
set_option maxRecDepth 20000 in
theorem qw_448 : qG (Cond.code yX5_fractionPart cX5_fractionPart 12 (some .long)) := ⟨List.mem_append_right _ (List.mem_append_right _ (List.mem_append_right _ (List.mem_append_left _ (List.mem_of_getElem? (l := tables_1_3) (i := 110) rfl)))), good_of_word (by decide +kernel)⟩
set_option maxRecDepth 20000 in
theorem qw_449 : qG (Cond.static yX5_fractionPart) := ⟨List.mem_append_right _ (List.mem_append_right _ (List.mem_append_right _ (List.mem_append_left _ (List.mem_of_getElem? (l := tables_1_3) (i := 109) rfl)))), good_of_word (by decide +kernel)⟩
set_option maxRecDepth 20000 in
theorem qw_450 : qG (Cond.methodLink RX5 179 yX5_fractionPart) := ⟨List.mem_append_right _ (List.mem_append_right _ (List.mem_append_right _ (List.mem_append_left _ (List.mem_of_getElem? (l := tables_1_3) (i := 108) rfl)))), good_of_word (by decide +kernel)⟩
set_option maxRecDepth 20000 in
theorem qw_451 : qG (Cond.code yX5_likely cX5_likely 8 (some .long)) := ⟨List.mem_append_right _ (List.mem_append_right _ (List.mem_append_right _ (List.mem_append_left _ (List.mem_of_getElem? (l := tables_1_3) (i := 105) rfl)))), good_of_word (by decide +kernel)⟩
set_option maxRecDepth 20000 in
theorem qw_452 : qG (Cond.selects RX5 yX5_likely yX5_likely) := ⟨List.mem_append_right _ (List.mem_append_right _ (List.mem_append_right _ (List.mem_append_left _ (List.mem_of_getElem? (l := tables_1_3) (i := 104) rfl)))), good_of_word (by decide +kernel)⟩
set_option maxRecDepth 20000 in
theorem qw_453 : qG (Cond.instanceMethod yX5_likely) := ⟨List.mem_append_right _ (List.mem_append_right _ (List.mem_append_right _ (List.mem_append_left _ (List.mem_of_getElem? (l := tables_1_3) (i := 103) rfl)))), good_of_word (by decide +kernel)⟩
set_option maxRecDepth 20000 in
theorem qw_454 : qG (Cond.methodLink RL 122 yX5_likely) := ⟨List.mem_append_right _ (List.mem_append_right _ (List.mem_append_right _ (List.mem_append_left _ (List.mem_of_getElem? (l := tables_1_3) (i := 102) rfl)))), good_of_word (by decide +kernel)⟩
set_option maxRecDepth 20000 in
theorem qw_455 : qG (Cond.code yX5_could cX5_could 4 (some .int)) := ⟨List.mem_append_right _ (List.mem_append_right _ (List.mem_append_right _ (List.mem_append_left _ (List.mem_of_getElem? (l := tables_1_3) (i := 114) rfl)))), good_of_word (by decide +kernel)⟩
set_option maxRecDepth 20000 in
theorem qw_456 : qG (Cond.selects RX5 yX5_could yX5_could) := ⟨List.mem_append_right _ (List.mem_append_right _ (List.mem_append_right _ (List.mem_append_left _ (List.mem_of_getElem? (l := tables_1_3) (i := 113) rfl)))), good_of_word (by decide +kernel)⟩
set_option maxRecDepth 20000 in
theorem qw_457 : qG (Cond.instanceMethod yX5_could) := ⟨List.mem_append_right _ (List.mem_append_right _ (List.mem_append_right _ (List.mem_append_left _ (List.mem_of_getElem? (l := tables_1_3) (i := 112) rfl)))), good_of_word (by decide +kernel)⟩
set_option maxRecDepth 20000 in
theorem qw_458 : qG (Cond.methodLink RL 127 yX5_could) := ⟨List.mem_append_right _ (List.mem_append_right _ (List.mem_append_right _ (List.mem_append_left _ (List.mem_of_getElem? (l := tables_1_3) (i := 111) rfl)))), good_of_word (by decide +kernel)⟩
set_option maxRecDepth 20000 in
theorem qw_459 : qG (Cond.methodLink RX4 75 yX4_unlike) := ⟨List.mem_append_right _ (List.mem_append_right _ (List.mem_append_right _ (List.mem_append_left _ (List.mem_of_getElem? (l := tables_1_3) (i := 123) rfl)))), good_of_word (by decide +kernel)⟩
set_option maxRecDepth 20000 in
theorem qw_460 : qG (Cond.code yX4_tellingApart cX4_tellingApart 7 (some .int)) := ⟨List.mem_append_right _ (List.mem_append_right _ (List.mem_append_right _ (List.mem_append_left _ (List.mem_of_getElem? (l := tables_1_3) (i := 122) rfl)))), good_of_word (by decide +kernel)⟩
set_option maxRecDepth 20000 in
theorem qw_461 : qG (Cond.selects RX4 yX4_tellingApart yX4_tellingApart) := ⟨List.mem_append_right _ (List.mem_append_right _ (List.mem_append_right _ (List.mem_append_left _ (List.mem_of_getElem? (l := tables_1_3) (i := 121) rfl)))), good_of_word (by decide +kernel)⟩
set_option maxRecDepth 20000 in
theorem qw_462 : qG (Cond.instanceMethod yX4_tellingApart) := ⟨List.mem_append_right _ (List.mem_append_right _ (List.mem_append_right _ (List.mem_append_left _ (List.mem_of_getElem? (l := tables_1_3) (i := 120) rfl)))), good_of_word (by decide +kernel)⟩
set_option maxRecDepth 20000 in
theorem qw_463 : qG (Cond.methodLink RX5 183 yX4_tellingApart) := ⟨List.mem_append_right _ (List.mem_append_right _ (List.mem_append_right _ (List.mem_append_left _ (List.mem_of_getElem? (l := tables_1_3) (i := 119) rfl)))), good_of_word (by decide +kernel)⟩
set_option maxRecDepth 20000 in
theorem qw_464 : qG (Cond.code yX5_apart cX5_apart 3 (some .int)) := ⟨List.mem_append_right _ (List.mem_append_right _ (List.mem_append_right _ (List.mem_append_left _ (List.mem_of_getElem? (l := tables_1_3) (i := 118) rfl)))), good_of_word (by decide +kernel)⟩
set_option maxRecDepth 20000 in
theorem qw_465 : qG (Cond.selects RX5 yX5_apart yX5_apart) := ⟨List.mem_append_right _ (List.mem_append_right _ (List.mem_append_right _ (List.mem_append_left _ (List.mem_of_getElem? (l := tables_1_3) (i := 117) rfl)))), good_of_word (by decide +kernel)⟩
set_option maxRecDepth 20000 in
theorem qw_466 : qG (Cond.instanceMethod yX5_apart) := ⟨List.mem_append_right _ (List.mem_append_right _ (List.mem_append_right _ (List.mem_append_left _ (List.mem_of_getElem? (l := tables_1_3) (i := 116) rfl)))), good_of_word (by decide +kernel)⟩
set_option maxRecDepth 20000 in
theorem qw_467 : qG (Cond.methodLink RL 131 yX5_apart) := ⟨List.mem_append_right _ (List.mem_append_right _ (List.mem_append_right _ (List.mem_append_left _ (List.mem_of_getElem? (l := tables_1_3) (i := 115) rfl)))), good_of_word (by decide +kernel)⟩
set_option maxRecDepth 20000 in
theorem qw_468 : qG (Cond.instanceMethod yX5_meetsWants) := ⟨List.mem_append_right _ (List.mem_append_right _ (List.mem_append_right _ (List.mem_append_left _ (List.mem_of_getElem? (l := tables_1_3) (i := 134) rfl)))), good_of_word (by decide +kernel)⟩
set_option maxRecDepth 20000 in
theorem qw_469 : qG (Cond.methodLink RX5 268 yX5_meetsWants) := ⟨List.mem_append_right _ (List.mem_append_right _ (List.mem_append_right _ (List.mem_append_left _ (List.mem_of_getElem? (l := tables_1_3) (i := 132) rfl)))), good_of_word (by decide +kernel)⟩
set_option maxRecDepth 20000 in
theorem qw_470 : qG (Cond.code yX5_leastSet cX5_leastSet 7 (some .int)) := ⟨List.mem_append_right _ (List.mem_append_right _ (List.mem_append_right _ (List.mem_append_left _ (List.mem_of_getElem? (l := tables_1_3) (i := 131) rfl)))), good_of_word (by decide +kernel)⟩
theorem qw_471 : qG (Cond.selects RX5 yX5_leastSet yX5_leastSet) := ⟨List.mem_append_left _ (List.mem_of_getElem? (i := 20) (by decide +kernel)), good_of_word (by decide +kernel)⟩
set_option maxRecDepth 20000 in
theorem qw_472 : qG (Cond.instanceMethod yX5_leastSet) := ⟨List.mem_append_right _ (List.mem_append_right _ (List.mem_append_right _ (List.mem_append_left _ (List.mem_of_getElem? (l := tables_1_3) (i := 130) rfl)))), good_of_word (by decide +kernel)⟩
set_option maxRecDepth 20000 in
theorem qw_473 : qG (Cond.methodLink RX5 186 yX5_leastSet) := ⟨List.mem_append_right _ (List.mem_append_right _ (List.mem_append_right _ (List.mem_append_left _ (List.mem_of_getElem? (l := tables_1_3) (i := 128) rfl)))), good_of_word (by decide +kernel)⟩
set_option maxRecDepth 20000 in
theorem qw_474 : qG (Cond.code yX5_nextOfSameSize cX5_nextOfSameSize 4 (some .int)) := ⟨List.mem_append_right _ (List.mem_append_right _ (List.mem_append_right _ (List.mem_append_left _ (List.mem_of_getElem? (l := tables_1_3) (i := 138) rfl)))), good_of_word (by decide +kernel)⟩
set_option maxRecDepth 20000 in
theorem qw_475 : qG (Cond.static yX5_nextOfSameSize) := ⟨List.mem_append_right _ (List.mem_append_right _ (List.mem_append_right _ (List.mem_append_left _ (List.mem_of_getElem? (l := tables_1_3) (i := 137) rfl)))), good_of_word (by decide +kernel)⟩
set_option maxRecDepth 20000 in
theorem qw_476 : qG (Cond.methodLink RX5 272 yX5_nextOfSameSize) := ⟨List.mem_append_right _ (List.mem_append_right _ (List.mem_append_right _ (List.mem_append_left _ (List.mem_of_getElem? (l := tables_1_3) (i := 136) rfl)))), good_of_word (by decide +kernel)⟩
set_option maxRecDepth 20000 in
theorem qw_477 : qG (Cond.code yX5_meetsWants cX5_meetsWants 4 (some .boolean)) := ⟨List.mem_append_right _ (List.mem_append_right _ (List.mem_append_right _ (List.mem_append_left _ (List.mem_of_getElem? (l := tables_1_3) (i := 135) rfl)))), good_of_word (by decide +kernel)⟩
theorem qw_478 : qG (Cond.selects RX5 yX5_meetsWants yX5_meetsWants) := ⟨List.mem_append_left _ (List.mem_of_getElem? (i := 21) (by decide +kernel)), good_of_word (by decide +kernel)⟩
set_option maxRecDepth 20000 in
theorem qw_479 : qG (Cond.code yX5_places cX5_places 8 (some .int)) := ⟨List.mem_append_right _ (List.mem_append_right _ (List.mem_append_right _ (List.mem_append_left _ (List.mem_of_getElem? (l := tables_1_3) (i := 127) rfl)))), good_of_word (by decide +kernel)⟩
set_option maxRecDepth 20000 in
theorem qw_480 : qG (Cond.selects RX5 yX5_places yX5_places) := ⟨List.mem_append_right _ (List.mem_append_right _ (List.mem_append_right _ (List.mem_append_left _ (List.mem_of_getElem? (l := tables_1_3) (i := 126) rfl)))), good_of_word (by decide +kernel)⟩
set_option maxRecDepth 20000 in
theorem qw_481 : qG (Cond.instanceMethod yX5_places) := ⟨List.mem_append_right _ (List.mem_append_right _ (List.mem_append_right _ (List.mem_append_left _ (List.mem_of_getElem? (l := tables_1_3) (i := 125) rfl)))), good_of_word (by decide +kernel)⟩
set_option maxRecDepth 20000 in
theorem qw_482 : qG (Cond.methodLink RL 135 yX5_places) := ⟨List.mem_append_right _ (List.mem_append_right _ (List.mem_append_right _ (List.mem_append_left _ (List.mem_of_getElem? (l := tables_1_3) (i := 124) rfl)))), good_of_word (by decide +kernel)⟩
set_option maxRecDepth 20000 in
theorem qw_483 : qG (Cond.code yX5_guard cX5_guard 8 (some .int)) := ⟨List.mem_append_right _ (List.mem_append_right _ (List.mem_append_right _ (List.mem_append_left _ (List.mem_of_getElem? (l := tables_1_3) (i := 142) rfl)))), good_of_word (by decide +kernel)⟩
set_option maxRecDepth 20000 in
theorem qw_484 : qG (Cond.selects RX5 yX5_guard yX5_guard) := ⟨List.mem_append_right _ (List.mem_append_right _ (List.mem_append_right _ (List.mem_append_left _ (List.mem_of_getElem? (l := tables_1_3) (i := 141) rfl)))), good_of_word (by decide +kernel)⟩
set_option maxRecDepth 20000 in
theorem qw_485 : qG (Cond.instanceMethod yX5_guard) := ⟨List.mem_append_right _ (List.mem_append_right _ (List.mem_append_right _ (List.mem_append_left _ (List.mem_of_getElem? (l := tables_1_3) (i := 140) rfl)))), good_of_word (by decide +kernel)⟩
set_option maxRecDepth 20000 in
theorem qw_486 : qG (Cond.methodLink RL 139 yX5_guard) := ⟨List.mem_append_right _ (List.mem_append_right _ (List.mem_append_right _ (List.mem_append_left _ (List.mem_of_getElem? (l := tables_1_3) (i := 139) rfl)))), good_of_word (by decide +kernel)⟩
set_option maxRecDepth 20000 in
theorem qw_487 : qG (Cond.code yX5_hide cX5_hide 5 (some .int)) := ⟨List.mem_append_right _ (List.mem_append_right _ (List.mem_append_right _ (List.mem_append_left _ (List.mem_of_getElem? (l := tables_1_3) (i := 146) rfl)))), good_of_word (by decide +kernel)⟩
set_option maxRecDepth 20000 in
theorem qw_488 : qG (Cond.selects RX5 yX5_hide yX5_hide) := ⟨List.mem_append_right _ (List.mem_append_right _ (List.mem_append_right _ (List.mem_append_left _ (List.mem_of_getElem? (l := tables_1_3) (i := 145) rfl)))), good_of_word (by decide +kernel)⟩
set_option maxRecDepth 20000 in
theorem qw_489 : qG (Cond.instanceMethod yX5_hide) := ⟨List.mem_append_right _ (List.mem_append_right _ (List.mem_append_right _ (List.mem_append_left _ (List.mem_of_getElem? (l := tables_1_3) (i := 144) rfl)))), good_of_word (by decide +kernel)⟩
set_option maxRecDepth 20000 in
theorem qw_490 : qG (Cond.methodLink RL 143 yX5_hide) := ⟨List.mem_append_right _ (List.mem_append_right _ (List.mem_append_right _ (List.mem_append_left _ (List.mem_of_getElem? (l := tables_1_3) (i := 143) rfl)))), good_of_word (by decide +kernel)⟩
set_option maxRecDepth 20000 in
theorem qw_491 : qG (Cond.code yX5_best cX5_best 7 (some .int)) := ⟨List.mem_append_right _ (List.mem_append_right _ (List.mem_append_right _ (List.mem_append_left _ (List.mem_of_getElem? (l := tables_1_3) (i := 150) rfl)))), good_of_word (by decide +kernel)⟩
set_option maxRecDepth 20000 in
theorem qw_492 : qG (Cond.selects RX5 yX5_best yX5_best) := ⟨List.mem_append_right _ (List.mem_append_right _ (List.mem_append_right _ (List.mem_append_left _ (List.mem_of_getElem? (l := tables_1_3) (i := 149) rfl)))), good_of_word (by decide +kernel)⟩
set_option maxRecDepth 20000 in
theorem qw_493 : qG (Cond.instanceMethod yX5_best) := ⟨List.mem_append_right _ (List.mem_append_right _ (List.mem_append_right _ (List.mem_append_left _ (List.mem_of_getElem? (l := tables_1_3) (i := 148) rfl)))), good_of_word (by decide +kernel)⟩
set_option maxRecDepth 20000 in
theorem qw_494 : qG (Cond.methodLink RL 147 yX5_best) := ⟨List.mem_append_right _ (List.mem_append_right _ (List.mem_append_right _ (List.mem_append_left _ (List.mem_of_getElem? (l := tables_1_3) (i := 147) rfl)))), good_of_word (by decide +kernel)⟩
set_option maxRecDepth 20000 in
theorem qw_495 : qG (Cond.constantLong RX5 275 (10)) := ⟨List.mem_append_right _ (List.mem_append_right _ (List.mem_append_right _ (List.mem_append_left _ (List.mem_of_getElem? (l := tables_1_3) (i := 162) rfl)))), good_of_word (by decide +kernel)⟩
set_option maxRecDepth 20000 in
theorem qw_496 : qG (Cond.code yX5_partsShown cX5_partsShown 8 (some .long)) := ⟨List.mem_append_right _ (List.mem_append_right _ (List.mem_append_right _ (List.mem_append_left _ (List.mem_of_getElem? (l := tables_1_3) (i := 161) rfl)))), good_of_word (by decide +kernel)⟩
theorem qw_497 : qG (Cond.selects RX5 yX5_partsShown yX5_partsShown) := ⟨List.mem_append_left _ (List.mem_of_getElem? (i := 22) (by decide +kernel)), good_of_word (by decide +kernel)⟩
