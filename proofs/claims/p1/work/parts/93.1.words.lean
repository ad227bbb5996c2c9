theorem qw_249 : qG (Cond.selects RX0 yX0_hasCell yX0_hasCell) := ⟨List.mem_append_right _ (List.mem_of_getElem? (i := 379) (by decide +kernel)), good_of_word (by decide +kernel)⟩
theorem qw_250 : qG (Cond.code yX5_text cX5_text 2 (some .int)) := ⟨List.mem_append_right _ (List.mem_of_getElem? (i := 238) (by decide +kernel)), good_of_word (by decide +kernel)⟩
theorem qw_251 : qG (Cond.selects RX5 yX5_text yX5_text) := ⟨List.mem_append_right _ (List.mem_of_getElem? (i := 237) (by decide +kernel)), good_of_word (by decide +kernel)⟩
theorem qw_252 : qG (Cond.instanceMethod yX5_text) := ⟨List.mem_append_right _ (List.mem_of_getElem? (i := 236) (by decide +kernel)), good_of_word (by decide +kernel)⟩
theorem qw_253 : qG (Cond.methodLink RL 22 yX5_text) := ⟨List.mem_append_right _ (List.mem_of_getElem? (i := 235) (by decide +kernel)), good_of_word (by decide +kernel)⟩
theorem qw_254 : qG (Cond.code yX5_fault cX5_fault 1 (some .int)) := ⟨List.mem_append_right _ (List.mem_of_getElem? (i := 396) (by decide +kernel)), good_of_word (by decide +kernel)⟩
theorem qw_255 : qG (Cond.selects RX5 yX5_fault yX5_fault) := ⟨List.mem_append_right _ (List.mem_of_getElem? (i := 395) (by decide +kernel)), good_of_word (by decide +kernel)⟩
theorem qw_256 : qG (Cond.instanceMethod yX5_fault) := ⟨List.mem_append_right _ (List.mem_of_getElem? (i := 394) (by decide +kernel)), good_of_word (by decide +kernel)⟩
theorem qw_257 : qG (Cond.methodLink RL 27 yX5_fault) := ⟨List.mem_append_right _ (List.mem_of_getElem? (i := 393) (by decide +kernel)), good_of_word (by decide +kernel)⟩
theorem qw_258 : qG (Cond.code yX5_rule cX5_rule 2 (some .int)) := ⟨List.mem_append_right _ (List.mem_of_getElem? (i := 400) (by decide +kernel)), good_of_word (by decide +kernel)⟩
theorem qw_259 : qG (Cond.selects RX5 yX5_rule yX5_rule) := ⟨List.mem_append_right _ (List.mem_of_getElem? (i := 399) (by decide +kernel)), good_of_word (by decide +kernel)⟩
theorem qw_260 : qG (Cond.instanceMethod yX5_rule) := ⟨List.mem_append_right _ (List.mem_of_getElem? (i := 398) (by decide +kernel)), good_of_word (by decide +kernel)⟩
theorem qw_261 : qG (Cond.methodLink RL 31 yX5_rule) := ⟨List.mem_append_right _ (List.mem_of_getElem? (i := 397) (by decide +kernel)), good_of_word (by decide +kernel)⟩
theorem qw_262 : qG (Cond.code yX4_build cX4_build 4 none) := ⟨List.mem_append_right _ (List.mem_of_getElem? (i := 414) (by decide +kernel)), good_of_word (by decide +kernel)⟩
theorem qw_263 : qG (Cond.selects RX4 yX4_build yX4_build) := ⟨List.mem_append_right _ (List.mem_of_getElem? (i := 413) (by decide +kernel)), good_of_word (by decide +kernel)⟩
theorem qw_264 : qG (Cond.instanceMethod yX4_build) := ⟨List.mem_append_right _ (List.mem_of_getElem? (i := 412) (by decide +kernel)), good_of_word (by decide +kernel)⟩
theorem qw_265 : qG (Cond.methodLink RX5 251 yX4_build) := ⟨List.mem_append_right _ (List.mem_of_getElem? (i := 411) (by decide +kernel)), good_of_word (by decide +kernel)⟩
theorem qw_266 : qG (Cond.code yX5_freshViews cX5_freshViews 1 (some (.object "BackLenses$Views"))) := ⟨List.mem_append_right _ (List.mem_of_getElem? (i := 410) (by decide +kernel)), good_of_word (by decide +kernel)⟩
theorem qw_267 : qG (Cond.selects RX5 yX5_freshViews yX5_freshViews) := ⟨List.mem_append_left _ (List.mem_of_getElem? (i := 13) (by decide +kernel)), good_of_word (by decide +kernel)⟩
theorem qw_268 : qG (Cond.instanceMethod yX5_freshViews) := ⟨List.mem_append_right _ (List.mem_of_getElem? (i := 409) (by decide +kernel)), good_of_word (by decide +kernel)⟩
theorem qw_269 : qG (Cond.methodLink RX5 112 yX5_freshViews) := ⟨List.mem_append_right _ (List.mem_of_getElem? (i := 407) (by decide +kernel)), good_of_word (by decide +kernel)⟩
theorem qw_270 : qG (Cond.methodLink RX5 109 yX0_hasDay) := ⟨List.mem_append_right _ (List.mem_of_getElem? (i := 406) (by decide +kernel)), good_of_word (by decide +kernel)⟩
theorem qw_271 : qG (Cond.methodLink RX5 105 yX0_hasCell) := ⟨List.mem_append_right _ (List.mem_of_getElem? (i := 405) (by decide +kernel)), good_of_word (by decide +kernel)⟩
theorem qw_272 : qG (Cond.methodLink RX4 65 yX4_ray) := ⟨List.mem_append_right _ (List.mem_of_getElem? (i := 425) (by decide +kernel)), good_of_word (by decide +kernel)⟩
theorem qw_273 : qG (Cond.code yX4_sight cX4_sight 5 (some .int)) := ⟨List.mem_append_right _ (List.mem_of_getElem? (i := 424) (by decide +kernel)), good_of_word (by decide +kernel)⟩
theorem qw_274 : qG (Cond.selects RX4 yX4_sight yX4_sight) := ⟨List.mem_append_left _ (List.mem_of_getElem? (i := 15) (by decide +kernel)), good_of_word (by decide +kernel)⟩
theorem qw_275 : qG (Cond.instanceMethod yX4_sight) := ⟨List.mem_append_right _ (List.mem_of_getElem? (i := 423) (by decide +kernel)), good_of_word (by decide +kernel)⟩
theorem qw_276 : qG (Cond.methodLink RX4 40 yX4_sight) := ⟨List.mem_append_right _ (List.mem_of_getElem? (i := 421) (by decide +kernel)), good_of_word (by decide +kernel)⟩
theorem qw_277 : qG (Cond.methodLink RX4 62 yX2_number) := ⟨List.mem_append_right _ (List.mem_of_getElem? (i := 420) (by decide +kernel)), good_of_word (by decide +kernel)⟩
theorem qw_278 : qG (Cond.methodLink RX4 47 arraycopyName) := ⟨List.mem_append_right _ (List.mem_of_getElem? (i := 419) (by decide +kernel)), good_of_word (by decide +kernel)⟩
theorem qw_279 : qG (Cond.code yX4_buildMarks cX4_buildMarks 5 none) := ⟨List.mem_append_right _ (List.mem_of_getElem? (i := 418) (by decide +kernel)), good_of_word (by decide +kernel)⟩
theorem qw_280 : qG (Cond.selects RX4 yX4_buildMarks yX4_buildMarks) := ⟨List.mem_append_left _ (List.mem_of_getElem? (i := 14) (by decide +kernel)), good_of_word (by decide +kernel)⟩
theorem qw_281 : qG (Cond.instanceMethod yX4_buildMarks) := ⟨List.mem_append_right _ (List.mem_of_getElem? (i := 417) (by decide +kernel)), good_of_word (by decide +kernel)⟩
theorem qw_282 : qG (Cond.methodLink RX4 36 yX4_buildMarks) := ⟨List.mem_append_right _ (List.mem_of_getElem? (i := 415) (by decide +kernel)), good_of_word (by decide +kernel)⟩
theorem qw_283 : qG (Cond.fieldLink RX4 32 "BackLenses$Views" "high" "I") := ⟨List.mem_append_right _ (List.mem_of_getElem? (i := 101) (by decide +kernel)), good_of_word (by decide +kernel)⟩
theorem qw_284 : qG (Cond.fieldLink RX4 28 "BackLenses$Views" "wide" "I") := ⟨List.mem_append_right _ (List.mem_of_getElem? (i := 100) (by decide +kernel)), good_of_word (by decide +kernel)⟩
theorem qw_285 : qG (Cond.code yX4_markOf cX4_markOf 3 (some .int)) := ⟨List.mem_append_right _ (List.mem_of_getElem? (i := 432) (by decide +kernel)), good_of_word (by decide +kernel)⟩
theorem qw_286 : qG (Cond.selects RX4 yX4_markOf yX4_markOf) := ⟨List.mem_append_right _ (List.mem_of_getElem? (i := 431) (by decide +kernel)), good_of_word (by decide +kernel)⟩
theorem qw_287 : qG (Cond.instanceMethod yX4_markOf) := ⟨List.mem_append_right _ (List.mem_of_getElem? (i := 430) (by decide +kernel)), good_of_word (by decide +kernel)⟩
theorem qw_288 : qG (Cond.methodLink RX5 116 yX4_markOf) := ⟨List.mem_append_right _ (List.mem_of_getElem? (i := 429) (by decide +kernel)), good_of_word (by decide +kernel)⟩
theorem qw_289 : qG (Cond.code yX4_ray cX4_ray 10 (some .int)) := ⟨List.mem_append_right _ (List.mem_of_getElem? (i := 428) (by decide +kernel)), good_of_word (by decide +kernel)⟩
theorem qw_290 : qG (Cond.selects RX4 yX4_ray yX4_ray) := ⟨List.mem_append_left _ (List.mem_of_getElem? (i := 16) (by decide +kernel)), good_of_word (by decide +kernel)⟩
theorem qw_291 : qG (Cond.instanceMethod yX4_ray) := ⟨List.mem_append_right _ (List.mem_of_getElem? (i := 427) (by decide +kernel)), good_of_word (by decide +kernel)⟩
theorem qw_292 : qG (Cond.code yX5_mark cX5_mark 3 (some .int)) := ⟨List.mem_append_right _ (List.mem_of_getElem? (i := 404) (by decide +kernel)), good_of_word (by decide +kernel)⟩
theorem qw_293 : qG (Cond.selects RX5 yX5_mark yX5_mark) := ⟨List.mem_append_right _ (List.mem_of_getElem? (i := 403) (by decide +kernel)), good_of_word (by decide +kernel)⟩
theorem qw_294 : qG (Cond.instanceMethod yX5_mark) := ⟨List.mem_append_right _ (List.mem_of_getElem? (i := 402) (by decide +kernel)), good_of_word (by decide +kernel)⟩
theorem qw_295 : qG (Cond.methodLink RL 35 yX5_mark) := ⟨List.mem_append_right _ (List.mem_of_getElem? (i := 401) (by decide +kernel)), good_of_word (by decide +kernel)⟩
theorem qw_296 : qG (Cond.methodLink RX5 123 yX2_number) := ⟨List.mem_append_right _ (List.mem_of_getElem? (i := 441) (by decide +kernel)), good_of_word (by decide +kernel)⟩
theorem qw_297 : qG (Cond.code yX2_has cX2_has 2 (some .boolean)) := ⟨List.mem_append_right _ (List.mem_of_getElem? (i := 440) (by decide +kernel)), good_of_word (by decide +kernel)⟩
theorem qw_298 : qG (Cond.selects RX2 yX2_has yX2_has) := ⟨List.mem_append_right _ (List.mem_of_getElem? (i := 439) (by decide +kernel)), good_of_word (by decide +kernel)⟩
theorem qw_299 : qG (Cond.instanceMethod yX2_has) := ⟨List.mem_append_right _ (List.mem_of_getElem? (i := 438) (by decide +kernel)), good_of_word (by decide +kernel)⟩
theorem qw_300 : qG (Cond.methodLink RX5 120 yX2_has) := ⟨List.mem_append_right _ (List.mem_of_getElem? (i := 437) (by decide +kernel)), good_of_word (by decide +kernel)⟩
theorem qw_301 : qG (Cond.code yX5_change cX5_change 3 (some .int)) := ⟨List.mem_append_right _ (List.mem_of_getElem? (i := 436) (by decide +kernel)), good_of_word (by decide +kernel)⟩
theorem qw_302 : qG (Cond.selects RX5 yX5_change yX5_change) := ⟨List.mem_append_right _ (List.mem_of_getElem? (i := 435) (by decide +kernel)), good_of_word (by decide +kernel)⟩
theorem qw_303 : qG (Cond.instanceMethod yX5_change) := ⟨List.mem_append_right _ (List.mem_of_getElem? (i := 434) (by decide +kernel)), good_of_word (by decide +kernel)⟩
theorem qw_304 : qG (Cond.methodLink RL 40 yX5_change) := ⟨List.mem_append_right _ (List.mem_of_getElem? (i := 433) (by decide +kernel)), good_of_word (by decide +kernel)⟩
theorem qw_305 : qG (Cond.code yX5_isChoice cX5_isChoice 1 (some .boolean)) := ⟨List.mem_append_right _ (List.mem_of_getElem? (i := 448) (by decide +kernel)), good_of_word (by decide +kernel)⟩
theorem qw_306 : qG (Cond.static yX5_isChoice) := ⟨List.mem_append_right _ (List.mem_of_getElem? (i := 447) (by decide +kernel)), good_of_word (by decide +kernel)⟩
theorem qw_307 : qG (Cond.methodLink RX5 126 yX5_isChoice) := ⟨List.mem_append_right _ (List.mem_of_getElem? (i := 446) (by decide +kernel)), good_of_word (by decide +kernel)⟩
theorem qw_308 : qG (Cond.code yX5_lens cX5_lens 3 (some .int)) := ⟨List.mem_append_right _ (List.mem_of_getElem? (i := 445) (by decide +kernel)), good_of_word (by decide +kernel)⟩
theorem qw_309 : qG (Cond.selects RX5 yX5_lens yX5_lens) := ⟨List.mem_append_right _ (List.mem_of_getElem? (i := 444) (by decide +kernel)), good_of_word (by decide +kernel)⟩
theorem qw_310 : qG (Cond.instanceMethod yX5_lens) := ⟨List.mem_append_right _ (List.mem_of_getElem? (i := 443) (by decide +kernel)), good_of_word (by decide +kernel)⟩
theorem qw_311 : qG (Cond.methodLink RL 44 yX5_lens) := ⟨List.mem_append_right _ (List.mem_of_getElem? (i := 442) (by decide +kernel)), good_of_word (by decide +kernel)⟩
theorem qw_312 : qG (Cond.code yX5_isMark cX5_isMark 1 (some .boolean)) := ⟨List.mem_append_right _ (List.mem_of_getElem? (i := 455) (by decide +kernel)), good_of_word (by decide +kernel)⟩
theorem qw_313 : qG (Cond.static yX5_isMark) := ⟨List.mem_append_right _ (List.mem_of_getElem? (i := 454) (by decide +kernel)), good_of_word (by decide +kernel)⟩
theorem qw_314 : qG (Cond.methodLink RX5 129 yX5_isMark) := ⟨List.mem_append_right _ (List.mem_of_getElem? (i := 453) (by decide +kernel)), good_of_word (by decide +kernel)⟩
theorem qw_315 : qG (Cond.code yX5_first cX5_first 4 (some .int)) := ⟨List.mem_append_right _ (List.mem_of_getElem? (i := 452) (by decide +kernel)), good_of_word (by decide +kernel)⟩
theorem qw_316 : qG (Cond.selects RX5 yX5_first yX5_first) := ⟨List.mem_append_right _ (List.mem_of_getElem? (i := 451) (by decide +kernel)), good_of_word (by decide +kernel)⟩
theorem qw_317 : qG (Cond.instanceMethod yX5_first) := ⟨List.mem_append_right _ (List.mem_of_getElem? (i := 450) (by decide +kernel)), good_of_word (by decide +kernel)⟩
theorem qw_318 : qG (Cond.methodLink RL 48 yX5_first) := ⟨List.mem_append_right _ (List.mem_of_getElem? (i := 449) (by decide +kernel)), good_of_word (by decide +kernel)⟩
theorem qw_319 : qG (Cond.methodLink RX0 69 yX2_add) := ⟨List.mem_append_right _ (List.mem_of_getElem? (i := 467) (by decide +kernel)), good_of_word (by decide +kernel)⟩
theorem qw_320 : qG (Cond.methodLink RX0 63 yX0_hasCell) := ⟨List.mem_append_right _ (List.mem_of_getElem? (i := 465) (by decide +kernel)), good_of_word (by decide +kernel)⟩
theorem qw_321 : qG (Cond.methodLink RX0 59 yX0_hasDay) := ⟨List.mem_append_right _ (List.mem_of_getElem? (i := 464) (by decide +kernel)), good_of_word (by decide +kernel)⟩
theorem qw_322 : qG (Cond.code yX0_takeChange cX0_takeChange 4 (some .int)) := ⟨List.mem_append_right _ (List.mem_of_getElem? (i := 463) (by decide +kernel)), good_of_word (by decide +kernel)⟩
theorem qw_323 : qG (Cond.selects RX0 yX0_takeChange yX0_takeChange) := ⟨List.mem_append_right _ (List.mem_of_getElem? (i := 462) (by decide +kernel)), good_of_word (by decide +kernel)⟩
theorem qw_324 : qG (Cond.instanceMethod yX0_takeChange) := ⟨List.mem_append_right _ (List.mem_of_getElem? (i := 461) (by decide +kernel)), good_of_word (by decide +kernel)⟩
theorem qw_325 : qG (Cond.methodLink RX5 135 yX0_takeChange) := ⟨List.mem_append_right _ (List.mem_of_getElem? (i := 460) (by decide +kernel)), good_of_word (by decide +kernel)⟩
theorem qw_326 : qG (Cond.code yX5_turn cX5_turn 5 (some .int)) := ⟨List.mem_append_right _ (List.mem_of_getElem? (i := 459) (by decide +kernel)), good_of_word (by decide +kernel)⟩
theorem qw_327 : qG (Cond.selects RX5 yX5_turn yX5_turn) := ⟨List.mem_append_right _ (List.mem_of_getElem? (i := 458) (by decide +kernel)), good_of_word (by decide +kernel)⟩
theorem qw_328 : qG (Cond.instanceMethod yX5_turn) := ⟨List.mem_append_right _ (List.mem_of_getElem? (i := 457) (by decide +kernel)), good_of_word (by decide +kernel)⟩
theorem qw_329 : qG (Cond.methodLink RL 52 yX5_turn) := ⟨List.mem_append_right _ (List.mem_of_getElem? (i := 456) (by decide +kernel)), good_of_word (by decide +kernel)⟩
theorem qw_330 : qG (Cond.code yX2_shorten cX2_shorten 3 (some .int)) := ⟨List.mem_append_right _ (List.mem_of_getElem? (i := 475) (by decide +kernel)), good_of_word (by decide +kernel)⟩
theorem qw_331 : qG (Cond.selects RX2 yX2_shorten yX2_shorten) := ⟨List.mem_append_right _ (List.mem_of_getElem? (i := 474) (by decide +kernel)), good_of_word (by decide +kernel)⟩
theorem qw_332 : qG (Cond.instanceMethod yX2_shorten) := ⟨List.mem_append_right _ (List.mem_of_getElem? (i := 473) (by decide +kernel)), good_of_word (by decide +kernel)⟩
theorem qw_333 : qG (Cond.methodLink RX5 139 yX2_shorten) := ⟨List.mem_append_right _ (List.mem_of_getElem? (i := 472) (by decide +kernel)), good_of_word (by decide +kernel)⟩
theorem qw_334 : qG (Cond.code yX5_cut cX5_cut 4 (some .int)) := ⟨List.mem_append_right _ (List.mem_of_getElem? (i := 471) (by decide +kernel)), good_of_word (by decide +kernel)⟩
theorem qw_335 : qG (Cond.selects RX5 yX5_cut yX5_cut) := ⟨List.mem_append_right _ (List.mem_of_getElem? (i := 470) (by decide +kernel)), good_of_word (by decide +kernel)⟩
theorem qw_336 : qG (Cond.instanceMethod yX5_cut) := ⟨List.mem_append_right _ (List.mem_of_getElem? (i := 469) (by decide +kernel)), good_of_word (by decide +kernel)⟩
theorem qw_337 : qG (Cond.methodLink RL 57 yX5_cut) := ⟨List.mem_append_right _ (List.mem_of_getElem? (i := 468) (by decide +kernel)), good_of_word (by decide +kernel)⟩
theorem qw_338 : qG (Cond.methodLink RX5 143 yX2_add) := ⟨List.mem_append_right _ (List.mem_of_getElem? (i := 481) (by decide +kernel)), good_of_word (by decide +kernel)⟩
theorem qw_339 : qG (Cond.methodLink RX5 140 yX0_cells) := ⟨List.mem_append_right _ (List.mem_of_getElem? (i := 480) (by decide +kernel)), good_of_word (by decide +kernel)⟩
theorem qw_340 : qG (Cond.code yX5_grind cX5_grind 3 (some .int)) := ⟨List.mem_append_right _ (List.mem_of_getElem? (i := 479) (by decide +kernel)), good_of_word (by decide +kernel)⟩
theorem qw_341 : qG (Cond.selects RX5 yX5_grind yX5_grind) := ⟨List.mem_append_right _ (List.mem_of_getElem? (i := 478) (by decide +kernel)), good_of_word (by decide +kernel)⟩
theorem qw_342 : qG (Cond.instanceMethod yX5_grind) := ⟨List.mem_append_right _ (List.mem_of_getElem? (i := 477) (by decide +kernel)), good_of_word (by decide +kernel)⟩
theorem qw_343 : qG (Cond.methodLink RL 61 yX5_grind) := ⟨List.mem_append_right _ (List.mem_of_getElem? (i := 476) (by decide +kernel)), good_of_word (by decide +kernel)⟩
theorem qw_344 : qG (Cond.code yX2_replace cX2_replace 5 (some .int)) := ⟨List.mem_append_right _ (List.mem_of_getElem? (i := 489) (by decide +kernel)), good_of_word (by decide +kernel)⟩
theorem qw_345 : qG (Cond.selects RX2 yX2_replace yX2_replace) := ⟨List.mem_append_right _ (List.mem_of_getElem? (i := 488) (by decide +kernel)), good_of_word (by decide +kernel)⟩
theorem qw_346 : qG (Cond.instanceMethod yX2_replace) := ⟨List.mem_append_right _ (List.mem_of_getElem? (i := 487) (by decide +kernel)), good_of_word (by decide +kernel)⟩
theorem qw_347 : qG (Cond.methodLink RX5 146 yX2_replace) := ⟨List.mem_append_right _ (List.mem_of_getElem? (i := 486) (by decide +kernel)), good_of_word (by decide +kernel)⟩
theorem qw_348 : qG (Cond.code yX5_regrind cX5_regrind 3 (some .int)) := ⟨List.mem_append_right _ (List.mem_of_getElem? (i := 485) (by decide +kernel)), good_of_word (by decide +kernel)⟩
theorem qw_349 : qG (Cond.selects RX5 yX5_regrind yX5_regrind) := ⟨List.mem_append_right _ (List.mem_of_getElem? (i := 484) (by decide +kernel)), good_of_word (by decide +kernel)⟩
theorem qw_350 : qG (Cond.instanceMethod yX5_regrind) := ⟨List.mem_append_right _ (List.mem_of_getElem? (i := 483) (by decide +kernel)), good_of_word (by decide +kernel)⟩
theorem qw_351 : qG (Cond.methodLink RL 65 yX5_regrind) := ⟨List.mem_append_right _ (List.mem_of_getElem? (i := 482) (by decide +kernel)), good_of_word (by decide +kernel)⟩
theorem qw_352 : qG (Cond.code yX5_crack cX5_crack 6 (some .int)) := ⟨List.mem_append_right _ (List.mem_of_getElem? (i := 493) (by decide +kernel)), good_of_word (by decide +kernel)⟩
theorem qw_353 : qG (Cond.selects RX5 yX5_crack yX5_crack) := ⟨List.mem_append_right _ (List.mem_of_getElem? (i := 492) (by decide +kernel)), good_of_word (by decide +kernel)⟩
theorem qw_354 : qG (Cond.instanceMethod yX5_crack) := ⟨List.mem_append_right _ (List.mem_of_getElem? (i := 491) (by decide +kernel)), good_of_word (by decide +kernel)⟩
theorem qw_355 : qG (Cond.methodLink RL 69 yX5_crack) := ⟨List.mem_append_right _ (List.mem_of_getElem? (i := 490) (by decide +kernel)), good_of_word (by decide +kernel)⟩
theorem qw_356 : qG (Cond.code yX4_sightOf cX4_sightOf 3 (some .int)) := ⟨List.mem_append_right _ (List.mem_of_getElem? (i := 501) (by decide +kernel)), good_of_word (by decide +kernel)⟩
theorem qw_357 : qG (Cond.selects RX4 yX4_sightOf yX4_sightOf) := ⟨List.mem_append_right _ (List.mem_of_getElem? (i := 500) (by decide +kernel)), good_of_word (by decide +kernel)⟩
theorem qw_358 : qG (Cond.instanceMethod yX4_sightOf) := ⟨List.mem_append_right _ (List.mem_of_getElem? (i := 499) (by decide +kernel)), good_of_word (by decide +kernel)⟩
theorem qw_359 : qG (Cond.methodLink RX5 149 yX4_sightOf) := ⟨List.mem_append_right _ (List.mem_of_getElem? (i := 498) (by decide +kernel)), good_of_word (by decide +kernel)⟩
theorem qw_360 : qG (Cond.code yX5_sees cX5_sees 3 (some .int)) := ⟨List.mem_append_right _ (List.mem_of_getElem? (i := 497) (by decide +kernel)), good_of_word (by decide +kernel)⟩
theorem qw_361 : qG (Cond.selects RX5 yX5_sees yX5_sees) := ⟨List.mem_append_right _ (List.mem_of_getElem? (i := 496) (by decide +kernel)), good_of_word (by decide +kernel)⟩
theorem qw_362 : qG (Cond.instanceMethod yX5_sees) := ⟨List.mem_append_right _ (List.mem_of_getElem? (i := 495) (by decide +kernel)), good_of_word (by decide +kernel)⟩
theorem qw_363 : qG (Cond.methodLink RL 74 yX5_sees) := ⟨List.mem_append_right _ (List.mem_of_getElem? (i := 494) (by decide +kernel)), good_of_word (by decide +kernel)⟩
theorem qw_364 : qG (Cond.code yX5_shownBy cX5_shownBy 3 (some .int)) := ⟨List.mem_append_right _ (List.mem_of_getElem? (i := 509) (by decide +kernel)), good_of_word (by decide +kernel)⟩
theorem qw_365 : qG (Cond.selects RX5 yX5_shownBy yX5_shownBy) := ⟨List.mem_append_left _ (List.mem_of_getElem? (i := 17) (by decide +kernel)), good_of_word (by decide +kernel)⟩
theorem qw_366 : qG (Cond.instanceMethod yX5_shownBy) := ⟨List.mem_append_right _ (List.mem_of_getElem? (i := 508) (by decide +kernel)), good_of_word (by decide +kernel)⟩
theorem qw_367 : qG (Cond.methodLink RX5 152 yX5_shownBy) := ⟨List.mem_append_right _ (List.mem_of_getElem? (i := 506) (by decide +kernel)), good_of_word (by decide +kernel)⟩
theorem qw_368 : qG (Cond.code yX5_shows cX5_shows 4 (some .int)) := ⟨List.mem_append_right _ (List.mem_of_getElem? (i := 505) (by decide +kernel)), good_of_word (by decide +kernel)⟩
theorem qw_369 : qG (Cond.selects RX5 yX5_shows yX5_shows) := ⟨List.mem_append_right _ (List.mem_of_getElem? (i := 504) (by decide +kernel)), good_of_word (by decide +kernel)⟩
theorem qw_370 : qG (Cond.instanceMethod yX5_shows) := ⟨List.mem_append_right _ (List.mem_of_getElem? (i := 503) (by decide +kernel)), good_of_word (by decide +kernel)⟩
theorem qw_371 : qG (Cond.methodLink RL 78 yX5_shows) := ⟨List.mem_append_right _ (List.mem_of_getElem? (i := 502) (by decide +kernel)), good_of_word (by decide +kernel)⟩
theorem qw_372 : qG (Cond.methodLink RX4 72 yX4_markOf) := ⟨List.mem_append_right _ (List.mem_of_getElem? (i := 518) (by decide +kernel)), good_of_word (by decide +kernel)⟩
theorem qw_373 : qG (Cond.code yX4_unlike cX4_unlike 5 (some .int)) := ⟨List.mem_append_right _ (List.mem_of_getElem? (i := 517) (by decide +kernel)), good_of_word (by decide +kernel)⟩
theorem qw_374 : qG (Cond.selects RX4 yX4_unlike yX4_unlike) := ⟨List.mem_append_right _ (List.mem_of_getElem? (i := 516) (by decide +kernel)), good_of_word (by decide +kernel)⟩
theorem qw_375 : qG (Cond.instanceMethod yX4_unlike) := ⟨List.mem_append_right _ (List.mem_of_getElem? (i := 515) (by decide +kernel)), good_of_word (by decide +kernel)⟩
theorem qw_376 : qG (Cond.methodLink RX5 155 yX4_unlike) := ⟨List.mem_append_right _ (List.mem_of_getElem? (i := 514) (by decide +kernel)), good_of_word (by decide +kernel)⟩
theorem qw_377 : qG (Cond.code yX5_frame cX5_frame 5 (some .int)) := ⟨List.mem_append_right _ (List.mem_of_getElem? (i := 513) (by decide +kernel)), good_of_word (by decide +kernel)⟩
theorem qw_378 : qG (Cond.selects RX5 yX5_frame yX5_frame) := ⟨List.mem_append_right _ (List.mem_of_getElem? (i := 512) (by decide +kernel)), good_of_word (by decide +kernel)⟩
theorem qw_379 : qG (Cond.instanceMethod yX5_frame) := ⟨List.mem_append_right _ (List.mem_of_getElem? (i := 511) (by decide +kernel)), good_of_word (by decide +kernel)⟩
theorem qw_380 : qG (Cond.methodLink RL 82 yX5_frame) := ⟨List.mem_append_right _ (List.mem_of_getElem? (i := 510) (by decide +kernel)), good_of_word (by decide +kernel)⟩
theorem qw_381 : qG (Cond.code yX5_between cX5_between 3 (some .int)) := ⟨List.mem_append_right _ (List.mem_of_getElem? (i := 522) (by decide +kernel)), good_of_word (by decide +kernel)⟩
theorem qw_382 : qG (Cond.selects RX5 yX5_between yX5_between) := ⟨List.mem_append_right _ (List.mem_of_getElem? (i := 521) (by decide +kernel)), good_of_word (by decide +kernel)⟩
theorem qw_383 : qG (Cond.instanceMethod yX5_between) := ⟨List.mem_append_right _ (List.mem_of_getElem? (i := 520) (by decide +kernel)), good_of_word (by decide +kernel)⟩
theorem qw_384 : qG (Cond.methodLink RL 86 yX5_between) := ⟨List.mem_append_right _ (List.mem_of_getElem? (i := 519) (by decide +kernel)), good_of_word (by decide +kernel)⟩
theorem qw_385 : qG (Cond.code yX4_cellsWith cX4_cellsWith 5 (some .int)) := ⟨List.mem_append_right _ (List.mem_of_getElem? (i := 530) (by decide +kernel)), good_of_word (by decide +kernel)⟩
theorem qw_386 : qG (Cond.selects RX4 yX4_cellsWith yX4_cellsWith) := ⟨List.mem_append_right _ (List.mem_of_getElem? (i := 529) (by decide +kernel)), good_of_word (by decide +kernel)⟩
theorem qw_387 : qG (Cond.instanceMethod yX4_cellsWith) := ⟨List.mem_append_right _ (List.mem_of_getElem? (i := 528) (by decide +kernel)), good_of_word (by decide +kernel)⟩
theorem qw_388 : qG (Cond.methodLink RX5 158 yX4_cellsWith) := ⟨List.mem_append_right _ (List.mem_of_getElem? (i := 527) (by decide +kernel)), good_of_word (by decide +kernel)⟩
theorem qw_389 : qG (Cond.code yX5_all cX5_all 3 (some .int)) := ⟨List.mem_append_right _ (List.mem_of_getElem? (i := 526) (by decide +kernel)), good_of_word (by decide +kernel)⟩
theorem qw_390 : qG (Cond.selects RX5 yX5_all yX5_all) := ⟨List.mem_append_right _ (List.mem_of_getElem? (i := 525) (by decide +kernel)), good_of_word (by decide +kernel)⟩
theorem qw_391 : qG (Cond.instanceMethod yX5_all) := ⟨List.mem_append_right _ (List.mem_of_getElem? (i := 524) (by decide +kernel)), good_of_word (by decide +kernel)⟩
theorem qw_392 : qG (Cond.methodLink RL 90 yX5_all) := ⟨List.mem_append_right _ (List.mem_of_getElem? (i := 523) (by decide +kernel)), good_of_word (by decide +kernel)⟩
theorem qw_393 : qG (Cond.code yX5_since cX5_since 9 (some .int)) := ⟨List.mem_append_right _ (List.mem_of_getElem? (i := 534) (by decide +kernel)), good_of_word (by decide +kernel)⟩
theorem qw_394 : qG (Cond.selects RX5 yX5_since yX5_since) := ⟨List.mem_append_right _ (List.mem_of_getElem? (i := 533) (by decide +kernel)), good_of_word (by decide +kernel)⟩
theorem qw_395 : qG (Cond.instanceMethod yX5_since) := ⟨List.mem_append_right _ (List.mem_of_getElem? (i := 532) (by decide +kernel)), good_of_word (by decide +kernel)⟩
theorem qw_396 : qG (Cond.methodLink RL 94 yX5_since) := ⟨List.mem_append_right _ (List.mem_of_getElem? (i := 531) (by decide +kernel)), good_of_word (by decide +kernel)⟩
theorem qw_397 : qG (Cond.code yX5_again cX5_again 5 (some .int)) := ⟨List.mem_append_right _ (List.mem_of_getElem? (i := 538) (by decide +kernel)), good_of_word (by decide +kernel)⟩
theorem qw_398 : qG (Cond.selects RX5 yX5_again yX5_again) := ⟨List.mem_append_right _ (List.mem_of_getElem? (i := 537) (by decide +kernel)), good_of_word (by decide +kernel)⟩
theorem qw_399 : qG (Cond.instanceMethod yX5_again) := ⟨List.mem_append_right _ (List.mem_of_getElem? (i := 536) (by decide +kernel)), good_of_word (by decide +kernel)⟩
theorem qw_400 : qG (Cond.methodLink RL 98 yX5_again) := ⟨List.mem_append_right _ (List.mem_of_getElem? (i := 535) (by decide +kernel)), good_of_word (by decide +kernel)⟩
theorem qw_401 : qG (Cond.code yX5_show cX5_show 4 (some .int)) := ⟨List.mem_append_right _ (List.mem_of_getElem? (i := 542) (by decide +kernel)), good_of_word (by decide +kernel)⟩
theorem qw_402 : qG (Cond.selects RX5 yX5_show yX5_show) := ⟨List.mem_append_right _ (List.mem_of_getElem? (i := 541) (by decide +kernel)), good_of_word (by decide +kernel)⟩
theorem qw_403 : qG (Cond.instanceMethod yX5_show) := ⟨List.mem_append_right _ (List.mem_of_getElem? (i := 540) (by decide +kernel)), good_of_word (by decide +kernel)⟩
theorem qw_404 : qG (Cond.methodLink RL 102 yX5_show) := ⟨List.mem_append_right _ (List.mem_of_getElem? (i := 539) (by decide +kernel)), good_of_word (by decide +kernel)⟩
theorem qw_405 : qG (Cond.code yX5_forget cX5_forget 2 (some .int)) := ⟨List.mem_append_right _ (List.mem_of_getElem? (i := 546) (by decide +kernel)), good_of_word (by decide +kernel)⟩
theorem qw_406 : qG (Cond.selects RX5 yX5_forget yX5_forget) := ⟨List.mem_append_right _ (List.mem_of_getElem? (i := 545) (by decide +kernel)), good_of_word (by decide +kernel)⟩
theorem qw_407 : qG (Cond.instanceMethod yX5_forget) := ⟨List.mem_append_right _ (List.mem_of_getElem? (i := 544) (by decide +kernel)), good_of_word (by decide +kernel)⟩
theorem qw_408 : qG (Cond.methodLink RL 106 yX5_forget) := ⟨List.mem_append_right _ (List.mem_of_getElem? (i := 543) (by decide +kernel)), good_of_word (by decide +kernel)⟩
theorem qw_409 : qG (Cond.code yX5_fitting cX5_fitting 8 (some .int)) := ⟨List.mem_append_right _ (List.mem_of_getElem? (i := 554) (by decide +kernel)), good_of_word (by decide +kernel)⟩
theorem qw_410 : qG (Cond.selects RX5 yX5_fitting yX5_fitting) := ⟨List.mem_append_left _ (List.mem_of_getElem? (i := 18) (by decide +kernel)), good_of_word (by decide +kernel)⟩
theorem qw_411 : qG (Cond.instanceMethod yX5_fitting) := ⟨List.mem_append_right _ (List.mem_of_getElem? (i := 553) (by decide +kernel)), good_of_word (by decide +kernel)⟩
theorem qw_412 : qG (Cond.methodLink RX5 164 yX5_fitting) := ⟨List.mem_append_right _ (List.mem_of_getElem? (i := 551) (by decide +kernel)), good_of_word (by decide +kernel)⟩
theorem qw_413 : qG (Cond.code yX4_answerOf cX4_answerOf 4 (some .int)) := ⟨List.mem_append_right _ (List.mem_of_getElem? (i := 558) (by decide +kernel)), good_of_word (by decide +kernel)⟩
theorem qw_414 : qG (Cond.selects RX4 yX4_answerOf yX4_answerOf) := ⟨List.mem_append_right _ (List.mem_of_getElem? (i := 557) (by decide +kernel)), good_of_word (by decide +kernel)⟩
theorem qw_415 : qG (Cond.instanceMethod yX4_answerOf) := ⟨List.mem_append_right _ (List.mem_of_getElem? (i := 556) (by decide +kernel)), good_of_word (by decide +kernel)⟩
theorem qw_416 : qG (Cond.methodLink RX5 254 yX4_answerOf) := ⟨List.mem_append_right _ (List.mem_of_getElem? (i := 555) (by decide +kernel)), good_of_word (by decide +kernel)⟩
theorem qw_417 : qG (Cond.methodLink RX4 69 yX4_sightOf) := ⟨List.mem_append_right _ (List.mem_of_getElem? (i := 559) (by decide +kernel)), good_of_word (by decide +kernel)⟩
theorem qw_418 : qG (Cond.code yX5_days cX5_days 1 (some .int)) := ⟨List.mem_append_right _ (List.mem_of_getElem? (i := 550) (by decide +kernel)), good_of_word (by decide +kernel)⟩
theorem qw_419 : qG (Cond.selects RX5 yX5_days yX5_days) := ⟨List.mem_append_right _ (List.mem_of_getElem? (i := 549) (by decide +kernel)), good_of_word (by decide +kernel)⟩
theorem qw_420 : qG (Cond.instanceMethod yX5_days) := ⟨List.mem_append_right _ (List.mem_of_getElem? (i := 548) (by decide +kernel)), good_of_word (by decide +kernel)⟩
theorem qw_421 : qG (Cond.methodLink RL 110 yX5_days) := ⟨List.mem_append_right _ (List.mem_of_getElem? (i := 547) (by decide +kernel)), good_of_word (by decide +kernel)⟩
theorem qw_422 : qG (Cond.code yX5_lie cX5_lie 2 (some .int)) := ⟨List.mem_append_right _ (List.mem_of_getElem? (i := 563) (by decide +kernel)), good_of_word (by decide +kernel)⟩
theorem qw_423 : qG (Cond.selects RX5 yX5_lie yX5_lie) := ⟨List.mem_append_right _ (List.mem_of_getElem? (i := 562) (by decide +kernel)), good_of_word (by decide +kernel)⟩
theorem qw_424 : qG (Cond.instanceMethod yX5_lie) := ⟨List.mem_append_right _ (List.mem_of_getElem? (i := 561) (by decide +kernel)), good_of_word (by decide +kernel)⟩
theorem qw_425 : qG (Cond.methodLink RL 114 yX5_lie) := ⟨List.mem_append_right _ (List.mem_of_getElem? (i := 560) (by decide +kernel)), good_of_word (by decide +kernel)⟩
theorem qw_426 : qG (Cond.constant RJ6 267 (252645135)) := ⟨List.mem_append_right _ (List.mem_of_getElem? (i := 573) (by decide +kernel)), good_of_word (by decide +kernel)⟩
theorem qw_427 : qG (Cond.constant RJ6 266 (858993459)) := ⟨List.mem_append_right _ (List.mem_of_getElem? (i := 572) (by decide +kernel)), good_of_word (by decide +kernel)⟩
theorem qw_428 : qG (Cond.constant RJ6 265 (1431655765)) := ⟨List.mem_append_right _ (List.mem_of_getElem? (i := 571) (by decide +kernel)), good_of_word (by decide +kernel)⟩
theorem qw_429 : qG (Cond.code yJ6_bitCount_0f7a4 cJ6_bitCount_0f7a4 1 (some .int)) := ⟨List.mem_append_right _ (List.mem_of_getElem? (i := 570) (by decide +kernel)), good_of_word (by decide +kernel)⟩
theorem qw_430 : qG (Cond.initialized RJ6) := ⟨List.mem_append_right _ (List.mem_of_getElem? (i := 14) (by decide +kernel)), good_of_word (by decide +kernel)⟩
theorem qw_431 : qG (Cond.static yJ6_bitCount_0f7a4) := ⟨List.mem_append_right _ (List.mem_of_getElem? (i := 569) (by decide +kernel)), good_of_word (by decide +kernel)⟩
theorem qw_432 : qG (Cond.methodLink RX5 167 yJ6_bitCount_0f7a4) := ⟨List.mem_append_right _ (List.mem_of_getElem? (i := 568) (by decide +kernel)), good_of_word (by decide +kernel)⟩
theorem qw_433 : qG (Cond.methodLink RX5 257 yJ7_fill_53178) := ⟨List.mem_append_right _ (List.mem_of_getElem? (i := 578) (by decide +kernel)), good_of_word (by decide +kernel)⟩
theorem qw_434 : qG (Cond.code Lib.Math.max.name Lib.Math.max.code 2 (some .int)) := ⟨List.mem_append_right _ (List.mem_of_getElem? (i := 581) (by decide +kernel)), good_of_word (by decide +kernel)⟩
theorem qw_435 : qG (Cond.initialized "java/lang/Math") := ⟨List.mem_append_right _ (List.mem_of_getElem? (i := 15) (by decide +kernel)), good_of_word (by decide +kernel)⟩
theorem qw_436 : qG (Cond.static Lib.Math.max.name) := ⟨List.mem_append_right _ (List.mem_of_getElem? (i := 580) (by decide +kernel)), good_of_word (by decide +kernel)⟩
theorem qw_437 : qG (Cond.methodLink RX5 263 Lib.Math.max.name) := ⟨List.mem_append_right _ (List.mem_of_getElem? (i := 579) (by decide +kernel)), good_of_word (by decide +kernel)⟩
theorem qw_438 : qG (Cond.code yX5_leftAtWorst cX5_leftAtWorst 9 (some .int)) := ⟨List.mem_append_right _ (List.mem_of_getElem? (i := 577) (by decide +kernel)), good_of_word (by decide +kernel)⟩
theorem qw_439 : qG (Cond.selects RX5 yX5_leftAtWorst yX5_leftAtWorst) := ⟨List.mem_append_left _ (List.mem_of_getElem? (i := 19) (by decide +kernel)), good_of_word (by decide +kernel)⟩
theorem qw_440 : qG (Cond.instanceMethod yX5_leftAtWorst) := ⟨List.mem_append_right _ (List.mem_of_getElem? (i := 576) (by decide +kernel)), good_of_word (by decide +kernel)⟩
theorem qw_441 : qG (Cond.methodLink RX5 172 yX5_leftAtWorst) := ⟨List.mem_append_right _ (List.mem_of_getElem? (i := 574) (by decide +kernel)), good_of_word (by decide +kernel)⟩
theorem qw_442 : qG (Cond.code yX5_look cX5_look 9 (some .int)) := ⟨List.mem_append_right _ (List.mem_of_getElem? (i := 567) (by decide +kernel)), good_of_word (by decide +kernel)⟩
theorem qw_443 : qG (Cond.selects RX5 yX5_look yX5_look) := ⟨List.mem_append_right _ (List.mem_of_getElem? (i := 566) (by decide +kernel)), good_of_word (by decide +kernel)⟩
theorem qw_444 : qG (Cond.instanceMethod yX5_look) := ⟨List.mem_append_right _ (List.mem_of_getElem? (i := 565) (by decide +kernel)), good_of_word (by decide +kernel)⟩
theorem qw_445 : qG (Cond.methodLink RL 118 yX5_look) := ⟨List.mem_append_right _ (List.mem_of_getElem? (i := 564) (by decide +kernel)), good_of_word (by decide +kernel)⟩
theorem qw_446 : qG (Cond.constantLong RX5 177 (-4)) := ⟨List.mem_append_right _ (List.mem_of_getElem? (i := 587) (by decide +kernel)), good_of_word (by decide +kernel)⟩
theorem qw_447 : qG (Cond.constantLong RX5 175 (-1)) := ⟨List.mem_append_right _ (List.mem_of_getElem? (i := 586) (by decide +kernel)), good_of_word (by decide +kernel)⟩
theorem qw_448 : qG (Cond.code yX5_fractionPart cX5_fractionPart 12 (some .long)) := ⟨List.mem_append_right _ (List.mem_of_getElem? (i := 590) (by decide +kernel)), good_of_word (by decide +kernel)⟩
theorem qw_449 : qG (Cond.static yX5_fractionPart) := ⟨List.mem_append_right _ (List.mem_of_getElem? (i := 589) (by decide +kernel)), good_of_word (by decide +kernel)⟩
theorem qw_450 : qG (Cond.methodLink RX5 179 yX5_fractionPart) := ⟨List.mem_append_right _ (List.mem_of_getElem? (i := 588) (by decide +kernel)), good_of_word (by decide +kernel)⟩
theorem qw_451 : qG (Cond.code yX5_likely cX5_likely 8 (some .long)) := ⟨List.mem_append_right _ (List.mem_of_getElem? (i := 585) (by decide +kernel)), good_of_word (by decide +kernel)⟩
theorem qw_452 : qG (Cond.selects RX5 yX5_likely yX5_likely) := ⟨List.mem_append_right _ (List.mem_of_getElem? (i := 584) (by decide +kernel)), good_of_word (by decide +kernel)⟩
theorem qw_453 : qG (Cond.instanceMethod yX5_likely) := ⟨List.mem_append_right _ (List.mem_of_getElem? (i := 583) (by decide +kernel)), good_of_word (by decide +kernel)⟩
theorem qw_454 : qG (Cond.methodLink RL 122 yX5_likely) := ⟨List.mem_append_right _ (List.mem_of_getElem? (i := 582) (by decide +kernel)), good_of_word (by decide +kernel)⟩
theorem qw_455 : qG (Cond.code yX5_could cX5_could 4 (some .int)) := ⟨List.mem_append_right _ (List.mem_of_getElem? (i := 594) (by decide +kernel)), good_of_word (by decide +kernel)⟩
theorem qw_456 : qG (Cond.selects RX5 yX5_could yX5_could) := ⟨List.mem_append_right _ (List.mem_of_getElem? (i := 593) (by decide +kernel)), good_of_word (by decide +kernel)⟩
theorem qw_457 : qG (Cond.instanceMethod yX5_could) := ⟨List.mem_append_right _ (List.mem_of_getElem? (i := 592) (by decide +kernel)), good_of_word (by decide +kernel)⟩
theorem qw_458 : qG (Cond.methodLink RL 127 yX5_could) := ⟨List.mem_append_right _ (List.mem_of_getElem? (i := 591) (by decide +kernel)), good_of_word (by decide +kernel)⟩
theorem qw_459 : qG (Cond.methodLink RX4 75 yX4_unlike) := ⟨List.mem_append_right _ (List.mem_of_getElem? (i := 603) (by decide +kernel)), good_of_word (by decide +kernel)⟩
theorem qw_460 : qG (Cond.code yX4_tellingApart cX4_tellingApart 7 (some .int)) := ⟨List.mem_append_right _ (List.mem_of_getElem? (i := 602) (by decide +kernel)), good_of_word (by decide +kernel)⟩
theorem qw_461 : qG (Cond.selects RX4 yX4_tellingApart yX4_tellingApart) := ⟨List.mem_append_right _ (List.mem_of_getElem? (i := 601) (by decide +kernel)), good_of_word (by decide +kernel)⟩
theorem qw_462 : qG (Cond.instanceMethod yX4_tellingApart) := ⟨List.mem_append_right _ (List.mem_of_getElem? (i := 600) (by decide +kernel)), good_of_word (by decide +kernel)⟩
theorem qw_463 : qG (Cond.methodLink RX5 183 yX4_tellingApart) := ⟨List.mem_append_right _ (List.mem_of_getElem? (i := 599) (by decide +kernel)), good_of_word (by decide +kernel)⟩
theorem qw_464 : qG (Cond.code yX5_apart cX5_apart 3 (some .int)) := ⟨List.mem_append_right _ (List.mem_of_getElem? (i := 598) (by decide +kernel)), good_of_word (by decide +kernel)⟩
theorem qw_465 : qG (Cond.selects RX5 yX5_apart yX5_apart) := ⟨List.mem_append_right _ (List.mem_of_getElem? (i := 597) (by decide +kernel)), good_of_word (by decide +kernel)⟩
theorem qw_466 : qG (Cond.instanceMethod yX5_apart) := ⟨List.mem_append_right _ (List.mem_of_getElem? (i := 596) (by decide +kernel)), good_of_word (by decide +kernel)⟩
theorem qw_467 : qG (Cond.methodLink RL 131 yX5_apart) := ⟨List.mem_append_right _ (List.mem_of_getElem? (i := 595) (by decide +kernel)), good_of_word (by decide +kernel)⟩
theorem qw_468 : qG (Cond.instanceMethod yX5_meetsWants) := ⟨List.mem_append_right _ (List.mem_of_getElem? (i := 614) (by decide +kernel)), good_of_word (by decide +kernel)⟩
theorem qw_469 : qG (Cond.methodLink RX5 268 yX5_meetsWants) := ⟨List.mem_append_right _ (List.mem_of_getElem? (i := 612) (by decide +kernel)), good_of_word (by decide +kernel)⟩
theorem qw_470 : qG (Cond.code yX5_leastSet cX5_leastSet 7 (some .int)) := ⟨List.mem_append_right _ (List.mem_of_getElem? (i := 611) (by decide +kernel)), good_of_word (by decide +kernel)⟩
theorem qw_471 : qG (Cond.selects RX5 yX5_leastSet yX5_leastSet) := ⟨List.mem_append_left _ (List.mem_of_getElem? (i := 20) (by decide +kernel)), good_of_word (by decide +kernel)⟩
theorem qw_472 : qG (Cond.instanceMethod yX5_leastSet) := ⟨List.mem_append_right _ (List.mem_of_getElem? (i := 610) (by decide +kernel)), good_of_word (by decide +kernel)⟩
theorem qw_473 : qG (Cond.methodLink RX5 186 yX5_leastSet) := ⟨List.mem_append_right _ (List.mem_of_getElem? (i := 608) (by decide +kernel)), good_of_word (by decide +kernel)⟩
theorem qw_474 : qG (Cond.code yX5_nextOfSameSize cX5_nextOfSameSize 4 (some .int)) := ⟨List.mem_append_right _ (List.mem_of_getElem? (i := 618) (by decide +kernel)), good_of_word (by decide +kernel)⟩
theorem qw_475 : qG (Cond.static yX5_nextOfSameSize) := ⟨List.mem_append_right _ (List.mem_of_getElem? (i := 617) (by decide +kernel)), good_of_word (by decide +kernel)⟩
theorem qw_476 : qG (Cond.methodLink RX5 272 yX5_nextOfSameSize) := ⟨List.mem_append_right _ (List.mem_of_getElem? (i := 616) (by decide +kernel)), good_of_word (by decide +kernel)⟩
theorem qw_477 : qG (Cond.code yX5_meetsWants cX5_meetsWants 4 (some .boolean)) := ⟨List.mem_append_right _ (List.mem_of_getElem? (i := 615) (by decide +kernel)), good_of_word (by decide +kernel)⟩
theorem qw_478 : qG (Cond.selects RX5 yX5_meetsWants yX5_meetsWants) := ⟨List.mem_append_left _ (List.mem_of_getElem? (i := 21) (by decide +kernel)), good_of_word (by decide +kernel)⟩
theorem qw_479 : qG (Cond.code yX5_places cX5_places 8 (some .int)) := ⟨List.mem_append_right _ (List.mem_of_getElem? (i := 607) (by decide +kernel)), good_of_word (by decide +kernel)⟩
theorem qw_480 : qG (Cond.selects RX5 yX5_places yX5_places) := ⟨List.mem_append_right _ (List.mem_of_getElem? (i := 606) (by decide +kernel)), good_of_word (by decide +kernel)⟩
theorem qw_481 : qG (Cond.instanceMethod yX5_places) := ⟨List.mem_append_right _ (List.mem_of_getElem? (i := 605) (by decide +kernel)), good_of_word (by decide +kernel)⟩
theorem qw_482 : qG (Cond.methodLink RL 135 yX5_places) := ⟨List.mem_append_right _ (List.mem_of_getElem? (i := 604) (by decide +kernel)), good_of_word (by decide +kernel)⟩
theorem qw_483 : qG (Cond.code yX5_guard cX5_guard 8 (some .int)) := ⟨List.mem_append_right _ (List.mem_of_getElem? (i := 622) (by decide +kernel)), good_of_word (by decide +kernel)⟩
theorem qw_484 : qG (Cond.selects RX5 yX5_guard yX5_guard) := ⟨List.mem_append_right _ (List.mem_of_getElem? (i := 621) (by decide +kernel)), good_of_word (by decide +kernel)⟩
theorem qw_485 : qG (Cond.instanceMethod yX5_guard) := ⟨List.mem_append_right _ (List.mem_of_getElem? (i := 620) (by decide +kernel)), good_of_word (by decide +kernel)⟩
theorem qw_486 : qG (Cond.methodLink RL 139 yX5_guard) := ⟨List.mem_append_right _ (List.mem_of_getElem? (i := 619) (by decide +kernel)), good_of_word (by decide +kernel)⟩
theorem qw_487 : qG (Cond.code yX5_hide cX5_hide 5 (some .int)) := ⟨List.mem_append_right _ (List.mem_of_getElem? (i := 626) (by decide +kernel)), good_of_word (by decide +kernel)⟩
theorem qw_488 : qG (Cond.selects RX5 yX5_hide yX5_hide) := ⟨List.mem_append_right _ (List.mem_of_getElem? (i := 625) (by decide +kernel)), good_of_word (by decide +kernel)⟩
theorem qw_489 : qG (Cond.instanceMethod yX5_hide) := ⟨List.mem_append_right _ (List.mem_of_getElem? (i := 624) (by decide +kernel)), good_of_word (by decide +kernel)⟩
theorem qw_490 : qG (Cond.methodLink RL 143 yX5_hide) := ⟨List.mem_append_right _ (List.mem_of_getElem? (i := 623) (by decide +kernel)), good_of_word (by decide +kernel)⟩
theorem qw_491 : qG (Cond.code yX5_best cX5_best 7 (some .int)) := ⟨List.mem_append_right _ (List.mem_of_getElem? (i := 630) (by decide +kernel)), good_of_word (by decide +kernel)⟩
theorem qw_492 : qG (Cond.selects RX5 yX5_best yX5_best) := ⟨List.mem_append_right _ (List.mem_of_getElem? (i := 629) (by decide +kernel)), good_of_word (by decide +kernel)⟩
theorem qw_493 : qG (Cond.instanceMethod yX5_best) := ⟨List.mem_append_right _ (List.mem_of_getElem? (i := 628) (by decide +kernel)), good_of_word (by decide +kernel)⟩
theorem qw_494 : qG (Cond.methodLink RL 147 yX5_best) := ⟨List.mem_append_right _ (List.mem_of_getElem? (i := 627) (by decide +kernel)), good_of_word (by decide +kernel)⟩
theorem qw_495 : qG (Cond.constantLong RX5 275 (10)) := ⟨List.mem_append_right _ (List.mem_of_getElem? (i := 642) (by decide +kernel)), good_of_word (by decide +kernel)⟩
theorem qw_496 : qG (Cond.code yX5_partsShown cX5_partsShown 8 (some .long)) := ⟨List.mem_append_right _ (List.mem_of_getElem? (i := 641) (by decide +kernel)), good_of_word (by decide +kernel)⟩
theorem qw_497 : qG (Cond.selects RX5 yX5_partsShown yX5_partsShown) := ⟨List.mem_append_left _ (List.mem_of_getElem? (i := 22) (by decide +kernel)), good_of_word (by decide +kernel)⟩
