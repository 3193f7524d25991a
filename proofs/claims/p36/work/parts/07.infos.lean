/-! ===== what the tables say of each method ===== -/
set_option maxRecDepth 20000 in
theorem mi_X6_init : MIi yX6_init cX6_init 1 0 := ⟨inTB_of 23 (by decide +kernel) (by decide +kernel), inTB_of 10 (by decide +kernel) (by decide +kernel), inTB_of 24 (by decide +kernel) (by decide +kernel), (by decide +kernel), (by decide +kernel), rfl⟩
set_option maxRecDepth 20000 in
theorem mi_X1_init : MIi yX1_init cX1_init 2 0 := ⟨inTB_of 31 (by decide +kernel) (by decide +kernel), inTB_of 11 (by decide +kernel) (by decide +kernel), inTB_of 32 (by decide +kernel) (by decide +kernel), (by decide +kernel), (by decide +kernel), rfl⟩
set_option maxRecDepth 20000 in
theorem mi_J7_fill_53178 : MIs yJ7_fill_53178 cJ7_fill_53178 4 none 2 := ⟨inTB_of 37 (by decide +kernel) (by decide +kernel), inTB_of 12 (by decide +kernel) (by decide +kernel), inTB_of 38 (by decide +kernel) (by decide +kernel), (by decide +kernel), (by decide +kernel)⟩
set_option maxRecDepth 20000 in
theorem mi_X5_init : MIi yX5_init cX5_init 1 0 := ⟨inTB_of 41 (by decide +kernel) (by decide +kernel), inTB_of 13 (by decide +kernel) (by decide +kernel), inTB_of 42 (by decide +kernel) (by decide +kernel), (by decide +kernel), (by decide +kernel), rfl⟩
set_option maxRecDepth 20000 in
theorem mi_X0_init : MIi yX0_init cX0_init 2 0 := ⟨inTB_of 136 (by decide +kernel) (by decide +kernel), inTB_of 14 (by decide +kernel) (by decide +kernel), inTB_of 137 (by decide +kernel) (by decide +kernel), (by decide +kernel), (by decide +kernel), rfl⟩
set_option maxRecDepth 20000 in
theorem mi_X3_init : MIi yX3_init cX3_init 1 0 := ⟨inTB_of 153 (by decide +kernel) (by decide +kernel), inTB_of 15 (by decide +kernel) (by decide +kernel), inTB_of 154 (by decide +kernel) (by decide +kernel), (by decide +kernel), (by decide +kernel), rfl⟩
set_option maxRecDepth 20000 in
theorem mi_X4_init : MIi yX4_init cX4_init 1 0 := ⟨inTB_of 173 (by decide +kernel) (by decide +kernel), inTB_of 16 (by decide +kernel) (by decide +kernel), inTB_of 174 (by decide +kernel) (by decide +kernel), (by decide +kernel), (by decide +kernel), rfl⟩
set_option maxRecDepth 20000 in
theorem mi_X2_init : MIi yX2_init cX2_init 1 0 := ⟨inTB_of 194 (by decide +kernel) (by decide +kernel), inTB_of 17 (by decide +kernel) (by decide +kernel), inTB_of 195 (by decide +kernel) (by decide +kernel), (by decide +kernel), (by decide +kernel), rfl⟩
set_option maxRecDepth 20000 in
theorem mi_X6_setPressure : MIv yX6_setPressure RX6 cX6_setPressure 4 (some .int) 2 := ⟨inTB_of 234 (by decide +kernel) (by decide +kernel), inTB_of 235 (by decide +kernel) (by decide +kernel), inTB_of 10 (by decide +kernel) (by decide +kernel), inTB_of 236 (by decide +kernel) (by decide +kernel), (by decide +kernel), (by decide +kernel)⟩
set_option maxRecDepth 20000 in
theorem mi_X1_hasHeader : MIv yX1_hasHeader RX1 cX1_hasHeader 2 (some .boolean) 1 := ⟨inTB_of 238 (by decide +kernel) (by decide +kernel), inTB_of 239 (by decide +kernel) (by decide +kernel), inTB_of 11 (by decide +kernel) (by decide +kernel), inTB_of 240 (by decide +kernel) (by decide +kernel), (by decide +kernel), (by decide +kernel)⟩
set_option maxRecDepth 20000 in
theorem mi_X6_isWithin : MIs yX6_isWithin cX6_isWithin 3 (some .boolean) 3 := ⟨inTB_of 242 (by decide +kernel) (by decide +kernel), inTB_of 10 (by decide +kernel) (by decide +kernel), inTB_of 243 (by decide +kernel) (by decide +kernel), (by decide +kernel), (by decide +kernel)⟩
set_option maxRecDepth 20000 in
theorem mi_X0_keep : MIv yX0_keep RX0 cX0_keep 2 none 1 := ⟨inTB_of 245 (by decide +kernel) (by decide +kernel), inTB_of 246 (by decide +kernel) (by decide +kernel), inTB_of 14 (by decide +kernel) (by decide +kernel), inTB_of 247 (by decide +kernel) (by decide +kernel), (by decide +kernel), (by decide +kernel)⟩
set_option maxRecDepth 20000 in
theorem mi_X0_dropOldest : MIv yX0_dropOldest RX0 cX0_dropOldest 3 none 0 := ⟨inTB_of 250 (by decide +kernel) (by decide +kernel), inTB_of 0 (by decide +kernel) (by decide +kernel), inTB_of 14 (by decide +kernel) (by decide +kernel), inTB_of 251 (by decide +kernel) (by decide +kernel), (by decide +kernel), (by decide +kernel)⟩
set_option maxRecDepth 20000 in
theorem mi_X1_copyFrom : MIv yX1_copyFrom RX1 cX1_copyFrom 3 none 1 := ⟨inTB_of 253 (by decide +kernel) (by decide +kernel), inTB_of 254 (by decide +kernel) (by decide +kernel), inTB_of 11 (by decide +kernel) (by decide +kernel), inTB_of 255 (by decide +kernel) (by decide +kernel), (by decide +kernel), (by decide +kernel)⟩
set_option maxRecDepth 20000 in
theorem mi_X5_copyFrom : MIv yX5_copyFrom RX5 cX5_copyFrom 2 none 1 := ⟨inTB_of 260 (by decide +kernel) (by decide +kernel), inTB_of 261 (by decide +kernel) (by decide +kernel), inTB_of 13 (by decide +kernel) (by decide +kernel), inTB_of 262 (by decide +kernel) (by decide +kernel), (by decide +kernel), (by decide +kernel)⟩
set_option maxRecDepth 20000 in
theorem mi_X6_addLine : MIv yX6_addLine RX6 cX6_addLine 3 (some .int) 1 := ⟨inTB_of 264 (by decide +kernel) (by decide +kernel), inTB_of 265 (by decide +kernel) (by decide +kernel), inTB_of 10 (by decide +kernel) (by decide +kernel), inTB_of 266 (by decide +kernel) (by decide +kernel), (by decide +kernel), (by decide +kernel)⟩
set_option maxRecDepth 20000 in
theorem mi_X6_addTrap : MIv yX6_addTrap RX6 cX6_addTrap 7 (some .int) 5 := ⟨inTB_of 268 (by decide +kernel) (by decide +kernel), inTB_of 269 (by decide +kernel) (by decide +kernel), inTB_of 10 (by decide +kernel) (by decide +kernel), inTB_of 270 (by decide +kernel) (by decide +kernel), (by decide +kernel), (by decide +kernel)⟩
set_option maxRecDepth 20000 in
theorem mi_X1_hasLine : MIv yX1_hasLine RX1 cX1_hasLine 2 (some .boolean) 1 := ⟨inTB_of 272 (by decide +kernel) (by decide +kernel), inTB_of 273 (by decide +kernel) (by decide +kernel), inTB_of 11 (by decide +kernel) (by decide +kernel), inTB_of 274 (by decide +kernel) (by decide +kernel), (by decide +kernel), (by decide +kernel)⟩
set_option maxRecDepth 20000 in
theorem mi_X5_install : MIv yX5_install RX5 cX5_install 6 none 5 := ⟨inTB_of 276 (by decide +kernel) (by decide +kernel), inTB_of 277 (by decide +kernel) (by decide +kernel), inTB_of 13 (by decide +kernel) (by decide +kernel), inTB_of 278 (by decide +kernel) (by decide +kernel), (by decide +kernel), (by decide +kernel)⟩
set_option maxRecDepth 20000 in
theorem mi_X6_setWork : MIv yX6_setWork RX6 cX6_setWork 5 (some .int) 3 := ⟨inTB_of 280 (by decide +kernel) (by decide +kernel), inTB_of 281 (by decide +kernel) (by decide +kernel), inTB_of 10 (by decide +kernel) (by decide +kernel), inTB_of 282 (by decide +kernel) (by decide +kernel), (by decide +kernel), (by decide +kernel)⟩
set_option maxRecDepth 20000 in
theorem mi_X6_count : MIv yX6_count RX6 cX6_count 2 (some .int) 1 := ⟨inTB_of 284 (by decide +kernel) (by decide +kernel), inTB_of 285 (by decide +kernel) (by decide +kernel), inTB_of 10 (by decide +kernel) (by decide +kernel), inTB_of 286 (by decide +kernel) (by decide +kernel), (by decide +kernel), (by decide +kernel)⟩
set_option maxRecDepth 20000 in
theorem mi_X6_trap : MIv yX6_trap RX6 cX6_trap 4 (some .int) 2 := ⟨inTB_of 288 (by decide +kernel) (by decide +kernel), inTB_of 289 (by decide +kernel) (by decide +kernel), inTB_of 10 (by decide +kernel) (by decide +kernel), inTB_of 290 (by decide +kernel) (by decide +kernel), (by decide +kernel), (by decide +kernel)⟩
set_option maxRecDepth 20000 in
theorem mi_X1_trapAt : MIv yX1_trapAt RX1 cX1_trapAt 2 (some (.object "TrapSurvey$Trap")) 1 := ⟨inTB_of 292 (by decide +kernel) (by decide +kernel), inTB_of 293 (by decide +kernel) (by decide +kernel), inTB_of 11 (by decide +kernel) (by decide +kernel), inTB_of 294 (by decide +kernel) (by decide +kernel), (by decide +kernel), (by decide +kernel)⟩
set_option maxRecDepth 20000 in
theorem mi_X1_headerOfLine : MIv yX1_headerOfLine RX1 cX1_headerOfLine 2 (some .int) 1 := ⟨inTB_of 296 (by decide +kernel) (by decide +kernel), inTB_of 297 (by decide +kernel) (by decide +kernel), inTB_of 11 (by decide +kernel) (by decide +kernel), inTB_of 298 (by decide +kernel) (by decide +kernel), (by decide +kernel), (by decide +kernel)⟩
set_option maxRecDepth 20000 in
theorem mi_X6_read : MIv yX6_read RX6 cX6_read 6 (some .int) 4 := ⟨inTB_of 301 (by decide +kernel) (by decide +kernel), inTB_of 302 (by decide +kernel) (by decide +kernel), inTB_of 10 (by decide +kernel) (by decide +kernel), inTB_of 303 (by decide +kernel) (by decide +kernel), (by decide +kernel), (by decide +kernel)⟩
set_option maxRecDepth 20000 in
theorem mi_X6_judge : MIv yX6_judge RX6 cX6_judge 6 (some .int) 4 := ⟨inTB_of 305 (by decide +kernel) (by decide +kernel), inTB_of 306 (by decide +kernel) (by decide +kernel), inTB_of 10 (by decide +kernel) (by decide +kernel), inTB_of 307 (by decide +kernel) (by decide +kernel), (by decide +kernel), (by decide +kernel)⟩
set_option maxRecDepth 20000 in
theorem mi_X1_pressureAt : MIv yX1_pressureAt RX1 cX1_pressureAt 2 (some .int) 1 := ⟨inTB_of 309 (by decide +kernel) (by decide +kernel), inTB_of 310 (by decide +kernel) (by decide +kernel), inTB_of 11 (by decide +kernel) (by decide +kernel), inTB_of 311 (by decide +kernel) (by decide +kernel), (by decide +kernel), (by decide +kernel)⟩
set_option maxRecDepth 20000 in
theorem mi_X1_pressureOfHeader : MIv yX1_pressureOfHeader RX1 cX1_pressureOfHeader 2 (some .int) 1 := ⟨inTB_of 314 (by decide +kernel) (by decide +kernel), inTB_of 315 (by decide +kernel) (by decide +kernel), inTB_of 11 (by decide +kernel) (by decide +kernel), inTB_of 316 (by decide +kernel) (by decide +kernel), (by decide +kernel), (by decide +kernel)⟩
set_option maxRecDepth 20000 in
theorem mi_X5_judged : MIv yX5_judged RX5 cX5_judged 6 (some .int) 4 := ⟨inTB_of 319 (by decide +kernel) (by decide +kernel), inTB_of 320 (by decide +kernel) (by decide +kernel), inTB_of 13 (by decide +kernel) (by decide +kernel), inTB_of 321 (by decide +kernel) (by decide +kernel), (by decide +kernel), (by decide +kernel)⟩
set_option maxRecDepth 20000 in
theorem mi_X5_judgedAsBucket : MIs yX5_judgedAsBucket cX5_judgedAsBucket 1 (some .int) 1 := ⟨inTB_of 323 (by decide +kernel) (by decide +kernel), inTB_of 13 (by decide +kernel) (by decide +kernel), inTB_of 324 (by decide +kernel) (by decide +kernel), (by decide +kernel), (by decide +kernel)⟩
set_option maxRecDepth 20000 in
theorem mi_X5_judgedAsThermostatic : MIs yX5_judgedAsThermostatic cX5_judgedAsThermostatic 2 (some .int) 2 := ⟨inTB_of 326 (by decide +kernel) (by decide +kernel), inTB_of 13 (by decide +kernel) (by decide +kernel), inTB_of 327 (by decide +kernel) (by decide +kernel), (by decide +kernel), (by decide +kernel)⟩
set_option maxRecDepth 20000 in
theorem mi_X5_judgedAsDisc : MIs yX5_judgedAsDisc cX5_judgedAsDisc 3 (some .int) 3 := ⟨inTB_of 329 (by decide +kernel) (by decide +kernel), inTB_of 13 (by decide +kernel) (by decide +kernel), inTB_of 330 (by decide +kernel) (by decide +kernel), (by decide +kernel), (by decide +kernel)⟩
set_option maxRecDepth 20000 in
theorem mi_X1_takeReading : MIv yX1_takeReading RX1 cX1_takeReading 6 none 4 := ⟨inTB_of 332 (by decide +kernel) (by decide +kernel), inTB_of 333 (by decide +kernel) (by decide +kernel), inTB_of 11 (by decide +kernel) (by decide +kernel), inTB_of 334 (by decide +kernel) (by decide +kernel), (by decide +kernel), (by decide +kernel)⟩
set_option maxRecDepth 20000 in
theorem mi_X6_pass : MIv yX6_pass RX6 cX6_pass 2 (some .int) 1 := ⟨inTB_of 340 (by decide +kernel) (by decide +kernel), inTB_of 341 (by decide +kernel) (by decide +kernel), inTB_of 10 (by decide +kernel) (by decide +kernel), inTB_of 342 (by decide +kernel) (by decide +kernel), (by decide +kernel), (by decide +kernel)⟩
set_option maxRecDepth 20000 in
theorem mi_X1_letPass : MIv yX1_letPass RX1 cX1_letPass 3 none 1 := ⟨inTB_of 344 (by decide +kernel) (by decide +kernel), inTB_of 345 (by decide +kernel) (by decide +kernel), inTB_of 11 (by decide +kernel) (by decide +kernel), inTB_of 346 (by decide +kernel) (by decide +kernel), (by decide +kernel), (by decide +kernel)⟩
set_option maxRecDepth 20000 in
theorem mi_X1_lossOf : MIv yX1_lossOf RX1 cX1_lossOf 2 (some .int) 1 := ⟨inTB_of 348 (by decide +kernel) (by decide +kernel), inTB_of 349 (by decide +kernel) (by decide +kernel), inTB_of 11 (by decide +kernel) (by decide +kernel), inTB_of 350 (by decide +kernel) (by decide +kernel), (by decide +kernel), (by decide +kernel)⟩
set_option maxRecDepth 20000 in
theorem mi_X5_lossUnder : MIv yX5_lossUnder RX5 cX5_lossUnder 3 (some .int) 1 := ⟨inTB_of 352 (by decide +kernel) (by decide +kernel), inTB_of 353 (by decide +kernel) (by decide +kernel), inTB_of 13 (by decide +kernel) (by decide +kernel), inTB_of 354 (by decide +kernel) (by decide +kernel), (by decide +kernel), (by decide +kernel)⟩
set_option maxRecDepth 20000 in
theorem mi_X6_inState : MIv yX6_inState RX6 cX6_inState 2 (some .int) 1 := ⟨inTB_of 356 (by decide +kernel) (by decide +kernel), inTB_of 357 (by decide +kernel) (by decide +kernel), inTB_of 10 (by decide +kernel) (by decide +kernel), inTB_of 358 (by decide +kernel) (by decide +kernel), (by decide +kernel), (by decide +kernel)⟩
set_option maxRecDepth 20000 in
theorem mi_X1_trapsInState : MIv yX1_trapsInState RX1 cX1_trapsInState 4 (some .int) 1 := ⟨inTB_of 360 (by decide +kernel) (by decide +kernel), inTB_of 361 (by decide +kernel) (by decide +kernel), inTB_of 11 (by decide +kernel) (by decide +kernel), inTB_of 362 (by decide +kernel) (by decide +kernel), (by decide +kernel), (by decide +kernel)⟩
set_option maxRecDepth 20000 in
theorem mi_X6_loss : MIv yX6_loss RX6 cX6_loss 3 (some .int) 1 := ⟨inTB_of 364 (by decide +kernel) (by decide +kernel), inTB_of 365 (by decide +kernel) (by decide +kernel), inTB_of 10 (by decide +kernel) (by decide +kernel), inTB_of 366 (by decide +kernel) (by decide +kernel), (by decide +kernel), (by decide +kernel)⟩
set_option maxRecDepth 20000 in
theorem mi_X6_headerLoss : MIv yX6_headerLoss RX6 cX6_headerLoss 2 (some .int) 1 := ⟨inTB_of 369 (by decide +kernel) (by decide +kernel), inTB_of 370 (by decide +kernel) (by decide +kernel), inTB_of 10 (by decide +kernel) (by decide +kernel), inTB_of 371 (by decide +kernel) (by decide +kernel), (by decide +kernel), (by decide +kernel)⟩
set_option maxRecDepth 20000 in
theorem mi_X1_lossOfHeader : MIv yX1_lossOfHeader RX1 cX1_lossOfHeader 4 (some .int) 1 := ⟨inTB_of 373 (by decide +kernel) (by decide +kernel), inTB_of 374 (by decide +kernel) (by decide +kernel), inTB_of 11 (by decide +kernel) (by decide +kernel), inTB_of 375 (by decide +kernel) (by decide +kernel), (by decide +kernel), (by decide +kernel)⟩
set_option maxRecDepth 20000 in
theorem mi_X6_lost : MIv yX6_lost RX6 cX6_lost 3 (some .long) 1 := ⟨inTB_of 377 (by decide +kernel) (by decide +kernel), inTB_of 378 (by decide +kernel) (by decide +kernel), inTB_of 10 (by decide +kernel) (by decide +kernel), inTB_of 379 (by decide +kernel) (by decide +kernel), (by decide +kernel), (by decide +kernel)⟩
set_option maxRecDepth 20000 in
theorem mi_X1_lostByAll : MIv yX1_lostByAll RX1 cX1_lostByAll 4 (some .long) 0 := ⟨inTB_of 381 (by decide +kernel) (by decide +kernel), inTB_of 382 (by decide +kernel) (by decide +kernel), inTB_of 11 (by decide +kernel) (by decide +kernel), inTB_of 383 (by decide +kernel) (by decide +kernel), (by decide +kernel), (by decide +kernel)⟩
set_option maxRecDepth 20000 in
theorem mi_X6_payback : MIv yX6_payback RX6 cX6_payback 3 (some .long) 1 := ⟨inTB_of 386 (by decide +kernel) (by decide +kernel), inTB_of 387 (by decide +kernel) (by decide +kernel), inTB_of 10 (by decide +kernel) (by decide +kernel), inTB_of 388 (by decide +kernel) (by decide +kernel), (by decide +kernel), (by decide +kernel)⟩
set_option maxRecDepth 20000 in
theorem mi_X1_paybackOf : MIv yX1_paybackOf RX1 cX1_paybackOf 4 (some .long) 1 := ⟨inTB_of 390 (by decide +kernel) (by decide +kernel), inTB_of 391 (by decide +kernel) (by decide +kernel), inTB_of 11 (by decide +kernel) (by decide +kernel), inTB_of 392 (by decide +kernel) (by decide +kernel), (by decide +kernel), (by decide +kernel)⟩
set_option maxRecDepth 20000 in
theorem mi_X1_priceADay : MIv yX1_priceADay RX1 cX1_priceADay 2 (some .long) 1 := ⟨inTB_of 394 (by decide +kernel) (by decide +kernel), inTB_of 395 (by decide +kernel) (by decide +kernel), inTB_of 11 (by decide +kernel) (by decide +kernel), inTB_of 396 (by decide +kernel) (by decide +kernel), (by decide +kernel), (by decide +kernel)⟩
set_option maxRecDepth 20000 in
theorem mi_X5_costOfRepair : MIv yX5_costOfRepair RX5 cX5_costOfRepair 1 (some .int) 0 := ⟨inTB_of 400 (by decide +kernel) (by decide +kernel), inTB_of 401 (by decide +kernel) (by decide +kernel), inTB_of 13 (by decide +kernel) (by decide +kernel), inTB_of 402 (by decide +kernel) (by decide +kernel), (by decide +kernel), (by decide +kernel)⟩
set_option maxRecDepth 20000 in
theorem mi_X6_order : MIv yX6_order RX6 cX6_order 2 (some .int) 1 := ⟨inTB_of 404 (by decide +kernel) (by decide +kernel), inTB_of 405 (by decide +kernel) (by decide +kernel), inTB_of 10 (by decide +kernel) (by decide +kernel), inTB_of 406 (by decide +kernel) (by decide +kernel), (by decide +kernel), (by decide +kernel)⟩
set_option maxRecDepth 20000 in
theorem mi_X3_rankTraps : MIv yX3_rankTraps RX3 cX3_rankTraps 3 none 1 := ⟨inTB_of 408 (by decide +kernel) (by decide +kernel), inTB_of 409 (by decide +kernel) (by decide +kernel), inTB_of 15 (by decide +kernel) (by decide +kernel), inTB_of 410 (by decide +kernel) (by decide +kernel), (by decide +kernel), (by decide +kernel)⟩
set_option maxRecDepth 20000 in
theorem mi_X3_insert : MIv yX3_insert RX3 cX3_insert 3 none 1 := ⟨inTB_of 415 (by decide +kernel) (by decide +kernel), inTB_of 1 (by decide +kernel) (by decide +kernel), inTB_of 15 (by decide +kernel) (by decide +kernel), inTB_of 416 (by decide +kernel) (by decide +kernel), (by decide +kernel), (by decide +kernel)⟩
set_option maxRecDepth 20000 in
theorem mi_X3_isBetter : MIv yX3_isBetter RX3 cX3_isBetter 3 (some .boolean) 2 := ⟨inTB_of 419 (by decide +kernel) (by decide +kernel), inTB_of 2 (by decide +kernel) (by decide +kernel), inTB_of 15 (by decide +kernel) (by decide +kernel), inTB_of 420 (by decide +kernel) (by decide +kernel), (by decide +kernel), (by decide +kernel)⟩
set_option maxRecDepth 20000 in
theorem mi_X3_trapAtRank : MIv yX3_trapAtRank RX3 cX3_trapAtRank 2 (some .int) 1 := ⟨inTB_of 422 (by decide +kernel) (by decide +kernel), inTB_of 423 (by decide +kernel) (by decide +kernel), inTB_of 15 (by decide +kernel) (by decide +kernel), inTB_of 424 (by decide +kernel) (by decide +kernel), (by decide +kernel), (by decide +kernel)⟩
set_option maxRecDepth 20000 in
theorem mi_X6_repairAll : MIv yX6_repairAll RX6 cX6_repairAll 6 (some .int) 1 := ⟨inTB_of 426 (by decide +kernel) (by decide +kernel), inTB_of 427 (by decide +kernel) (by decide +kernel), inTB_of 10 (by decide +kernel) (by decide +kernel), inTB_of 428 (by decide +kernel) (by decide +kernel), (by decide +kernel), (by decide +kernel)⟩
set_option maxRecDepth 20000 in
theorem mi_X1_mend : MIv yX1_mend RX1 cX1_mend 2 none 1 := ⟨inTB_of 431 (by decide +kernel) (by decide +kernel), inTB_of 432 (by decide +kernel) (by decide +kernel), inTB_of 11 (by decide +kernel) (by decide +kernel), inTB_of 433 (by decide +kernel) (by decide +kernel), (by decide +kernel), (by decide +kernel)⟩
set_option maxRecDepth 20000 in
theorem mi_X6_round : MIv yX6_round RX6 cX6_round 2 (some .int) 1 := ⟨inTB_of 435 (by decide +kernel) (by decide +kernel), inTB_of 436 (by decide +kernel) (by decide +kernel), inTB_of 10 (by decide +kernel) (by decide +kernel), inTB_of 437 (by decide +kernel) (by decide +kernel), (by decide +kernel), (by decide +kernel)⟩
set_option maxRecDepth 20000 in
theorem mi_X4_plan : MIv yX4_plan RX4 cX4_plan 7 none 1 := ⟨inTB_of 439 (by decide +kernel) (by decide +kernel), inTB_of 440 (by decide +kernel) (by decide +kernel), inTB_of 16 (by decide +kernel) (by decide +kernel), inTB_of 441 (by decide +kernel) (by decide +kernel), (by decide +kernel), (by decide +kernel)⟩
set_option maxRecDepth 20000 in
theorem mi_X1_needsVisit : MIv yX1_needsVisit RX1 cX1_needsVisit 2 (some .boolean) 1 := ⟨inTB_of 443 (by decide +kernel) (by decide +kernel), inTB_of 444 (by decide +kernel) (by decide +kernel), inTB_of 11 (by decide +kernel) (by decide +kernel), inTB_of 445 (by decide +kernel) (by decide +kernel), (by decide +kernel), (by decide +kernel)⟩
set_option maxRecDepth 20000 in
theorem mi_X4_nearestWaiting : MIv yX4_nearestWaiting RX4 cX4_nearestWaiting 8 (some .int) 3 := ⟨inTB_of 448 (by decide +kernel) (by decide +kernel), inTB_of 3 (by decide +kernel) (by decide +kernel), inTB_of 16 (by decide +kernel) (by decide +kernel), inTB_of 449 (by decide +kernel) (by decide +kernel), (by decide +kernel), (by decide +kernel)⟩
set_option maxRecDepth 20000 in
theorem mi_X5_wayFrom : MIv yX5_wayFrom RX5 cX5_wayFrom 3 (some .int) 2 := ⟨inTB_of 451 (by decide +kernel) (by decide +kernel), inTB_of 452 (by decide +kernel) (by decide +kernel), inTB_of 13 (by decide +kernel) (by decide +kernel), inTB_of 453 (by decide +kernel) (by decide +kernel), (by decide +kernel), (by decide +kernel)⟩
set_option maxRecDepth 20000 in
theorem mi_J9_abs_0f7a4 : MIs yJ9_abs_0f7a4 cJ9_abs_0f7a4 1 (some .int) 1 := ⟨inTB_of 455 (by decide +kernel) (by decide +kernel), inTB_of 19 (by decide +kernel) (by decide +kernel), inTB_of 456 (by decide +kernel) (by decide +kernel), (by decide +kernel), (by decide +kernel)⟩
set_option maxRecDepth 20000 in
theorem mi_X4_stopAt : MIv yX4_stopAt RX4 cX4_stopAt 2 (some .int) 1 := ⟨inTB_of 459 (by decide +kernel) (by decide +kernel), inTB_of 460 (by decide +kernel) (by decide +kernel), inTB_of 16 (by decide +kernel) (by decide +kernel), inTB_of 461 (by decide +kernel) (by decide +kernel), (by decide +kernel), (by decide +kernel)⟩
set_option maxRecDepth 20000 in
theorem mi_X6_roundLength : MIv yX6_roundLength RX6 cX6_roundLength 1 (some .int) 0 := ⟨inTB_of 463 (by decide +kernel) (by decide +kernel), inTB_of 464 (by decide +kernel) (by decide +kernel), inTB_of 10 (by decide +kernel) (by decide +kernel), inTB_of 465 (by decide +kernel) (by decide +kernel), (by decide +kernel), (by decide +kernel)⟩
set_option maxRecDepth 20000 in
theorem mi_X6_undo : MIv yX6_undo RX6 cX6_undo 1 (some .int) 0 := ⟨inTB_of 467 (by decide +kernel) (by decide +kernel), inTB_of 468 (by decide +kernel) (by decide +kernel), inTB_of 10 (by decide +kernel) (by decide +kernel), inTB_of 469 (by decide +kernel) (by decide +kernel), (by decide +kernel), (by decide +kernel)⟩
set_option maxRecDepth 20000 in
theorem mi_X0_takeBack : MIv yX0_takeBack RX0 cX0_takeBack 2 (some .boolean) 1 := ⟨inTB_of 471 (by decide +kernel) (by decide +kernel), inTB_of 472 (by decide +kernel) (by decide +kernel), inTB_of 14 (by decide +kernel) (by decide +kernel), inTB_of 473 (by decide +kernel) (by decide +kernel), (by decide +kernel), (by decide +kernel)⟩
set_option maxRecDepth 20000 in
theorem mi_X6_readAll : MIv yX6_readAll RX6 cX6_readAll 3 (some .int) 0 := ⟨inTB_of 475 (by decide +kernel) (by decide +kernel), inTB_of 476 (by decide +kernel) (by decide +kernel), inTB_of 10 (by decide +kernel) (by decide +kernel), inTB_of 477 (by decide +kernel) (by decide +kernel), (by decide +kernel), (by decide +kernel)⟩
set_option maxRecDepth 20000 in
theorem mi_X2_faultFor : MIv yX2_faultFor RX2 cX2_faultFor 2 (some .int) 1 := ⟨inTB_of 479 (by decide +kernel) (by decide +kernel), inTB_of 480 (by decide +kernel) (by decide +kernel), inTB_of 17 (by decide +kernel) (by decide +kernel), inTB_of 481 (by decide +kernel) (by decide +kernel), (by decide +kernel), (by decide +kernel)⟩
set_option maxRecDepth 20000 in
theorem mi_X2_scanList : MIv yX2_scanList RX2 cX2_scanList 3 (some .boolean) 1 := ⟨inTB_of 484 (by decide +kernel) (by decide +kernel), inTB_of 4 (by decide +kernel) (by decide +kernel), inTB_of 17 (by decide +kernel) (by decide +kernel), inTB_of 485 (by decide +kernel) (by decide +kernel), (by decide +kernel), (by decide +kernel)⟩
set_option maxRecDepth 20000 in
theorem mi_X2_scanReading : MIv yX2_scanReading RX2 cX2_scanReading 3 (some .boolean) 2 := ⟨inTB_of 488 (by decide +kernel) (by decide +kernel), inTB_of 5 (by decide +kernel) (by decide +kernel), inTB_of 17 (by decide +kernel) (by decide +kernel), inTB_of 489 (by decide +kernel) (by decide +kernel), (by decide +kernel), (by decide +kernel)⟩
set_option maxRecDepth 20000 in
theorem mi_X2_scanNumber : MIv yX2_scanNumber RX2 cX2_scanNumber 7 (some .boolean) 3 := ⟨inTB_of 492 (by decide +kernel) (by decide +kernel), inTB_of 6 (by decide +kernel) (by decide +kernel), inTB_of 17 (by decide +kernel) (by decide +kernel), inTB_of 493 (by decide +kernel) (by decide +kernel), (by decide +kernel), (by decide +kernel)⟩
set_option maxRecDepth 20000 in
theorem mi_X2_skipBlanks : MIv yX2_skipBlanks RX2 cX2_skipBlanks 1 none 0 := ⟨inTB_of 496 (by decide +kernel) (by decide +kernel), inTB_of 7 (by decide +kernel) (by decide +kernel), inTB_of 17 (by decide +kernel) (by decide +kernel), inTB_of 497 (by decide +kernel) (by decide +kernel), (by decide +kernel), (by decide +kernel)⟩
set_option maxRecDepth 20000 in
theorem mi_X2_isDigit : MIs yX2_isDigit cX2_isDigit 1 (some .boolean) 1 := ⟨inTB_of 499 (by decide +kernel) (by decide +kernel), inTB_of 17 (by decide +kernel) (by decide +kernel), inTB_of 500 (by decide +kernel) (by decide +kernel), (by decide +kernel), (by decide +kernel)⟩
set_option maxRecDepth 20000 in
theorem mi_X2_scanSign : MIv yX2_scanSign RX2 cX2_scanSign 2 (some .boolean) 1 := ⟨inTB_of 504 (by decide +kernel) (by decide +kernel), inTB_of 8 (by decide +kernel) (by decide +kernel), inTB_of 17 (by decide +kernel) (by decide +kernel), inTB_of 505 (by decide +kernel) (by decide +kernel), (by decide +kernel), (by decide +kernel)⟩
set_option maxRecDepth 20000 in
theorem mi_X6_digest : MIv yX6_digest RX6 cX6_digest 5 (some .long) 0 := ⟨inTB_of 507 (by decide +kernel) (by decide +kernel), inTB_of 508 (by decide +kernel) (by decide +kernel), inTB_of 10 (by decide +kernel) (by decide +kernel), inTB_of 509 (by decide +kernel) (by decide +kernel), (by decide +kernel), (by decide +kernel)⟩
set_option maxRecDepth 20000 in
theorem mi_X6_pressure : MIv yX6_pressure RX6 cX6_pressure 2 (some .int) 1 := ⟨inTB_of 514 (by decide +kernel) (by decide +kernel), inTB_of 515 (by decide +kernel) (by decide +kernel), inTB_of 10 (by decide +kernel) (by decide +kernel), inTB_of 516 (by decide +kernel) (by decide +kernel), (by decide +kernel), (by decide +kernel)⟩
set_option maxRecDepth 20000 in
theorem mi_X6_headerOf : MIv yX6_headerOf RX6 cX6_headerOf 2 (some .int) 1 := ⟨inTB_of 519 (by decide +kernel) (by decide +kernel), inTB_of 520 (by decide +kernel) (by decide +kernel), inTB_of 10 (by decide +kernel) (by decide +kernel), inTB_of 521 (by decide +kernel) (by decide +kernel), (by decide +kernel), (by decide +kernel)⟩
set_option maxRecDepth 20000 in
theorem mi_L_cell : MIs yL_cell cL_cell 2 (some .int) 2 := ⟨inTB_of 525 (by decide +kernel) (by decide +kernel), inTB_of 9 (by decide +kernel) (by decide +kernel), inTB_of 526 (by decide +kernel) (by decide +kernel), (by decide +kernel), (by decide +kernel)⟩
set_option maxRecDepth 20000 in
theorem mi_L_low : MIs yL_low cL_low 2 (some .int) 2 := ⟨inTB_of 528 (by decide +kernel) (by decide +kernel), inTB_of 9 (by decide +kernel) (by decide +kernel), inTB_of 529 (by decide +kernel) (by decide +kernel), (by decide +kernel), (by decide +kernel)⟩
set_option maxRecDepth 20000 in
theorem mi_L_areLossesSound : MIs yL_areLossesSound cL_areLossesSound 11 (some .boolean) 1 := ⟨inTB_of 532 (by decide +kernel) (by decide +kernel), inTB_of 9 (by decide +kernel) (by decide +kernel), inTB_of 533 (by decide +kernel) (by decide +kernel), (by decide +kernel), (by decide +kernel)⟩
set_option maxRecDepth 20000 in
theorem mi_X6_lineLoss : MIv yX6_lineLoss RX6 cX6_lineLoss 2 (some .int) 1 := ⟨inTB_of 537 (by decide +kernel) (by decide +kernel), inTB_of 538 (by decide +kernel) (by decide +kernel), inTB_of 10 (by decide +kernel) (by decide +kernel), inTB_of 539 (by decide +kernel) (by decide +kernel), (by decide +kernel), (by decide +kernel)⟩
set_option maxRecDepth 20000 in
theorem mi_X1_lossOfLine : MIv yX1_lossOfLine RX1 cX1_lossOfLine 4 (some .int) 1 := ⟨inTB_of 541 (by decide +kernel) (by decide +kernel), inTB_of 542 (by decide +kernel) (by decide +kernel), inTB_of 11 (by decide +kernel) (by decide +kernel), inTB_of 543 (by decide +kernel) (by decide +kernel), (by decide +kernel), (by decide +kernel)⟩
set_option maxRecDepth 20000 in
theorem mi_L_isOrderSound : MIs yL_isOrderSound cL_isOrderSound 12 (some .boolean) 1 := ⟨inTB_of 545 (by decide +kernel) (by decide +kernel), inTB_of 9 (by decide +kernel) (by decide +kernel), inTB_of 546 (by decide +kernel) (by decide +kernel), (by decide +kernel), (by decide +kernel)⟩
set_option maxRecDepth 20000 in
theorem mi_X6_repairCost : MIv yX6_repairCost RX6 cX6_repairCost 3 (some .int) 1 := ⟨inTB_of 549 (by decide +kernel) (by decide +kernel), inTB_of 550 (by decide +kernel) (by decide +kernel), inTB_of 10 (by decide +kernel) (by decide +kernel), inTB_of 551 (by decide +kernel) (by decide +kernel), (by decide +kernel), (by decide +kernel)⟩
set_option maxRecDepth 20000 in
theorem mi_X6_saves : MIv yX6_saves RX6 cX6_saves 3 (some .long) 1 := ⟨inTB_of 553 (by decide +kernel) (by decide +kernel), inTB_of 554 (by decide +kernel) (by decide +kernel), inTB_of 10 (by decide +kernel) (by decide +kernel), inTB_of 555 (by decide +kernel) (by decide +kernel), (by decide +kernel), (by decide +kernel)⟩
set_option maxRecDepth 20000 in
theorem mi_L_isRoundSound : MIs yL_isRoundSound cL_isRoundSound 10 (some .boolean) 1 := ⟨inTB_of 560 (by decide +kernel) (by decide +kernel), inTB_of 9 (by decide +kernel) (by decide +kernel), inTB_of 561 (by decide +kernel) (by decide +kernel), (by decide +kernel), (by decide +kernel)⟩
set_option maxRecDepth 20000 in
theorem mi_X6_isDue : MIv yX6_isDue RX6 cX6_isDue 3 (some .int) 1 := ⟨inTB_of 563 (by decide +kernel) (by decide +kernel), inTB_of 564 (by decide +kernel) (by decide +kernel), inTB_of 10 (by decide +kernel) (by decide +kernel), inTB_of 565 (by decide +kernel) (by decide +kernel), (by decide +kernel), (by decide +kernel)⟩
set_option maxRecDepth 20000 in
theorem mi_X6_dueOn : MIv yX6_dueOn RX6 cX6_dueOn 3 (some .int) 1 := ⟨inTB_of 568 (by decide +kernel) (by decide +kernel), inTB_of 569 (by decide +kernel) (by decide +kernel), inTB_of 10 (by decide +kernel) (by decide +kernel), inTB_of 570 (by decide +kernel) (by decide +kernel), (by decide +kernel), (by decide +kernel)⟩
set_option maxRecDepth 20000 in
theorem mi_L_way : MIs yL_way cL_way 6 (some .int) 4 := ⟨inTB_of 572 (by decide +kernel) (by decide +kernel), inTB_of 9 (by decide +kernel) (by decide +kernel), inTB_of 573 (by decide +kernel) (by decide +kernel), (by decide +kernel), (by decide +kernel)⟩
set_option maxRecDepth 20000 in
theorem mi_L_changes : MIs yL_changes cL_changes 3 (some .int) 2 := ⟨inTB_of 575 (by decide +kernel) (by decide +kernel), inTB_of 9 (by decide +kernel) (by decide +kernel), inTB_of 576 (by decide +kernel) (by decide +kernel), (by decide +kernel), (by decide +kernel)⟩
set_option maxRecDepth 20000 in
theorem mi_X6_moveLine : MIv yX6_moveLine RX6 cX6_moveLine 4 (some .int) 2 := ⟨inTB_of 578 (by decide +kernel) (by decide +kernel), inTB_of 579 (by decide +kernel) (by decide +kernel), inTB_of 10 (by decide +kernel) (by decide +kernel), inTB_of 580 (by decide +kernel) (by decide +kernel), (by decide +kernel), (by decide +kernel)⟩
set_option maxRecDepth 20000 in
theorem mi_X6_repair : MIv yX6_repair RX6 cX6_repair 3 (some .int) 1 := ⟨inTB_of 582 (by decide +kernel) (by decide +kernel), inTB_of 583 (by decide +kernel) (by decide +kernel), inTB_of 10 (by decide +kernel) (by decide +kernel), inTB_of 584 (by decide +kernel) (by decide +kernel), (by decide +kernel), (by decide +kernel)⟩
set_option maxRecDepth 20000 in
theorem lk_L_108 : Cond.methodLink RL 108 yX6_init ∈ TB := inTB_of 22 (by decide +kernel) (by decide +kernel)
set_option maxRecDepth 20000 in
theorem lk_X6_1 : Cond.methodLink RX6 1 objectInit ∈ TB := inTB_of 25 (by decide +kernel) (by decide +kernel)
set_option maxRecDepth 20000 in
theorem lk_X6_9 : Cond.methodLink RX6 9 yX1_init ∈ TB := inTB_of 30 (by decide +kernel) (by decide +kernel)
set_option maxRecDepth 20000 in
theorem lk_X1_3 : Cond.methodLink RX1 3 objectInit ∈ TB := inTB_of 33 (by decide +kernel) (by decide +kernel)
set_option maxRecDepth 20000 in
theorem lk_X1_49 : Cond.methodLink RX1 49 yJ7_fill_53178 ∈ TB := inTB_of 36 (by decide +kernel) (by decide +kernel)
set_option maxRecDepth 20000 in
theorem lk_X1_55 : InT (Cond.methodLinkNest RX1 55 yX5_init "TrapSurvey") := inT_of 40 (by decide +kernel) (by decide +kernel)
set_option maxRecDepth 20000 in
theorem lk_X5_3 : Cond.methodLink RX5 3 objectInit ∈ TB := inTB_of 43 (by decide +kernel) (by decide +kernel)
set_option maxRecDepth 20000 in
theorem lk_X6_18 : Cond.methodLink RX6 18 yX0_init ∈ TB := inTB_of 135 (by decide +kernel) (by decide +kernel)
set_option maxRecDepth 20000 in
theorem lk_X0_3 : Cond.methodLink RX0 3 objectInit ∈ TB := inTB_of 138 (by decide +kernel) (by decide +kernel)
set_option maxRecDepth 20000 in
theorem lk_X0_21 : Cond.methodLink RX0 21 yX1_init ∈ TB := inTB_of 141 (by decide +kernel) (by decide +kernel)
set_option maxRecDepth 20000 in
theorem lk_X6_25 : InT (Cond.methodLinkNest RX6 25 yX3_init "TrapSurvey") := inT_of 152 (by decide +kernel) (by decide +kernel)
set_option maxRecDepth 20000 in
theorem lk_X3_3 : Cond.methodLink RX3 3 objectInit ∈ TB := inTB_of 155 (by decide +kernel) (by decide +kernel)
set_option maxRecDepth 20000 in
theorem lk_X6_32 : InT (Cond.methodLinkNest RX6 32 yX4_init "TrapSurvey") := inT_of 172 (by decide +kernel) (by decide +kernel)
set_option maxRecDepth 20000 in
theorem lk_X4_3 : Cond.methodLink RX4 3 objectInit ∈ TB := inTB_of 175 (by decide +kernel) (by decide +kernel)
set_option maxRecDepth 20000 in
theorem lk_X6_39 : InT (Cond.methodLinkNest RX6 39 yX2_init "TrapSurvey") := inT_of 193 (by decide +kernel) (by decide +kernel)
set_option maxRecDepth 20000 in
theorem lk_X2_3 : Cond.methodLink RX2 3 objectInit ∈ TB := inTB_of 196 (by decide +kernel) (by decide +kernel)
set_option maxRecDepth 20000 in
theorem lk_L_78 : Cond.methodLink RL 78 yX6_setPressure ∈ TB := inTB_of 233 (by decide +kernel) (by decide +kernel)
set_option maxRecDepth 20000 in
theorem lk_X6_44 : Cond.methodLink RX6 44 yX1_hasHeader ∈ TB := inTB_of 237 (by decide +kernel) (by decide +kernel)
set_option maxRecDepth 20000 in
theorem lk_X6_48 : Cond.methodLink RX6 48 yX6_isWithin ∈ TB := inTB_of 241 (by decide +kernel) (by decide +kernel)
set_option maxRecDepth 20000 in
theorem lk_X6_52 : Cond.methodLink RX6 52 yX0_keep ∈ TB := inTB_of 244 (by decide +kernel) (by decide +kernel)
set_option maxRecDepth 20000 in
theorem lk_X0_22 : Cond.methodLink RX0 22 yX0_dropOldest ∈ TB := inTB_of 248 (by decide +kernel) (by decide +kernel)
set_option maxRecDepth 20000 in
theorem lk_X0_25 : Cond.methodLink RX0 25 yX1_copyFrom ∈ TB := inTB_of 252 (by decide +kernel) (by decide +kernel)
set_option maxRecDepth 20000 in
theorem lk_X1_56 : Cond.methodLink RX1 56 arraycopyName ∈ TB := inTB_of 256 (by decide +kernel) (by decide +kernel)
set_option maxRecDepth 20000 in
theorem lk_X1_62 : Cond.methodLink RX1 62 yX5_copyFrom ∈ TB := inTB_of 259 (by decide +kernel) (by decide +kernel)
set_option maxRecDepth 20000 in
theorem lk_L_81 : Cond.methodLink RL 81 yX6_addLine ∈ TB := inTB_of 263 (by decide +kernel) (by decide +kernel)
set_option maxRecDepth 20000 in
theorem lk_L_84 : Cond.methodLink RL 84 yX6_addTrap ∈ TB := inTB_of 267 (by decide +kernel) (by decide +kernel)
set_option maxRecDepth 20000 in
theorem lk_X6_67 : Cond.methodLink RX6 67 yX1_hasLine ∈ TB := inTB_of 271 (by decide +kernel) (by decide +kernel)
set_option maxRecDepth 20000 in
theorem lk_X6_77 : Cond.methodLink RX6 77 yX5_install ∈ TB := inTB_of 275 (by decide +kernel) (by decide +kernel)
set_option maxRecDepth 20000 in
theorem lk_L_91 : Cond.methodLink RL 91 yX6_setWork ∈ TB := inTB_of 279 (by decide +kernel) (by decide +kernel)
set_option maxRecDepth 20000 in
theorem lk_L_8 : Cond.methodLink RL 8 yX6_count ∈ TB := inTB_of 283 (by decide +kernel) (by decide +kernel)
set_option maxRecDepth 20000 in
theorem lk_L_14 : Cond.methodLink RL 14 yX6_trap ∈ TB := inTB_of 287 (by decide +kernel) (by decide +kernel)
set_option maxRecDepth 20000 in
theorem lk_X6_101 : Cond.methodLink RX6 101 yX1_trapAt ∈ TB := inTB_of 291 (by decide +kernel) (by decide +kernel)
set_option maxRecDepth 20000 in
theorem lk_X6_126 : Cond.methodLink RX6 126 yX1_headerOfLine ∈ TB := inTB_of 295 (by decide +kernel) (by decide +kernel)
set_option maxRecDepth 20000 in
theorem lk_X1_66 : Cond.methodLink RX1 66 yX1_hasLine ∈ TB := inTB_of 299 (by decide +kernel) (by decide +kernel)
set_option maxRecDepth 20000 in
theorem lk_L_104 : Cond.methodLink RL 104 yX6_read ∈ TB := inTB_of 300 (by decide +kernel) (by decide +kernel)
set_option maxRecDepth 20000 in
theorem lk_X6_133 : Cond.methodLink RX6 133 yX6_judge ∈ TB := inTB_of 304 (by decide +kernel) (by decide +kernel)
set_option maxRecDepth 20000 in
theorem lk_X6_141 : Cond.methodLink RX6 141 yX1_pressureAt ∈ TB := inTB_of 308 (by decide +kernel) (by decide +kernel)
set_option maxRecDepth 20000 in
theorem lk_X1_76 : Cond.methodLink RX1 76 yX1_headerOfLine ∈ TB := inTB_of 312 (by decide +kernel) (by decide +kernel)
set_option maxRecDepth 20000 in
theorem lk_X1_80 : Cond.methodLink RX1 80 yX1_pressureOfHeader ∈ TB := inTB_of 313 (by decide +kernel) (by decide +kernel)
set_option maxRecDepth 20000 in
theorem lk_X1_70 : Cond.methodLink RX1 70 yX1_hasHeader ∈ TB := inTB_of 317 (by decide +kernel) (by decide +kernel)
set_option maxRecDepth 20000 in
theorem lk_X6_145 : Cond.methodLink RX6 145 yX5_judged ∈ TB := inTB_of 318 (by decide +kernel) (by decide +kernel)
set_option maxRecDepth 20000 in
theorem lk_X5_37 : Cond.methodLink RX5 37 yX5_judgedAsBucket ∈ TB := inTB_of 322 (by decide +kernel) (by decide +kernel)
set_option maxRecDepth 20000 in
theorem lk_X5_41 : Cond.methodLink RX5 41 yX5_judgedAsThermostatic ∈ TB := inTB_of 325 (by decide +kernel) (by decide +kernel)
set_option maxRecDepth 20000 in
theorem lk_X5_45 : Cond.methodLink RX5 45 yX5_judgedAsDisc ∈ TB := inTB_of 328 (by decide +kernel) (by decide +kernel)
set_option maxRecDepth 20000 in
theorem lk_X6_137 : Cond.methodLink RX6 137 yX1_takeReading ∈ TB := inTB_of 331 (by decide +kernel) (by decide +kernel)
set_option maxRecDepth 20000 in
theorem lk_X1_83 : Cond.methodLink RX1 83 yX1_trapAt ∈ TB := inTB_of 335 (by decide +kernel) (by decide +kernel)
set_option maxRecDepth 20000 in
theorem lk_X1_87 : Cond.methodLink RX1 87 yX1_pressureAt ∈ TB := inTB_of 336 (by decide +kernel) (by decide +kernel)
set_option maxRecDepth 20000 in
theorem lk_X1_91 : Cond.methodLink RX1 91 yX5_judged ∈ TB := inTB_of 337 (by decide +kernel) (by decide +kernel)
set_option maxRecDepth 20000 in
theorem lk_L_137 : Cond.methodLink RL 137 yX6_judge ∈ TB := inTB_of 338 (by decide +kernel) (by decide +kernel)
set_option maxRecDepth 20000 in
theorem lk_L_101 : Cond.methodLink RL 101 yX6_pass ∈ TB := inTB_of 339 (by decide +kernel) (by decide +kernel)
set_option maxRecDepth 20000 in
theorem lk_X6_148 : Cond.methodLink RX6 148 yX1_letPass ∈ TB := inTB_of 343 (by decide +kernel) (by decide +kernel)
set_option maxRecDepth 20000 in
theorem lk_X1_105 : Cond.methodLink RX1 105 yX1_lossOf ∈ TB := inTB_of 347 (by decide +kernel) (by decide +kernel)
set_option maxRecDepth 20000 in
theorem lk_X1_108 : Cond.methodLink RX1 108 yX5_lossUnder ∈ TB := inTB_of 351 (by decide +kernel) (by decide +kernel)
set_option maxRecDepth 20000 in
theorem lk_L_37 : Cond.methodLink RL 37 yX6_inState ∈ TB := inTB_of 355 (by decide +kernel) (by decide +kernel)
set_option maxRecDepth 20000 in
theorem lk_X6_152 : Cond.methodLink RX6 152 yX1_trapsInState ∈ TB := inTB_of 359 (by decide +kernel) (by decide +kernel)
set_option maxRecDepth 20000 in
theorem lk_L_18 : Cond.methodLink RL 18 yX6_loss ∈ TB := inTB_of 363 (by decide +kernel) (by decide +kernel)
set_option maxRecDepth 20000 in
theorem lk_X6_155 : Cond.methodLink RX6 155 yX1_lossOf ∈ TB := inTB_of 367 (by decide +kernel) (by decide +kernel)
set_option maxRecDepth 20000 in
theorem lk_L_34 : Cond.methodLink RL 34 yX6_headerLoss ∈ TB := inTB_of 368 (by decide +kernel) (by decide +kernel)
set_option maxRecDepth 20000 in
theorem lk_X6_161 : Cond.methodLink RX6 161 yX1_lossOfHeader ∈ TB := inTB_of 372 (by decide +kernel) (by decide +kernel)
set_option maxRecDepth 20000 in
theorem lk_L_27 : Cond.methodLink RL 27 yX6_lost ∈ TB := inTB_of 376 (by decide +kernel) (by decide +kernel)
set_option maxRecDepth 20000 in
theorem lk_X6_164 : Cond.methodLink RX6 164 yX1_lostByAll ∈ TB := inTB_of 380 (by decide +kernel) (by decide +kernel)
set_option maxRecDepth 20000 in
theorem lk_L_43 : Cond.methodLink RL 43 yX6_payback ∈ TB := inTB_of 385 (by decide +kernel) (by decide +kernel)
set_option maxRecDepth 20000 in
theorem lk_X6_184 : Cond.methodLink RX6 184 yX1_paybackOf ∈ TB := inTB_of 389 (by decide +kernel) (by decide +kernel)
set_option maxRecDepth 20000 in
theorem lk_X1_111 : Cond.methodLink RX1 111 yX1_priceADay ∈ TB := inTB_of 393 (by decide +kernel) (by decide +kernel)
set_option maxRecDepth 20000 in
theorem lk_X1_119 : Cond.methodLink RX1 119 yX5_costOfRepair ∈ TB := inTB_of 399 (by decide +kernel) (by decide +kernel)
set_option maxRecDepth 20000 in
theorem lk_L_40 : Cond.methodLink RL 40 yX6_order ∈ TB := inTB_of 403 (by decide +kernel) (by decide +kernel)
set_option maxRecDepth 20000 in
theorem lk_X6_188 : Cond.methodLink RX6 188 yX3_rankTraps ∈ TB := inTB_of 407 (by decide +kernel) (by decide +kernel)
set_option maxRecDepth 20000 in
theorem lk_X3_35 : Cond.methodLink RX3 35 yX1_lossOf ∈ TB := inTB_of 411 (by decide +kernel) (by decide +kernel)
set_option maxRecDepth 20000 in
theorem lk_X3_39 : Cond.methodLink RX3 39 yX1_paybackOf ∈ TB := inTB_of 412 (by decide +kernel) (by decide +kernel)
set_option maxRecDepth 20000 in
theorem lk_X3_43 : Cond.methodLink RX3 43 yX3_insert ∈ TB := inTB_of 413 (by decide +kernel) (by decide +kernel)
set_option maxRecDepth 20000 in
theorem lk_X3_47 : Cond.methodLink RX3 47 yX3_isBetter ∈ TB := inTB_of 417 (by decide +kernel) (by decide +kernel)
set_option maxRecDepth 20000 in
theorem lk_X6_191 : Cond.methodLink RX6 191 yX3_trapAtRank ∈ TB := inTB_of 421 (by decide +kernel) (by decide +kernel)
set_option maxRecDepth 20000 in
theorem lk_L_98 : Cond.methodLink RL 98 yX6_repairAll ∈ TB := inTB_of 425 (by decide +kernel) (by decide +kernel)
set_option maxRecDepth 20000 in
theorem lk_X6_180 : Cond.methodLink RX6 180 yX5_costOfRepair ∈ TB := inTB_of 429 (by decide +kernel) (by decide +kernel)
set_option maxRecDepth 20000 in
theorem lk_X6_194 : Cond.methodLink RX6 194 yX1_mend ∈ TB := inTB_of 430 (by decide +kernel) (by decide +kernel)
set_option maxRecDepth 20000 in
theorem lk_L_56 : Cond.methodLink RL 56 yX6_round ∈ TB := inTB_of 434 (by decide +kernel) (by decide +kernel)
set_option maxRecDepth 20000 in
theorem lk_X6_202 : Cond.methodLink RX6 202 yX4_plan ∈ TB := inTB_of 438 (by decide +kernel) (by decide +kernel)
set_option maxRecDepth 20000 in
theorem lk_X4_35 : Cond.methodLink RX4 35 yX1_needsVisit ∈ TB := inTB_of 442 (by decide +kernel) (by decide +kernel)
set_option maxRecDepth 20000 in
theorem lk_X4_39 : Cond.methodLink RX4 39 yX4_nearestWaiting ∈ TB := inTB_of 446 (by decide +kernel) (by decide +kernel)
set_option maxRecDepth 20000 in
theorem lk_X4_43 : Cond.methodLink RX4 43 yX5_wayFrom ∈ TB := inTB_of 450 (by decide +kernel) (by decide +kernel)
set_option maxRecDepth 20000 in
theorem lk_X5_49 : Cond.methodLink RX5 49 Lib.Math.abs.name ∈ TB := inTB_of 454 (by decide +kernel) (by decide +kernel)
set_option maxRecDepth 20000 in
theorem lk_X4_55 : Cond.methodLink RX4 55 Lib.Math.abs.name ∈ TB := inTB_of 457 (by decide +kernel) (by decide +kernel)
set_option maxRecDepth 20000 in
theorem lk_X6_205 : Cond.methodLink RX6 205 yX4_stopAt ∈ TB := inTB_of 458 (by decide +kernel) (by decide +kernel)
set_option maxRecDepth 20000 in
theorem lk_L_71 : Cond.methodLink RL 71 yX6_roundLength ∈ TB := inTB_of 462 (by decide +kernel) (by decide +kernel)
set_option maxRecDepth 20000 in
theorem lk_L_113 : Cond.methodLink RL 113 yX6_undo ∈ TB := inTB_of 466 (by decide +kernel) (by decide +kernel)
set_option maxRecDepth 20000 in
theorem lk_X6_211 : Cond.methodLink RX6 211 yX0_takeBack ∈ TB := inTB_of 470 (by decide +kernel) (by decide +kernel)
set_option maxRecDepth 20000 in
theorem lk_L_116 : Cond.methodLink RL 116 yX6_readAll ∈ TB := inTB_of 474 (by decide +kernel) (by decide +kernel)
set_option maxRecDepth 20000 in
theorem lk_X6_220 : Cond.methodLink RX6 220 yX2_faultFor ∈ TB := inTB_of 478 (by decide +kernel) (by decide +kernel)
set_option maxRecDepth 20000 in
theorem lk_X2_30 : Cond.methodLink RX2 30 yX2_scanList ∈ TB := inTB_of 482 (by decide +kernel) (by decide +kernel)
set_option maxRecDepth 20000 in
theorem lk_X2_34 : Cond.methodLink RX2 34 yX2_scanReading ∈ TB := inTB_of 486 (by decide +kernel) (by decide +kernel)
set_option maxRecDepth 20000 in
theorem lk_X2_42 : Cond.methodLink RX2 42 yX2_scanNumber ∈ TB := inTB_of 490 (by decide +kernel) (by decide +kernel)
set_option maxRecDepth 20000 in
theorem lk_X2_46 : Cond.methodLink RX2 46 yX2_skipBlanks ∈ TB := inTB_of 494 (by decide +kernel) (by decide +kernel)
set_option maxRecDepth 20000 in
theorem lk_X2_49 : Cond.methodLink RX2 49 yX2_isDigit ∈ TB := inTB_of 498 (by decide +kernel) (by decide +kernel)
set_option maxRecDepth 20000 in
theorem lk_X2_52 : InT (Cond.methodLinkNest RX2 52 yX6_isWithin "TrapSurvey") := inT_of 501 (by decide +kernel) (by decide +kernel)
set_option maxRecDepth 20000 in
theorem lk_X2_38 : Cond.methodLink RX2 38 yX2_scanSign ∈ TB := inTB_of 502 (by decide +kernel) (by decide +kernel)
set_option maxRecDepth 20000 in
theorem lk_L_119 : Cond.methodLink RL 119 yX6_digest ∈ TB := inTB_of 506 (by decide +kernel) (by decide +kernel)
set_option maxRecDepth 20000 in
theorem lk_X6_234 : Cond.methodLink RX6 234 yX6_count ∈ TB := inTB_of 512 (by decide +kernel) (by decide +kernel)
set_option maxRecDepth 20000 in
theorem lk_X6_237 : Cond.methodLink RX6 237 yX6_pressure ∈ TB := inTB_of 513 (by decide +kernel) (by decide +kernel)
set_option maxRecDepth 20000 in
theorem lk_X6_130 : Cond.methodLink RX6 130 yX1_pressureOfHeader ∈ TB := inTB_of 517 (by decide +kernel) (by decide +kernel)
set_option maxRecDepth 20000 in
theorem lk_X6_240 : Cond.methodLink RX6 240 yX6_headerOf ∈ TB := inTB_of 518 (by decide +kernel) (by decide +kernel)
set_option maxRecDepth 20000 in
theorem lk_X6_243 : Cond.methodLink RX6 243 yX6_trap ∈ TB := inTB_of 522 (by decide +kernel) (by decide +kernel)
set_option maxRecDepth 20000 in
theorem lk_X6_247 : Cond.methodLink RX6 247 yX6_lost ∈ TB := inTB_of 523 (by decide +kernel) (by decide +kernel)
set_option maxRecDepth 20000 in
theorem lk_L_109 : Cond.methodLink RL 109 yL_cell ∈ TB := inTB_of 524 (by decide +kernel) (by decide +kernel)
set_option maxRecDepth 20000 in
theorem lk_L_75 : Cond.methodLink RL 75 yL_low ∈ TB := inTB_of 527 (by decide +kernel) (by decide +kernel)
set_option maxRecDepth 20000 in
theorem lk_L_127 : Cond.methodLink RL 127 yL_areLossesSound ∈ TB := inTB_of 531 (by decide +kernel) (by decide +kernel)
set_option maxRecDepth 20000 in
theorem lk_L_21 : Cond.methodLink RL 21 yX6_pressure ∈ TB := inTB_of 534 (by decide +kernel) (by decide +kernel)
set_option maxRecDepth 20000 in
theorem lk_L_24 : Cond.methodLink RL 24 yX6_headerOf ∈ TB := inTB_of 535 (by decide +kernel) (by decide +kernel)
set_option maxRecDepth 20000 in
theorem lk_L_31 : Cond.methodLink RL 31 yX6_lineLoss ∈ TB := inTB_of 536 (by decide +kernel) (by decide +kernel)
set_option maxRecDepth 20000 in
theorem lk_X6_158 : Cond.methodLink RX6 158 yX1_lossOfLine ∈ TB := inTB_of 540 (by decide +kernel) (by decide +kernel)
set_option maxRecDepth 20000 in
theorem lk_L_131 : Cond.methodLink RL 131 yL_isOrderSound ∈ TB := inTB_of 544 (by decide +kernel) (by decide +kernel)
set_option maxRecDepth 20000 in
theorem lk_L_48 : Cond.methodLink RL 48 yX6_repairCost ∈ TB := inTB_of 548 (by decide +kernel) (by decide +kernel)
set_option maxRecDepth 20000 in
theorem lk_L_51 : Cond.methodLink RL 51 yX6_saves ∈ TB := inTB_of 552 (by decide +kernel) (by decide +kernel)
set_option maxRecDepth 20000 in
theorem lk_X6_174 : Cond.methodLink RX6 174 yX1_priceADay ∈ TB := inTB_of 556 (by decide +kernel) (by decide +kernel)
set_option maxRecDepth 20000 in
theorem lk_L_134 : Cond.methodLink RL 134 yL_isRoundSound ∈ TB := inTB_of 559 (by decide +kernel) (by decide +kernel)
set_option maxRecDepth 20000 in
theorem lk_L_59 : Cond.methodLink RL 59 yX6_isDue ∈ TB := inTB_of 562 (by decide +kernel) (by decide +kernel)
set_option maxRecDepth 20000 in
theorem lk_X6_198 : Cond.methodLink RX6 198 yX1_needsVisit ∈ TB := inTB_of 566 (by decide +kernel) (by decide +kernel)
set_option maxRecDepth 20000 in
theorem lk_L_62 : Cond.methodLink RL 62 yX6_dueOn ∈ TB := inTB_of 567 (by decide +kernel) (by decide +kernel)
set_option maxRecDepth 20000 in
theorem lk_L_65 : Cond.methodLink RL 65 yL_way ∈ TB := inTB_of 571 (by decide +kernel) (by decide +kernel)
set_option maxRecDepth 20000 in
theorem lk_L_123 : Cond.methodLink RL 123 yL_changes ∈ TB := inTB_of 574 (by decide +kernel) (by decide +kernel)
set_option maxRecDepth 20000 in
theorem lk_L_88 : Cond.methodLink RL 88 yX6_moveLine ∈ TB := inTB_of 577 (by decide +kernel) (by decide +kernel)
set_option maxRecDepth 20000 in
theorem lk_L_95 : Cond.methodLink RL 95 yX6_repair ∈ TB := inTB_of 581 (by decide +kernel) (by decide +kernel)
set_option maxRecDepth 20000 in
theorem cw_X6_168 : InT (Cond.constantLong RX6 168 (-2)) := inT_of 384 (by decide +kernel) (by decide +kernel)
set_option maxRecDepth 20000 in
theorem cw_X1_115 : InT (Cond.constantLong RX1 115 (-1)) := inT_of 397 (by decide +kernel) (by decide +kernel)
set_option maxRecDepth 20000 in
theorem cw_X1_117 : InT (Cond.constantLong RX1 117 (1000000)) := inT_of 398 (by decide +kernel) (by decide +kernel)
set_option maxRecDepth 20000 in
theorem cw_X6_230 : InT (Cond.constantLong RX6 230 (17)) := inT_of 510 (by decide +kernel) (by decide +kernel)
set_option maxRecDepth 20000 in
theorem cw_X6_232 : InT (Cond.constantLong RX6 232 (31)) := inT_of 511 (by decide +kernel) (by decide +kernel)
set_option maxRecDepth 20000 in
theorem cw_L_7 : InT (Cond.constant RL 7 (2147483647)) := inT_of 530 (by decide +kernel) (by decide +kernel)
set_option maxRecDepth 20000 in
theorem cw_L_46 : InT (Cond.constantLong RL 46 (1000000)) := inT_of 547 (by decide +kernel) (by decide +kernel)
set_option maxRecDepth 20000 in
theorem cw_X6_178 : InT (Cond.constantLong RX6 178 (1000000)) := inT_of 557 (by decide +kernel) (by decide +kernel)
set_option maxRecDepth 20000 in
theorem cw_L_54 : InT (Cond.constantLong RL 54 (-1)) := inT_of 558 (by decide +kernel) (by decide +kernel)
set_option maxRecDepth 20000 in
theorem cw_L_140 : InT (Cond.constantLong RL 140 (-2)) := inT_of 585 (by decide +kernel) (by decide +kernel)
set_option maxRecDepth 20000 in
theorem w_abs_s : Cond.static Lib.Math.abs.name ∈ TB := inTB_of 455 (by decide +kernel) (by decide +kernel)
set_option maxRecDepth 20000 in
theorem w_abs_i : Cond.initialized "java/lang/Math" ∈ TB := inTB_of 19 (by decide +kernel) (by decide +kernel)
set_option maxRecDepth 20000 in
theorem w_abs_c : Cond.code Lib.Math.abs.name Lib.Math.abs.code 1 (some .int) ∈ TB := inTB_of 456 (by decide +kernel) (by decide +kernel)
set_option maxRecDepth 20000 in
theorem w_ac_n : Cond.native arraycopyName ∈ TB := inTB_of 258 (by decide +kernel) (by decide +kernel)
set_option maxRecDepth 20000 in
theorem w_ac_s : Cond.static arraycopyName ∈ TB := inTB_of 257 (by decide +kernel) (by decide +kernel)
set_option maxRecDepth 20000 in
theorem w_ac_i : Cond.initialized "java/lang/System" ∈ TB := inTB_of 18 (by decide +kernel) (by decide +kernel)
set_option maxRecDepth 20000 in
theorem w_oi_i : Cond.instanceMethod objectInit ∈ TB := inTB_of 26 (by decide +kernel) (by decide +kernel)
set_option maxRecDepth 20000 in
theorem w_oi_c : Cond.code objectInit ⟨#[0xb1]⟩ 1 none ∈ TB := inTB_of 27 (by decide +kernel) (by decide +kernel)
set_option maxRecDepth 20000 in
theorem kl_L_9 : Cond.classLink RL 9 "TrapSurvey" ∈ TB := inTB_of 20 (by decide +kernel) (by decide +kernel)
set_option maxRecDepth 20000 in
theorem in_X6 : Cond.instantiable RX6 5 ∈ TB ∧ Cond.initialized RX6 ∈ TB := ⟨inTB_of 21 (by decide +kernel) (by decide +kernel), inTB_of 10 (by decide +kernel) (by decide +kernel)⟩
set_option maxRecDepth 20000 in
theorem kl_X6_7 : Cond.classLink RX6 7 "TrapSurvey$Plant" ∈ TB := inTB_of 28 (by decide +kernel) (by decide +kernel)
set_option maxRecDepth 20000 in
theorem in_X1 : Cond.instantiable RX1 11 ∈ TB ∧ Cond.initialized RX1 ∈ TB := ⟨inTB_of 29 (by decide +kernel) (by decide +kernel), inTB_of 11 (by decide +kernel) (by decide +kernel)⟩
set_option maxRecDepth 20000 in
theorem kl_X1_18 : Cond.classLink RX1 18 "TrapSurvey$Trap" ∈ TB := inTB_of 34 (by decide +kernel) (by decide +kernel)
set_option maxRecDepth 20000 in
theorem ao_T : Cond.arrayOver (.object RX5) ∈ lw_tbl := List.mem_of_getElem? (i := 35) (by decide +kernel)
set_option maxRecDepth 20000 in
theorem in_X5 : Cond.instantiable RX5 8 ∈ TB ∧ Cond.initialized RX5 ∈ TB := ⟨inTB_of 39 (by decide +kernel) (by decide +kernel), inTB_of 13 (by decide +kernel) (by decide +kernel)⟩
set_option maxRecDepth 20000 in
theorem ac_int : Cond.arrayClass .int ∈ TB := inTB_of 83 (by decide +kernel) (by decide +kernel)
set_option maxRecDepth 20000 in
theorem kl_X6_16 : Cond.classLink RX6 16 "TrapSurvey$History" ∈ TB := inTB_of 133 (by decide +kernel) (by decide +kernel)
set_option maxRecDepth 20000 in
theorem in_X0 : Cond.instantiable RX0 2 ∈ TB ∧ Cond.initialized RX0 ∈ TB := ⟨inTB_of 134 (by decide +kernel) (by decide +kernel), inTB_of 14 (by decide +kernel) (by decide +kernel)⟩
set_option maxRecDepth 20000 in
theorem kl_X0_9 : Cond.classLink RX0 9 "TrapSurvey$Plant" ∈ TB := inTB_of 139 (by decide +kernel) (by decide +kernel)
set_option maxRecDepth 20000 in
theorem ao_P : Cond.arrayOver (.object RX1) ∈ lw_tbl := List.mem_of_getElem? (i := 140) (by decide +kernel)
set_option maxRecDepth 20000 in
theorem kl_X6_23 : Cond.classLink RX6 23 "TrapSurvey$RepairOrder" ∈ TB := inTB_of 150 (by decide +kernel) (by decide +kernel)
set_option maxRecDepth 20000 in
theorem in_X3 : Cond.instantiable RX3 4 ∈ TB ∧ Cond.initialized RX3 ∈ TB := ⟨inTB_of 151 (by decide +kernel) (by decide +kernel), inTB_of 15 (by decide +kernel) (by decide +kernel)⟩
set_option maxRecDepth 20000 in
theorem ac_long : Cond.arrayClass .long ∈ TB := inTB_of 169 (by decide +kernel) (by decide +kernel)
set_option maxRecDepth 20000 in
theorem kl_X6_30 : Cond.classLink RX6 30 "TrapSurvey$SurveyRound" ∈ TB := inTB_of 170 (by decide +kernel) (by decide +kernel)
set_option maxRecDepth 20000 in
theorem in_X4 : Cond.instantiable RX4 4 ∈ TB ∧ Cond.initialized RX4 ∈ TB := ⟨inTB_of 171 (by decide +kernel) (by decide +kernel), inTB_of 16 (by decide +kernel) (by decide +kernel)⟩
set_option maxRecDepth 20000 in
theorem ac_boolean : Cond.arrayClass .boolean ∈ TB := inTB_of 190 (by decide +kernel) (by decide +kernel)
set_option maxRecDepth 20000 in
theorem kl_X6_37 : Cond.classLink RX6 37 "TrapSurvey$ReadingText" ∈ TB := inTB_of 191 (by decide +kernel) (by decide +kernel)
set_option maxRecDepth 20000 in
theorem in_X2 : Cond.instantiable RX2 5 ∈ TB ∧ Cond.initialized RX2 ∈ TB := ⟨inTB_of 192 (by decide +kernel) (by decide +kernel), inTB_of 17 (by decide +kernel) (by decide +kernel)⟩
set_option maxRecDepth 20000 in
theorem kl_X2_15 : Cond.classLink RX2 15 "[[I" ∈ TB := inTB_of 197 (by decide +kernel) (by decide +kernel)
set_option maxRecDepth 20000 in
theorem ao_I : Cond.arrayOver (.array .int) ∈ lw_tbl := List.mem_of_getElem? (i := 198) (by decide +kernel)
