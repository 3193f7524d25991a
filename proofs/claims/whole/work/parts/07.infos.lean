/-! ===== what the tables say of each method ===== -/
set_option maxRecDepth 20000 in
theorem mi_X6_init : MIi yX6_init cX6_init 1 0 := ⟨inTB_of 47 (by decide +kernel) (by decide +kernel), inTB_of 33 (by decide +kernel) (by decide +kernel), inTB_of 48 (by decide +kernel) (by decide +kernel), (by decide +kernel), (by decide +kernel), rfl⟩
set_option maxRecDepth 20000 in
theorem mi_X1_init : MIi yX1_init cX1_init 2 0 := ⟨inTB_of 55 (by decide +kernel) (by decide +kernel), inTB_of 34 (by decide +kernel) (by decide +kernel), inTB_of 56 (by decide +kernel) (by decide +kernel), (by decide +kernel), (by decide +kernel), rfl⟩
set_option maxRecDepth 20000 in
theorem mi_J7_fill_53178 : MIs yJ7_fill_53178 cJ7_fill_53178 4 none 2 := ⟨inTB_of 61 (by decide +kernel) (by decide +kernel), inTB_of 35 (by decide +kernel) (by decide +kernel), inTB_of 62 (by decide +kernel) (by decide +kernel), (by decide +kernel), (by decide +kernel)⟩
set_option maxRecDepth 20000 in
theorem mi_X5_init : MIi yX5_init cX5_init 1 0 := ⟨inTB_of 65 (by decide +kernel) (by decide +kernel), inTB_of 36 (by decide +kernel) (by decide +kernel), inTB_of 66 (by decide +kernel) (by decide +kernel), (by decide +kernel), (by decide +kernel), rfl⟩
set_option maxRecDepth 20000 in
theorem mi_X0_init : MIi yX0_init cX0_init 2 0 := ⟨inTB_of 160 (by decide +kernel) (by decide +kernel), inTB_of 37 (by decide +kernel) (by decide +kernel), inTB_of 161 (by decide +kernel) (by decide +kernel), (by decide +kernel), (by decide +kernel), rfl⟩
set_option maxRecDepth 20000 in
theorem mi_X3_init : MIi yX3_init cX3_init 1 0 := ⟨inTB_of 177 (by decide +kernel) (by decide +kernel), inTB_of 38 (by decide +kernel) (by decide +kernel), inTB_of 178 (by decide +kernel) (by decide +kernel), (by decide +kernel), (by decide +kernel), rfl⟩
set_option maxRecDepth 20000 in
theorem mi_X4_init : MIi yX4_init cX4_init 1 0 := ⟨inTB_of 197 (by decide +kernel) (by decide +kernel), inTB_of 39 (by decide +kernel) (by decide +kernel), inTB_of 198 (by decide +kernel) (by decide +kernel), (by decide +kernel), (by decide +kernel), rfl⟩
set_option maxRecDepth 20000 in
theorem mi_X2_init : MIi yX2_init cX2_init 1 0 := ⟨inTB_of 218 (by decide +kernel) (by decide +kernel), inTB_of 40 (by decide +kernel) (by decide +kernel), inTB_of 219 (by decide +kernel) (by decide +kernel), (by decide +kernel), (by decide +kernel), rfl⟩
set_option maxRecDepth 20000 in
theorem mi_X6_setPressure : MIv yX6_setPressure RX6 cX6_setPressure 4 (some .int) 2 := ⟨inTB_of 259 (by decide +kernel) (by decide +kernel), inTB_of 260 (by decide +kernel) (by decide +kernel), inTB_of 33 (by decide +kernel) (by decide +kernel), inTB_of 261 (by decide +kernel) (by decide +kernel), (by decide +kernel), (by decide +kernel)⟩
set_option maxRecDepth 20000 in
theorem mi_X1_hasHeader : MIv yX1_hasHeader RX1 cX1_hasHeader 2 (some .boolean) 1 := ⟨inTB_of 263 (by decide +kernel) (by decide +kernel), inTB_of 264 (by decide +kernel) (by decide +kernel), inTB_of 34 (by decide +kernel) (by decide +kernel), inTB_of 265 (by decide +kernel) (by decide +kernel), (by decide +kernel), (by decide +kernel)⟩
set_option maxRecDepth 20000 in
theorem mi_X6_isWithin : MIs yX6_isWithin cX6_isWithin 3 (some .boolean) 3 := ⟨inTB_of 267 (by decide +kernel) (by decide +kernel), inTB_of 33 (by decide +kernel) (by decide +kernel), inTB_of 268 (by decide +kernel) (by decide +kernel), (by decide +kernel), (by decide +kernel)⟩
set_option maxRecDepth 20000 in
theorem mi_X0_keep : MIv yX0_keep RX0 cX0_keep 2 none 1 := ⟨inTB_of 270 (by decide +kernel) (by decide +kernel), inTB_of 271 (by decide +kernel) (by decide +kernel), inTB_of 37 (by decide +kernel) (by decide +kernel), inTB_of 272 (by decide +kernel) (by decide +kernel), (by decide +kernel), (by decide +kernel)⟩
set_option maxRecDepth 20000 in
theorem mi_X0_dropOldest : MIv yX0_dropOldest RX0 cX0_dropOldest 3 none 0 := ⟨inTB_of 275 (by decide +kernel) (by decide +kernel), inTB_of 0 (by decide +kernel) (by decide +kernel), inTB_of 37 (by decide +kernel) (by decide +kernel), inTB_of 276 (by decide +kernel) (by decide +kernel), (by decide +kernel), (by decide +kernel)⟩
set_option maxRecDepth 20000 in
theorem mi_X1_copyFrom : MIv yX1_copyFrom RX1 cX1_copyFrom 3 none 1 := ⟨inTB_of 278 (by decide +kernel) (by decide +kernel), inTB_of 279 (by decide +kernel) (by decide +kernel), inTB_of 34 (by decide +kernel) (by decide +kernel), inTB_of 280 (by decide +kernel) (by decide +kernel), (by decide +kernel), (by decide +kernel)⟩
set_option maxRecDepth 20000 in
theorem mi_X5_copyFrom : MIv yX5_copyFrom RX5 cX5_copyFrom 2 none 1 := ⟨inTB_of 285 (by decide +kernel) (by decide +kernel), inTB_of 286 (by decide +kernel) (by decide +kernel), inTB_of 36 (by decide +kernel) (by decide +kernel), inTB_of 287 (by decide +kernel) (by decide +kernel), (by decide +kernel), (by decide +kernel)⟩
set_option maxRecDepth 20000 in
theorem mi_X6_addLine : MIv yX6_addLine RX6 cX6_addLine 3 (some .int) 1 := ⟨inTB_of 289 (by decide +kernel) (by decide +kernel), inTB_of 290 (by decide +kernel) (by decide +kernel), inTB_of 33 (by decide +kernel) (by decide +kernel), inTB_of 291 (by decide +kernel) (by decide +kernel), (by decide +kernel), (by decide +kernel)⟩
set_option maxRecDepth 20000 in
theorem mi_X6_addTrap : MIv yX6_addTrap RX6 cX6_addTrap 7 (some .int) 5 := ⟨inTB_of 293 (by decide +kernel) (by decide +kernel), inTB_of 294 (by decide +kernel) (by decide +kernel), inTB_of 33 (by decide +kernel) (by decide +kernel), inTB_of 295 (by decide +kernel) (by decide +kernel), (by decide +kernel), (by decide +kernel)⟩
set_option maxRecDepth 20000 in
theorem mi_X1_hasLine : MIv yX1_hasLine RX1 cX1_hasLine 2 (some .boolean) 1 := ⟨inTB_of 297 (by decide +kernel) (by decide +kernel), inTB_of 298 (by decide +kernel) (by decide +kernel), inTB_of 34 (by decide +kernel) (by decide +kernel), inTB_of 299 (by decide +kernel) (by decide +kernel), (by decide +kernel), (by decide +kernel)⟩
set_option maxRecDepth 20000 in
theorem mi_X5_install : MIv yX5_install RX5 cX5_install 6 none 5 := ⟨inTB_of 301 (by decide +kernel) (by decide +kernel), inTB_of 302 (by decide +kernel) (by decide +kernel), inTB_of 36 (by decide +kernel) (by decide +kernel), inTB_of 303 (by decide +kernel) (by decide +kernel), (by decide +kernel), (by decide +kernel)⟩
set_option maxRecDepth 20000 in
theorem mi_X6_moveLine : MIv yX6_moveLine RX6 cX6_moveLine 4 (some .int) 2 := ⟨inTB_of 305 (by decide +kernel) (by decide +kernel), inTB_of 306 (by decide +kernel) (by decide +kernel), inTB_of 33 (by decide +kernel) (by decide +kernel), inTB_of 307 (by decide +kernel) (by decide +kernel), (by decide +kernel), (by decide +kernel)⟩
set_option maxRecDepth 20000 in
theorem mi_X6_setWork : MIv yX6_setWork RX6 cX6_setWork 5 (some .int) 3 := ⟨inTB_of 309 (by decide +kernel) (by decide +kernel), inTB_of 310 (by decide +kernel) (by decide +kernel), inTB_of 33 (by decide +kernel) (by decide +kernel), inTB_of 311 (by decide +kernel) (by decide +kernel), (by decide +kernel), (by decide +kernel)⟩
set_option maxRecDepth 20000 in
theorem mi_X6_count : MIv yX6_count RX6 cX6_count 2 (some .int) 1 := ⟨inTB_of 313 (by decide +kernel) (by decide +kernel), inTB_of 314 (by decide +kernel) (by decide +kernel), inTB_of 33 (by decide +kernel) (by decide +kernel), inTB_of 315 (by decide +kernel) (by decide +kernel), (by decide +kernel), (by decide +kernel)⟩
set_option maxRecDepth 20000 in
theorem mi_X6_trap : MIv yX6_trap RX6 cX6_trap 4 (some .int) 2 := ⟨inTB_of 317 (by decide +kernel) (by decide +kernel), inTB_of 318 (by decide +kernel) (by decide +kernel), inTB_of 33 (by decide +kernel) (by decide +kernel), inTB_of 319 (by decide +kernel) (by decide +kernel), (by decide +kernel), (by decide +kernel)⟩
set_option maxRecDepth 20000 in
theorem mi_X1_trapAt : MIv yX1_trapAt RX1 cX1_trapAt 2 (some (.object "TrapSurvey$Trap")) 1 := ⟨inTB_of 321 (by decide +kernel) (by decide +kernel), inTB_of 322 (by decide +kernel) (by decide +kernel), inTB_of 34 (by decide +kernel) (by decide +kernel), inTB_of 323 (by decide +kernel) (by decide +kernel), (by decide +kernel), (by decide +kernel)⟩
set_option maxRecDepth 20000 in
theorem mi_X1_headerOfLine : MIv yX1_headerOfLine RX1 cX1_headerOfLine 2 (some .int) 1 := ⟨inTB_of 325 (by decide +kernel) (by decide +kernel), inTB_of 326 (by decide +kernel) (by decide +kernel), inTB_of 34 (by decide +kernel) (by decide +kernel), inTB_of 327 (by decide +kernel) (by decide +kernel), (by decide +kernel), (by decide +kernel)⟩
set_option maxRecDepth 20000 in
theorem mi_X6_headerOf : MIv yX6_headerOf RX6 cX6_headerOf 2 (some .int) 1 := ⟨inTB_of 330 (by decide +kernel) (by decide +kernel), inTB_of 331 (by decide +kernel) (by decide +kernel), inTB_of 33 (by decide +kernel) (by decide +kernel), inTB_of 332 (by decide +kernel) (by decide +kernel), (by decide +kernel), (by decide +kernel)⟩
set_option maxRecDepth 20000 in
theorem mi_X6_pressure : MIv yX6_pressure RX6 cX6_pressure 2 (some .int) 1 := ⟨inTB_of 334 (by decide +kernel) (by decide +kernel), inTB_of 335 (by decide +kernel) (by decide +kernel), inTB_of 33 (by decide +kernel) (by decide +kernel), inTB_of 336 (by decide +kernel) (by decide +kernel), (by decide +kernel), (by decide +kernel)⟩
set_option maxRecDepth 20000 in
theorem mi_X1_pressureOfHeader : MIv yX1_pressureOfHeader RX1 cX1_pressureOfHeader 2 (some .int) 1 := ⟨inTB_of 338 (by decide +kernel) (by decide +kernel), inTB_of 339 (by decide +kernel) (by decide +kernel), inTB_of 34 (by decide +kernel) (by decide +kernel), inTB_of 340 (by decide +kernel) (by decide +kernel), (by decide +kernel), (by decide +kernel)⟩
set_option maxRecDepth 20000 in
theorem mi_X6_read : MIv yX6_read RX6 cX6_read 6 (some .int) 4 := ⟨inTB_of 343 (by decide +kernel) (by decide +kernel), inTB_of 344 (by decide +kernel) (by decide +kernel), inTB_of 33 (by decide +kernel) (by decide +kernel), inTB_of 345 (by decide +kernel) (by decide +kernel), (by decide +kernel), (by decide +kernel)⟩
set_option maxRecDepth 20000 in
theorem mi_X6_judge : MIv yX6_judge RX6 cX6_judge 6 (some .int) 4 := ⟨inTB_of 347 (by decide +kernel) (by decide +kernel), inTB_of 348 (by decide +kernel) (by decide +kernel), inTB_of 33 (by decide +kernel) (by decide +kernel), inTB_of 349 (by decide +kernel) (by decide +kernel), (by decide +kernel), (by decide +kernel)⟩
set_option maxRecDepth 20000 in
theorem mi_X1_pressureAt : MIv yX1_pressureAt RX1 cX1_pressureAt 2 (some .int) 1 := ⟨inTB_of 351 (by decide +kernel) (by decide +kernel), inTB_of 352 (by decide +kernel) (by decide +kernel), inTB_of 34 (by decide +kernel) (by decide +kernel), inTB_of 353 (by decide +kernel) (by decide +kernel), (by decide +kernel), (by decide +kernel)⟩
set_option maxRecDepth 20000 in
theorem mi_X5_judged : MIv yX5_judged RX5 cX5_judged 6 (some .int) 4 := ⟨inTB_of 357 (by decide +kernel) (by decide +kernel), inTB_of 358 (by decide +kernel) (by decide +kernel), inTB_of 36 (by decide +kernel) (by decide +kernel), inTB_of 359 (by decide +kernel) (by decide +kernel), (by decide +kernel), (by decide +kernel)⟩
set_option maxRecDepth 20000 in
theorem mi_X5_judgedAsBucket : MIs yX5_judgedAsBucket cX5_judgedAsBucket 1 (some .int) 1 := ⟨inTB_of 361 (by decide +kernel) (by decide +kernel), inTB_of 36 (by decide +kernel) (by decide +kernel), inTB_of 362 (by decide +kernel) (by decide +kernel), (by decide +kernel), (by decide +kernel)⟩
set_option maxRecDepth 20000 in
theorem mi_X5_judgedAsThermostatic : MIs yX5_judgedAsThermostatic cX5_judgedAsThermostatic 2 (some .int) 2 := ⟨inTB_of 364 (by decide +kernel) (by decide +kernel), inTB_of 36 (by decide +kernel) (by decide +kernel), inTB_of 365 (by decide +kernel) (by decide +kernel), (by decide +kernel), (by decide +kernel)⟩
set_option maxRecDepth 20000 in
theorem mi_X5_judgedAsDisc : MIs yX5_judgedAsDisc cX5_judgedAsDisc 3 (some .int) 3 := ⟨inTB_of 367 (by decide +kernel) (by decide +kernel), inTB_of 36 (by decide +kernel) (by decide +kernel), inTB_of 368 (by decide +kernel) (by decide +kernel), (by decide +kernel), (by decide +kernel)⟩
set_option maxRecDepth 20000 in
theorem mi_X1_takeReading : MIv yX1_takeReading RX1 cX1_takeReading 6 none 4 := ⟨inTB_of 370 (by decide +kernel) (by decide +kernel), inTB_of 371 (by decide +kernel) (by decide +kernel), inTB_of 34 (by decide +kernel) (by decide +kernel), inTB_of 372 (by decide +kernel) (by decide +kernel), (by decide +kernel), (by decide +kernel)⟩
set_option maxRecDepth 20000 in
theorem mi_X6_pass : MIv yX6_pass RX6 cX6_pass 2 (some .int) 1 := ⟨inTB_of 378 (by decide +kernel) (by decide +kernel), inTB_of 379 (by decide +kernel) (by decide +kernel), inTB_of 33 (by decide +kernel) (by decide +kernel), inTB_of 380 (by decide +kernel) (by decide +kernel), (by decide +kernel), (by decide +kernel)⟩
set_option maxRecDepth 20000 in
theorem mi_X1_letPass : MIv yX1_letPass RX1 cX1_letPass 3 none 1 := ⟨inTB_of 382 (by decide +kernel) (by decide +kernel), inTB_of 383 (by decide +kernel) (by decide +kernel), inTB_of 34 (by decide +kernel) (by decide +kernel), inTB_of 384 (by decide +kernel) (by decide +kernel), (by decide +kernel), (by decide +kernel)⟩
set_option maxRecDepth 20000 in
theorem mi_X1_lossOf : MIv yX1_lossOf RX1 cX1_lossOf 2 (some .int) 1 := ⟨inTB_of 386 (by decide +kernel) (by decide +kernel), inTB_of 387 (by decide +kernel) (by decide +kernel), inTB_of 34 (by decide +kernel) (by decide +kernel), inTB_of 388 (by decide +kernel) (by decide +kernel), (by decide +kernel), (by decide +kernel)⟩
set_option maxRecDepth 20000 in
theorem mi_X5_lossUnder : MIv yX5_lossUnder RX5 cX5_lossUnder 3 (some .int) 1 := ⟨inTB_of 390 (by decide +kernel) (by decide +kernel), inTB_of 391 (by decide +kernel) (by decide +kernel), inTB_of 36 (by decide +kernel) (by decide +kernel), inTB_of 392 (by decide +kernel) (by decide +kernel), (by decide +kernel), (by decide +kernel)⟩
set_option maxRecDepth 20000 in
theorem mi_X6_inState : MIv yX6_inState RX6 cX6_inState 2 (some .int) 1 := ⟨inTB_of 394 (by decide +kernel) (by decide +kernel), inTB_of 395 (by decide +kernel) (by decide +kernel), inTB_of 33 (by decide +kernel) (by decide +kernel), inTB_of 396 (by decide +kernel) (by decide +kernel), (by decide +kernel), (by decide +kernel)⟩
set_option maxRecDepth 20000 in
theorem mi_X1_trapsInState : MIv yX1_trapsInState RX1 cX1_trapsInState 4 (some .int) 1 := ⟨inTB_of 398 (by decide +kernel) (by decide +kernel), inTB_of 399 (by decide +kernel) (by decide +kernel), inTB_of 34 (by decide +kernel) (by decide +kernel), inTB_of 400 (by decide +kernel) (by decide +kernel), (by decide +kernel), (by decide +kernel)⟩
set_option maxRecDepth 20000 in
theorem mi_X6_loss : MIv yX6_loss RX6 cX6_loss 3 (some .int) 1 := ⟨inTB_of 402 (by decide +kernel) (by decide +kernel), inTB_of 403 (by decide +kernel) (by decide +kernel), inTB_of 33 (by decide +kernel) (by decide +kernel), inTB_of 404 (by decide +kernel) (by decide +kernel), (by decide +kernel), (by decide +kernel)⟩
set_option maxRecDepth 20000 in
theorem mi_X6_lineLoss : MIv yX6_lineLoss RX6 cX6_lineLoss 2 (some .int) 1 := ⟨inTB_of 407 (by decide +kernel) (by decide +kernel), inTB_of 408 (by decide +kernel) (by decide +kernel), inTB_of 33 (by decide +kernel) (by decide +kernel), inTB_of 409 (by decide +kernel) (by decide +kernel), (by decide +kernel), (by decide +kernel)⟩
set_option maxRecDepth 20000 in
theorem mi_X1_lossOfLine : MIv yX1_lossOfLine RX1 cX1_lossOfLine 4 (some .int) 1 := ⟨inTB_of 411 (by decide +kernel) (by decide +kernel), inTB_of 412 (by decide +kernel) (by decide +kernel), inTB_of 34 (by decide +kernel) (by decide +kernel), inTB_of 413 (by decide +kernel) (by decide +kernel), (by decide +kernel), (by decide +kernel)⟩
set_option maxRecDepth 20000 in
theorem mi_X6_headerLoss : MIv yX6_headerLoss RX6 cX6_headerLoss 2 (some .int) 1 := ⟨inTB_of 415 (by decide +kernel) (by decide +kernel), inTB_of 416 (by decide +kernel) (by decide +kernel), inTB_of 33 (by decide +kernel) (by decide +kernel), inTB_of 417 (by decide +kernel) (by decide +kernel), (by decide +kernel), (by decide +kernel)⟩
set_option maxRecDepth 20000 in
theorem mi_X1_lossOfHeader : MIv yX1_lossOfHeader RX1 cX1_lossOfHeader 4 (some .int) 1 := ⟨inTB_of 419 (by decide +kernel) (by decide +kernel), inTB_of 420 (by decide +kernel) (by decide +kernel), inTB_of 34 (by decide +kernel) (by decide +kernel), inTB_of 421 (by decide +kernel) (by decide +kernel), (by decide +kernel), (by decide +kernel)⟩
set_option maxRecDepth 20000 in
theorem mi_X6_lost : MIv yX6_lost RX6 cX6_lost 3 (some .long) 1 := ⟨inTB_of 423 (by decide +kernel) (by decide +kernel), inTB_of 424 (by decide +kernel) (by decide +kernel), inTB_of 33 (by decide +kernel) (by decide +kernel), inTB_of 425 (by decide +kernel) (by decide +kernel), (by decide +kernel), (by decide +kernel)⟩
set_option maxRecDepth 20000 in
theorem mi_X1_lostByAll : MIv yX1_lostByAll RX1 cX1_lostByAll 4 (some .long) 0 := ⟨inTB_of 427 (by decide +kernel) (by decide +kernel), inTB_of 428 (by decide +kernel) (by decide +kernel), inTB_of 34 (by decide +kernel) (by decide +kernel), inTB_of 429 (by decide +kernel) (by decide +kernel), (by decide +kernel), (by decide +kernel)⟩
set_option maxRecDepth 20000 in
theorem mi_X6_saves : MIv yX6_saves RX6 cX6_saves 3 (some .long) 1 := ⟨inTB_of 432 (by decide +kernel) (by decide +kernel), inTB_of 433 (by decide +kernel) (by decide +kernel), inTB_of 33 (by decide +kernel) (by decide +kernel), inTB_of 434 (by decide +kernel) (by decide +kernel), (by decide +kernel), (by decide +kernel)⟩
set_option maxRecDepth 20000 in
theorem mi_X1_priceADay : MIv yX1_priceADay RX1 cX1_priceADay 2 (some .long) 1 := ⟨inTB_of 436 (by decide +kernel) (by decide +kernel), inTB_of 437 (by decide +kernel) (by decide +kernel), inTB_of 34 (by decide +kernel) (by decide +kernel), inTB_of 438 (by decide +kernel) (by decide +kernel), (by decide +kernel), (by decide +kernel)⟩
set_option maxRecDepth 20000 in
theorem mi_X6_repairCost : MIv yX6_repairCost RX6 cX6_repairCost 3 (some .int) 1 := ⟨inTB_of 441 (by decide +kernel) (by decide +kernel), inTB_of 442 (by decide +kernel) (by decide +kernel), inTB_of 33 (by decide +kernel) (by decide +kernel), inTB_of 443 (by decide +kernel) (by decide +kernel), (by decide +kernel), (by decide +kernel)⟩
set_option maxRecDepth 20000 in
theorem mi_X5_costOfRepair : MIv yX5_costOfRepair RX5 cX5_costOfRepair 1 (some .int) 0 := ⟨inTB_of 445 (by decide +kernel) (by decide +kernel), inTB_of 446 (by decide +kernel) (by decide +kernel), inTB_of 36 (by decide +kernel) (by decide +kernel), inTB_of 447 (by decide +kernel) (by decide +kernel), (by decide +kernel), (by decide +kernel)⟩
set_option maxRecDepth 20000 in
theorem mi_X6_payback : MIv yX6_payback RX6 cX6_payback 3 (some .long) 1 := ⟨inTB_of 449 (by decide +kernel) (by decide +kernel), inTB_of 450 (by decide +kernel) (by decide +kernel), inTB_of 33 (by decide +kernel) (by decide +kernel), inTB_of 451 (by decide +kernel) (by decide +kernel), (by decide +kernel), (by decide +kernel)⟩
set_option maxRecDepth 20000 in
theorem mi_X1_paybackOf : MIv yX1_paybackOf RX1 cX1_paybackOf 4 (some .long) 1 := ⟨inTB_of 453 (by decide +kernel) (by decide +kernel), inTB_of 454 (by decide +kernel) (by decide +kernel), inTB_of 34 (by decide +kernel) (by decide +kernel), inTB_of 455 (by decide +kernel) (by decide +kernel), (by decide +kernel), (by decide +kernel)⟩
set_option maxRecDepth 20000 in
theorem mi_X6_order : MIv yX6_order RX6 cX6_order 2 (some .int) 1 := ⟨inTB_of 461 (by decide +kernel) (by decide +kernel), inTB_of 462 (by decide +kernel) (by decide +kernel), inTB_of 33 (by decide +kernel) (by decide +kernel), inTB_of 463 (by decide +kernel) (by decide +kernel), (by decide +kernel), (by decide +kernel)⟩
set_option maxRecDepth 20000 in
theorem mi_X3_rankTraps : MIv yX3_rankTraps RX3 cX3_rankTraps 3 none 1 := ⟨inTB_of 465 (by decide +kernel) (by decide +kernel), inTB_of 466 (by decide +kernel) (by decide +kernel), inTB_of 38 (by decide +kernel) (by decide +kernel), inTB_of 467 (by decide +kernel) (by decide +kernel), (by decide +kernel), (by decide +kernel)⟩
set_option maxRecDepth 20000 in
theorem mi_X3_insert : MIv yX3_insert RX3 cX3_insert 3 none 1 := ⟨inTB_of 472 (by decide +kernel) (by decide +kernel), inTB_of 1 (by decide +kernel) (by decide +kernel), inTB_of 38 (by decide +kernel) (by decide +kernel), inTB_of 473 (by decide +kernel) (by decide +kernel), (by decide +kernel), (by decide +kernel)⟩
set_option maxRecDepth 20000 in
theorem mi_X3_isBetter : MIv yX3_isBetter RX3 cX3_isBetter 3 (some .boolean) 2 := ⟨inTB_of 476 (by decide +kernel) (by decide +kernel), inTB_of 2 (by decide +kernel) (by decide +kernel), inTB_of 38 (by decide +kernel) (by decide +kernel), inTB_of 477 (by decide +kernel) (by decide +kernel), (by decide +kernel), (by decide +kernel)⟩
set_option maxRecDepth 20000 in
theorem mi_X3_trapAtRank : MIv yX3_trapAtRank RX3 cX3_trapAtRank 2 (some .int) 1 := ⟨inTB_of 479 (by decide +kernel) (by decide +kernel), inTB_of 480 (by decide +kernel) (by decide +kernel), inTB_of 38 (by decide +kernel) (by decide +kernel), inTB_of 481 (by decide +kernel) (by decide +kernel), (by decide +kernel), (by decide +kernel)⟩
set_option maxRecDepth 20000 in
theorem mi_X6_repair : MIv yX6_repair RX6 cX6_repair 3 (some .int) 1 := ⟨inTB_of 483 (by decide +kernel) (by decide +kernel), inTB_of 484 (by decide +kernel) (by decide +kernel), inTB_of 33 (by decide +kernel) (by decide +kernel), inTB_of 485 (by decide +kernel) (by decide +kernel), (by decide +kernel), (by decide +kernel)⟩
set_option maxRecDepth 20000 in
theorem mi_X1_mend : MIv yX1_mend RX1 cX1_mend 2 none 1 := ⟨inTB_of 487 (by decide +kernel) (by decide +kernel), inTB_of 488 (by decide +kernel) (by decide +kernel), inTB_of 34 (by decide +kernel) (by decide +kernel), inTB_of 489 (by decide +kernel) (by decide +kernel), (by decide +kernel), (by decide +kernel)⟩
set_option maxRecDepth 20000 in
theorem mi_X6_repairAll : MIv yX6_repairAll RX6 cX6_repairAll 6 (some .int) 1 := ⟨inTB_of 491 (by decide +kernel) (by decide +kernel), inTB_of 492 (by decide +kernel) (by decide +kernel), inTB_of 33 (by decide +kernel) (by decide +kernel), inTB_of 493 (by decide +kernel) (by decide +kernel), (by decide +kernel), (by decide +kernel)⟩
set_option maxRecDepth 20000 in
theorem mi_X6_isDue : MIv yX6_isDue RX6 cX6_isDue 3 (some .int) 1 := ⟨inTB_of 495 (by decide +kernel) (by decide +kernel), inTB_of 496 (by decide +kernel) (by decide +kernel), inTB_of 33 (by decide +kernel) (by decide +kernel), inTB_of 497 (by decide +kernel) (by decide +kernel), (by decide +kernel), (by decide +kernel)⟩
set_option maxRecDepth 20000 in
theorem mi_X1_needsVisit : MIv yX1_needsVisit RX1 cX1_needsVisit 2 (some .boolean) 1 := ⟨inTB_of 499 (by decide +kernel) (by decide +kernel), inTB_of 500 (by decide +kernel) (by decide +kernel), inTB_of 34 (by decide +kernel) (by decide +kernel), inTB_of 501 (by decide +kernel) (by decide +kernel), (by decide +kernel), (by decide +kernel)⟩
set_option maxRecDepth 20000 in
theorem mi_X6_round : MIv yX6_round RX6 cX6_round 2 (some .int) 1 := ⟨inTB_of 503 (by decide +kernel) (by decide +kernel), inTB_of 504 (by decide +kernel) (by decide +kernel), inTB_of 33 (by decide +kernel) (by decide +kernel), inTB_of 505 (by decide +kernel) (by decide +kernel), (by decide +kernel), (by decide +kernel)⟩
set_option maxRecDepth 20000 in
theorem mi_X4_plan : MIv yX4_plan RX4 cX4_plan 7 none 1 := ⟨inTB_of 507 (by decide +kernel) (by decide +kernel), inTB_of 508 (by decide +kernel) (by decide +kernel), inTB_of 39 (by decide +kernel) (by decide +kernel), inTB_of 509 (by decide +kernel) (by decide +kernel), (by decide +kernel), (by decide +kernel)⟩
set_option maxRecDepth 20000 in
theorem mi_X4_nearestWaiting : MIv yX4_nearestWaiting RX4 cX4_nearestWaiting 8 (some .int) 3 := ⟨inTB_of 513 (by decide +kernel) (by decide +kernel), inTB_of 3 (by decide +kernel) (by decide +kernel), inTB_of 39 (by decide +kernel) (by decide +kernel), inTB_of 514 (by decide +kernel) (by decide +kernel), (by decide +kernel), (by decide +kernel)⟩
set_option maxRecDepth 20000 in
theorem mi_X5_wayFrom : MIv yX5_wayFrom RX5 cX5_wayFrom 3 (some .int) 2 := ⟨inTB_of 516 (by decide +kernel) (by decide +kernel), inTB_of 517 (by decide +kernel) (by decide +kernel), inTB_of 36 (by decide +kernel) (by decide +kernel), inTB_of 518 (by decide +kernel) (by decide +kernel), (by decide +kernel), (by decide +kernel)⟩
set_option maxRecDepth 20000 in
theorem mi_J9_abs_0f7a4 : MIs yJ9_abs_0f7a4 cJ9_abs_0f7a4 1 (some .int) 1 := ⟨inTB_of 520 (by decide +kernel) (by decide +kernel), inTB_of 43 (by decide +kernel) (by decide +kernel), inTB_of 521 (by decide +kernel) (by decide +kernel), (by decide +kernel), (by decide +kernel)⟩
set_option maxRecDepth 20000 in
theorem mi_X4_stopAt : MIv yX4_stopAt RX4 cX4_stopAt 2 (some .int) 1 := ⟨inTB_of 524 (by decide +kernel) (by decide +kernel), inTB_of 525 (by decide +kernel) (by decide +kernel), inTB_of 39 (by decide +kernel) (by decide +kernel), inTB_of 526 (by decide +kernel) (by decide +kernel), (by decide +kernel), (by decide +kernel)⟩
set_option maxRecDepth 20000 in
theorem mi_X6_roundLength : MIv yX6_roundLength RX6 cX6_roundLength 1 (some .int) 0 := ⟨inTB_of 528 (by decide +kernel) (by decide +kernel), inTB_of 529 (by decide +kernel) (by decide +kernel), inTB_of 33 (by decide +kernel) (by decide +kernel), inTB_of 530 (by decide +kernel) (by decide +kernel), (by decide +kernel), (by decide +kernel)⟩
set_option maxRecDepth 20000 in
theorem mi_X6_dueOn : MIv yX6_dueOn RX6 cX6_dueOn 3 (some .int) 1 := ⟨inTB_of 532 (by decide +kernel) (by decide +kernel), inTB_of 533 (by decide +kernel) (by decide +kernel), inTB_of 33 (by decide +kernel) (by decide +kernel), inTB_of 534 (by decide +kernel) (by decide +kernel), (by decide +kernel), (by decide +kernel)⟩
set_option maxRecDepth 20000 in
theorem mi_X6_undo : MIv yX6_undo RX6 cX6_undo 1 (some .int) 0 := ⟨inTB_of 536 (by decide +kernel) (by decide +kernel), inTB_of 537 (by decide +kernel) (by decide +kernel), inTB_of 33 (by decide +kernel) (by decide +kernel), inTB_of 538 (by decide +kernel) (by decide +kernel), (by decide +kernel), (by decide +kernel)⟩
set_option maxRecDepth 20000 in
theorem mi_X0_takeBack : MIv yX0_takeBack RX0 cX0_takeBack 2 (some .boolean) 1 := ⟨inTB_of 540 (by decide +kernel) (by decide +kernel), inTB_of 541 (by decide +kernel) (by decide +kernel), inTB_of 37 (by decide +kernel) (by decide +kernel), inTB_of 542 (by decide +kernel) (by decide +kernel), (by decide +kernel), (by decide +kernel)⟩
set_option maxRecDepth 20000 in
theorem mi_X6_type : MIv yX6_type RX6 cX6_type 2 (some .int) 1 := ⟨inTB_of 544 (by decide +kernel) (by decide +kernel), inTB_of 545 (by decide +kernel) (by decide +kernel), inTB_of 33 (by decide +kernel) (by decide +kernel), inTB_of 546 (by decide +kernel) (by decide +kernel), (by decide +kernel), (by decide +kernel)⟩
set_option maxRecDepth 20000 in
theorem mi_X2_append : MIv yX2_append RX2 cX2_append 2 (some .boolean) 1 := ⟨inTB_of 548 (by decide +kernel) (by decide +kernel), inTB_of 549 (by decide +kernel) (by decide +kernel), inTB_of 40 (by decide +kernel) (by decide +kernel), inTB_of 550 (by decide +kernel) (by decide +kernel), (by decide +kernel), (by decide +kernel)⟩
set_option maxRecDepth 20000 in
theorem mi_X6_clearText : MIv yX6_clearText RX6 cX6_clearText 2 (some .int) 0 := ⟨inTB_of 552 (by decide +kernel) (by decide +kernel), inTB_of 553 (by decide +kernel) (by decide +kernel), inTB_of 33 (by decide +kernel) (by decide +kernel), inTB_of 554 (by decide +kernel) (by decide +kernel), (by decide +kernel), (by decide +kernel)⟩
set_option maxRecDepth 20000 in
theorem mi_X6_textFault : MIv yX6_textFault RX6 cX6_textFault 1 (some .int) 0 := ⟨inTB_of 556 (by decide +kernel) (by decide +kernel), inTB_of 557 (by decide +kernel) (by decide +kernel), inTB_of 33 (by decide +kernel) (by decide +kernel), inTB_of 558 (by decide +kernel) (by decide +kernel), (by decide +kernel), (by decide +kernel)⟩
set_option maxRecDepth 20000 in
theorem mi_X2_faultFor : MIv yX2_faultFor RX2 cX2_faultFor 2 (some .int) 1 := ⟨inTB_of 560 (by decide +kernel) (by decide +kernel), inTB_of 561 (by decide +kernel) (by decide +kernel), inTB_of 40 (by decide +kernel) (by decide +kernel), inTB_of 562 (by decide +kernel) (by decide +kernel), (by decide +kernel), (by decide +kernel)⟩
set_option maxRecDepth 20000 in
theorem mi_X2_scanList : MIv yX2_scanList RX2 cX2_scanList 3 (some .boolean) 1 := ⟨inTB_of 565 (by decide +kernel) (by decide +kernel), inTB_of 4 (by decide +kernel) (by decide +kernel), inTB_of 40 (by decide +kernel) (by decide +kernel), inTB_of 566 (by decide +kernel) (by decide +kernel), (by decide +kernel), (by decide +kernel)⟩
set_option maxRecDepth 20000 in
theorem mi_X2_scanReading : MIv yX2_scanReading RX2 cX2_scanReading 3 (some .boolean) 2 := ⟨inTB_of 569 (by decide +kernel) (by decide +kernel), inTB_of 5 (by decide +kernel) (by decide +kernel), inTB_of 40 (by decide +kernel) (by decide +kernel), inTB_of 570 (by decide +kernel) (by decide +kernel), (by decide +kernel), (by decide +kernel)⟩
set_option maxRecDepth 20000 in
theorem mi_X2_scanNumber : MIv yX2_scanNumber RX2 cX2_scanNumber 7 (some .boolean) 3 := ⟨inTB_of 573 (by decide +kernel) (by decide +kernel), inTB_of 6 (by decide +kernel) (by decide +kernel), inTB_of 40 (by decide +kernel) (by decide +kernel), inTB_of 574 (by decide +kernel) (by decide +kernel), (by decide +kernel), (by decide +kernel)⟩
set_option maxRecDepth 20000 in
theorem mi_X2_skipBlanks : MIv yX2_skipBlanks RX2 cX2_skipBlanks 1 none 0 := ⟨inTB_of 577 (by decide +kernel) (by decide +kernel), inTB_of 7 (by decide +kernel) (by decide +kernel), inTB_of 40 (by decide +kernel) (by decide +kernel), inTB_of 578 (by decide +kernel) (by decide +kernel), (by decide +kernel), (by decide +kernel)⟩
set_option maxRecDepth 20000 in
theorem mi_X2_isDigit : MIs yX2_isDigit cX2_isDigit 1 (some .boolean) 1 := ⟨inTB_of 580 (by decide +kernel) (by decide +kernel), inTB_of 40 (by decide +kernel) (by decide +kernel), inTB_of 581 (by decide +kernel) (by decide +kernel), (by decide +kernel), (by decide +kernel)⟩
set_option maxRecDepth 20000 in
theorem mi_X2_scanSign : MIv yX2_scanSign RX2 cX2_scanSign 2 (some .boolean) 1 := ⟨inTB_of 585 (by decide +kernel) (by decide +kernel), inTB_of 8 (by decide +kernel) (by decide +kernel), inTB_of 40 (by decide +kernel) (by decide +kernel), inTB_of 586 (by decide +kernel) (by decide +kernel), (by decide +kernel), (by decide +kernel)⟩
set_option maxRecDepth 20000 in
theorem mi_X6_readAll : MIv yX6_readAll RX6 cX6_readAll 3 (some .int) 0 := ⟨inTB_of 588 (by decide +kernel) (by decide +kernel), inTB_of 589 (by decide +kernel) (by decide +kernel), inTB_of 33 (by decide +kernel) (by decide +kernel), inTB_of 590 (by decide +kernel) (by decide +kernel), (by decide +kernel), (by decide +kernel)⟩
set_option maxRecDepth 20000 in
theorem mi_X6_digest : MIv yX6_digest RX6 cX6_digest 5 (some .long) 0 := ⟨inTB_of 592 (by decide +kernel) (by decide +kernel), inTB_of 593 (by decide +kernel) (by decide +kernel), inTB_of 33 (by decide +kernel) (by decide +kernel), inTB_of 594 (by decide +kernel) (by decide +kernel), (by decide +kernel), (by decide +kernel)⟩
set_option maxRecDepth 20000 in
theorem mi_X7_init : MIi yX7_init cX7_init 2 0 := ⟨inTB_of 605 (by decide +kernel) (by decide +kernel), inTB_of 41 (by decide +kernel) (by decide +kernel), inTB_of 606 (by decide +kernel) (by decide +kernel), (by decide +kernel), (by decide +kernel), rfl⟩
set_option maxRecDepth 20000 in
theorem mi_X7_setPressure : MIv yX7_setPressure RX7 cX7_setPressure 4 (some .int) 2 := ⟨inTB_of 649 (by decide +kernel) (by decide +kernel), inTB_of 650 (by decide +kernel) (by decide +kernel), inTB_of 41 (by decide +kernel) (by decide +kernel), inTB_of 651 (by decide +kernel) (by decide +kernel), (by decide +kernel), (by decide +kernel)⟩
set_option maxRecDepth 20000 in
theorem mi_X7_isHeader : MIs yX7_isHeader cX7_isHeader 1 (some .boolean) 1 := ⟨inTB_of 653 (by decide +kernel) (by decide +kernel), inTB_of 41 (by decide +kernel) (by decide +kernel), inTB_of 654 (by decide +kernel) (by decide +kernel), (by decide +kernel), (by decide +kernel)⟩
set_option maxRecDepth 20000 in
theorem mi_X7_in : MIs yX7_in cX7_in 3 (some .boolean) 3 := ⟨inTB_of 656 (by decide +kernel) (by decide +kernel), inTB_of 41 (by decide +kernel) (by decide +kernel), inTB_of 657 (by decide +kernel) (by decide +kernel), (by decide +kernel), (by decide +kernel)⟩
set_option maxRecDepth 20000 in
theorem mi_X7_keeps : MIv yX7_keeps RX7 cX7_keeps 2 none 0 := ⟨inTB_of 660 (by decide +kernel) (by decide +kernel), inTB_of 9 (by decide +kernel) (by decide +kernel), inTB_of 41 (by decide +kernel) (by decide +kernel), inTB_of 661 (by decide +kernel) (by decide +kernel), (by decide +kernel), (by decide +kernel)⟩
set_option maxRecDepth 20000 in
theorem mi_X7_copies : MIv yX7_copies RX7 cX7_copies 4 none 2 := ⟨inTB_of 664 (by decide +kernel) (by decide +kernel), inTB_of 10 (by decide +kernel) (by decide +kernel), inTB_of 41 (by decide +kernel) (by decide +kernel), inTB_of 665 (by decide +kernel) (by decide +kernel), (by decide +kernel), (by decide +kernel)⟩
set_option maxRecDepth 20000 in
theorem mi_X7_addLine : MIv yX7_addLine RX7 cX7_addLine 2 (some .int) 1 := ⟨inTB_of 667 (by decide +kernel) (by decide +kernel), inTB_of 668 (by decide +kernel) (by decide +kernel), inTB_of 41 (by decide +kernel) (by decide +kernel), inTB_of 669 (by decide +kernel) (by decide +kernel), (by decide +kernel), (by decide +kernel)⟩
set_option maxRecDepth 20000 in
theorem mi_X7_addTrap : MIv yX7_addTrap RX7 cX7_addTrap 7 (some .int) 5 := ⟨inTB_of 671 (by decide +kernel) (by decide +kernel), inTB_of 672 (by decide +kernel) (by decide +kernel), inTB_of 41 (by decide +kernel) (by decide +kernel), inTB_of 673 (by decide +kernel) (by decide +kernel), (by decide +kernel), (by decide +kernel)⟩
set_option maxRecDepth 20000 in
theorem mi_X7_isLine : MIv yX7_isLine RX7 cX7_isLine 2 (some .boolean) 1 := ⟨inTB_of 676 (by decide +kernel) (by decide +kernel), inTB_of 11 (by decide +kernel) (by decide +kernel), inTB_of 41 (by decide +kernel) (by decide +kernel), inTB_of 677 (by decide +kernel) (by decide +kernel), (by decide +kernel), (by decide +kernel)⟩
set_option maxRecDepth 20000 in
theorem mi_X7_moveLine : MIv yX7_moveLine RX7 cX7_moveLine 4 (some .int) 2 := ⟨inTB_of 679 (by decide +kernel) (by decide +kernel), inTB_of 680 (by decide +kernel) (by decide +kernel), inTB_of 41 (by decide +kernel) (by decide +kernel), inTB_of 681 (by decide +kernel) (by decide +kernel), (by decide +kernel), (by decide +kernel)⟩
set_option maxRecDepth 20000 in
theorem mi_X7_setWork : MIv yX7_setWork RX7 cX7_setWork 5 (some .int) 3 := ⟨inTB_of 683 (by decide +kernel) (by decide +kernel), inTB_of 684 (by decide +kernel) (by decide +kernel), inTB_of 41 (by decide +kernel) (by decide +kernel), inTB_of 685 (by decide +kernel) (by decide +kernel), (by decide +kernel), (by decide +kernel)⟩
set_option maxRecDepth 20000 in
theorem mi_X7_count : MIv yX7_count RX7 cX7_count 2 (some .int) 1 := ⟨inTB_of 687 (by decide +kernel) (by decide +kernel), inTB_of 688 (by decide +kernel) (by decide +kernel), inTB_of 41 (by decide +kernel) (by decide +kernel), inTB_of 689 (by decide +kernel) (by decide +kernel), (by decide +kernel), (by decide +kernel)⟩
set_option maxRecDepth 20000 in
theorem mi_X7_trap : MIv yX7_trap RX7 cX7_trap 3 (some .int) 2 := ⟨inTB_of 691 (by decide +kernel) (by decide +kernel), inTB_of 692 (by decide +kernel) (by decide +kernel), inTB_of 41 (by decide +kernel) (by decide +kernel), inTB_of 693 (by decide +kernel) (by decide +kernel), (by decide +kernel), (by decide +kernel)⟩
set_option maxRecDepth 20000 in
theorem mi_X7_isTrap : MIv yX7_isTrap RX7 cX7_isTrap 2 (some .boolean) 1 := ⟨inTB_of 696 (by decide +kernel) (by decide +kernel), inTB_of 12 (by decide +kernel) (by decide +kernel), inTB_of 41 (by decide +kernel) (by decide +kernel), inTB_of 697 (by decide +kernel) (by decide +kernel), (by decide +kernel), (by decide +kernel)⟩
set_option maxRecDepth 20000 in
theorem mi_X7_header : MIv yX7_header RX7 cX7_header 2 (some .int) 1 := ⟨inTB_of 700 (by decide +kernel) (by decide +kernel), inTB_of 13 (by decide +kernel) (by decide +kernel), inTB_of 41 (by decide +kernel) (by decide +kernel), inTB_of 701 (by decide +kernel) (by decide +kernel), (by decide +kernel), (by decide +kernel)⟩
set_option maxRecDepth 20000 in
theorem mi_X7_of : MIv yX7_of RX7 cX7_of 3 (some .int) 2 := ⟨inTB_of 704 (by decide +kernel) (by decide +kernel), inTB_of 14 (by decide +kernel) (by decide +kernel), inTB_of 41 (by decide +kernel) (by decide +kernel), inTB_of 705 (by decide +kernel) (by decide +kernel), (by decide +kernel), (by decide +kernel)⟩
set_option maxRecDepth 20000 in
theorem mi_X7_headerOf : MIv yX7_headerOf RX7 cX7_headerOf 2 (some .int) 1 := ⟨inTB_of 707 (by decide +kernel) (by decide +kernel), inTB_of 708 (by decide +kernel) (by decide +kernel), inTB_of 41 (by decide +kernel) (by decide +kernel), inTB_of 709 (by decide +kernel) (by decide +kernel), (by decide +kernel), (by decide +kernel)⟩
set_option maxRecDepth 20000 in
theorem mi_X7_pressure : MIv yX7_pressure RX7 cX7_pressure 2 (some .int) 1 := ⟨inTB_of 711 (by decide +kernel) (by decide +kernel), inTB_of 712 (by decide +kernel) (by decide +kernel), inTB_of 41 (by decide +kernel) (by decide +kernel), inTB_of 713 (by decide +kernel) (by decide +kernel), (by decide +kernel), (by decide +kernel)⟩
set_option maxRecDepth 20000 in
theorem mi_X7_read : MIv yX7_read RX7 cX7_read 5 (some .int) 4 := ⟨inTB_of 715 (by decide +kernel) (by decide +kernel), inTB_of 716 (by decide +kernel) (by decide +kernel), inTB_of 41 (by decide +kernel) (by decide +kernel), inTB_of 717 (by decide +kernel) (by decide +kernel), (by decide +kernel), (by decide +kernel)⟩
set_option maxRecDepth 20000 in
theorem mi_X7_isReading : MIs yX7_isReading cX7_isReading 3 (some .boolean) 3 := ⟨inTB_of 719 (by decide +kernel) (by decide +kernel), inTB_of 41 (by decide +kernel) (by decide +kernel), inTB_of 720 (by decide +kernel) (by decide +kernel), (by decide +kernel), (by decide +kernel)⟩
set_option maxRecDepth 20000 in
theorem mi_X7_reads : MIv yX7_reads RX7 cX7_reads 5 none 4 := ⟨inTB_of 723 (by decide +kernel) (by decide +kernel), inTB_of 15 (by decide +kernel) (by decide +kernel), inTB_of 41 (by decide +kernel) (by decide +kernel), inTB_of 724 (by decide +kernel) (by decide +kernel), (by decide +kernel), (by decide +kernel)⟩
set_option maxRecDepth 20000 in
theorem mi_X7_judges : MIv yX7_judges RX7 cX7_judges 10 (some .int) 4 := ⟨inTB_of 727 (by decide +kernel) (by decide +kernel), inTB_of 16 (by decide +kernel) (by decide +kernel), inTB_of 41 (by decide +kernel) (by decide +kernel), inTB_of 728 (by decide +kernel) (by decide +kernel), (by decide +kernel), (by decide +kernel)⟩
set_option maxRecDepth 20000 in
theorem mi_X7_judge : MIv yX7_judge RX7 cX7_judge 5 (some .int) 4 := ⟨inTB_of 730 (by decide +kernel) (by decide +kernel), inTB_of 731 (by decide +kernel) (by decide +kernel), inTB_of 41 (by decide +kernel) (by decide +kernel), inTB_of 732 (by decide +kernel) (by decide +kernel), (by decide +kernel), (by decide +kernel)⟩
set_option maxRecDepth 20000 in
theorem mi_X7_pass : MIv yX7_pass RX7 cX7_pass 3 (some .int) 1 := ⟨inTB_of 734 (by decide +kernel) (by decide +kernel), inTB_of 735 (by decide +kernel) (by decide +kernel), inTB_of 41 (by decide +kernel) (by decide +kernel), inTB_of 736 (by decide +kernel) (by decide +kernel), (by decide +kernel), (by decide +kernel)⟩
set_option maxRecDepth 20000 in
theorem mi_X7_lossOf : MIv yX7_lossOf RX7 cX7_lossOf 3 (some .int) 1 := ⟨inTB_of 739 (by decide +kernel) (by decide +kernel), inTB_of 17 (by decide +kernel) (by decide +kernel), inTB_of 41 (by decide +kernel) (by decide +kernel), inTB_of 740 (by decide +kernel) (by decide +kernel), (by decide +kernel), (by decide +kernel)⟩
set_option maxRecDepth 20000 in
theorem mi_X7_inState : MIv yX7_inState RX7 cX7_inState 4 (some .int) 1 := ⟨inTB_of 742 (by decide +kernel) (by decide +kernel), inTB_of 743 (by decide +kernel) (by decide +kernel), inTB_of 41 (by decide +kernel) (by decide +kernel), inTB_of 744 (by decide +kernel) (by decide +kernel), (by decide +kernel), (by decide +kernel)⟩
set_option maxRecDepth 20000 in
theorem mi_X7_loss : MIv yX7_loss RX7 cX7_loss 2 (some .int) 1 := ⟨inTB_of 746 (by decide +kernel) (by decide +kernel), inTB_of 747 (by decide +kernel) (by decide +kernel), inTB_of 41 (by decide +kernel) (by decide +kernel), inTB_of 748 (by decide +kernel) (by decide +kernel), (by decide +kernel), (by decide +kernel)⟩
set_option maxRecDepth 20000 in
theorem mi_X7_lineLoss : MIv yX7_lineLoss RX7 cX7_lineLoss 4 (some .int) 1 := ⟨inTB_of 750 (by decide +kernel) (by decide +kernel), inTB_of 751 (by decide +kernel) (by decide +kernel), inTB_of 41 (by decide +kernel) (by decide +kernel), inTB_of 752 (by decide +kernel) (by decide +kernel), (by decide +kernel), (by decide +kernel)⟩
set_option maxRecDepth 20000 in
theorem mi_X7_headerLoss : MIv yX7_headerLoss RX7 cX7_headerLoss 4 (some .int) 1 := ⟨inTB_of 754 (by decide +kernel) (by decide +kernel), inTB_of 755 (by decide +kernel) (by decide +kernel), inTB_of 41 (by decide +kernel) (by decide +kernel), inTB_of 756 (by decide +kernel) (by decide +kernel), (by decide +kernel), (by decide +kernel)⟩
set_option maxRecDepth 20000 in
theorem mi_X7_lost : MIv yX7_lost RX7 cX7_lost 5 (some .long) 1 := ⟨inTB_of 758 (by decide +kernel) (by decide +kernel), inTB_of 759 (by decide +kernel) (by decide +kernel), inTB_of 41 (by decide +kernel) (by decide +kernel), inTB_of 760 (by decide +kernel) (by decide +kernel), (by decide +kernel), (by decide +kernel)⟩
set_option maxRecDepth 20000 in
theorem mi_X7_saves : MIv yX7_saves RX7 cX7_saves 2 (some .long) 1 := ⟨inTB_of 763 (by decide +kernel) (by decide +kernel), inTB_of 764 (by decide +kernel) (by decide +kernel), inTB_of 41 (by decide +kernel) (by decide +kernel), inTB_of 765 (by decide +kernel) (by decide +kernel), (by decide +kernel), (by decide +kernel)⟩
set_option maxRecDepth 20000 in
theorem mi_X7_worth : MIv yX7_worth RX7 cX7_worth 2 (some .long) 1 := ⟨inTB_of 768 (by decide +kernel) (by decide +kernel), inTB_of 18 (by decide +kernel) (by decide +kernel), inTB_of 41 (by decide +kernel) (by decide +kernel), inTB_of 769 (by decide +kernel) (by decide +kernel), (by decide +kernel), (by decide +kernel)⟩
set_option maxRecDepth 20000 in
theorem mi_X7_repairCost : MIv yX7_repairCost RX7 cX7_repairCost 2 (some .int) 1 := ⟨inTB_of 772 (by decide +kernel) (by decide +kernel), inTB_of 773 (by decide +kernel) (by decide +kernel), inTB_of 41 (by decide +kernel) (by decide +kernel), inTB_of 774 (by decide +kernel) (by decide +kernel), (by decide +kernel), (by decide +kernel)⟩
set_option maxRecDepth 20000 in
theorem mi_X7_costOf : MIv yX7_costOf RX7 cX7_costOf 2 (some .int) 1 := ⟨inTB_of 777 (by decide +kernel) (by decide +kernel), inTB_of 19 (by decide +kernel) (by decide +kernel), inTB_of 41 (by decide +kernel) (by decide +kernel), inTB_of 778 (by decide +kernel) (by decide +kernel), (by decide +kernel), (by decide +kernel)⟩
set_option maxRecDepth 20000 in
theorem mi_X7_payback : MIv yX7_payback RX7 cX7_payback 2 (some .long) 1 := ⟨inTB_of 780 (by decide +kernel) (by decide +kernel), inTB_of 781 (by decide +kernel) (by decide +kernel), inTB_of 41 (by decide +kernel) (by decide +kernel), inTB_of 782 (by decide +kernel) (by decide +kernel), (by decide +kernel), (by decide +kernel)⟩
set_option maxRecDepth 20000 in
theorem mi_X7_paysBack : MIv yX7_paysBack RX7 cX7_paysBack 4 (some .long) 1 := ⟨inTB_of 785 (by decide +kernel) (by decide +kernel), inTB_of 20 (by decide +kernel) (by decide +kernel), inTB_of 41 (by decide +kernel) (by decide +kernel), inTB_of 786 (by decide +kernel) (by decide +kernel), (by decide +kernel), (by decide +kernel)⟩
set_option maxRecDepth 20000 in
theorem mi_X7_order : MIv yX7_order RX7 cX7_order 2 (some .int) 1 := ⟨inTB_of 789 (by decide +kernel) (by decide +kernel), inTB_of 790 (by decide +kernel) (by decide +kernel), inTB_of 41 (by decide +kernel) (by decide +kernel), inTB_of 791 (by decide +kernel) (by decide +kernel), (by decide +kernel), (by decide +kernel)⟩
set_option maxRecDepth 20000 in
theorem mi_X7_ranked : MIv yX7_ranked RX7 cX7_ranked 5 (some .int) 1 := ⟨inTB_of 794 (by decide +kernel) (by decide +kernel), inTB_of 21 (by decide +kernel) (by decide +kernel), inTB_of 41 (by decide +kernel) (by decide +kernel), inTB_of 795 (by decide +kernel) (by decide +kernel), (by decide +kernel), (by decide +kernel)⟩
set_option maxRecDepth 20000 in
theorem mi_X7_isAhead : MIv yX7_isAhead RX7 cX7_isAhead 3 (some .boolean) 2 := ⟨inTB_of 798 (by decide +kernel) (by decide +kernel), inTB_of 22 (by decide +kernel) (by decide +kernel), inTB_of 41 (by decide +kernel) (by decide +kernel), inTB_of 799 (by decide +kernel) (by decide +kernel), (by decide +kernel), (by decide +kernel)⟩
set_option maxRecDepth 20000 in
theorem mi_X7_repair : MIv yX7_repair RX7 cX7_repair 2 (some .int) 1 := ⟨inTB_of 801 (by decide +kernel) (by decide +kernel), inTB_of 802 (by decide +kernel) (by decide +kernel), inTB_of 41 (by decide +kernel) (by decide +kernel), inTB_of 803 (by decide +kernel) (by decide +kernel), (by decide +kernel), (by decide +kernel)⟩
set_option maxRecDepth 20000 in
theorem mi_X7_repairs : MIv yX7_repairs RX7 cX7_repairs 2 none 1 := ⟨inTB_of 806 (by decide +kernel) (by decide +kernel), inTB_of 23 (by decide +kernel) (by decide +kernel), inTB_of 41 (by decide +kernel) (by decide +kernel), inTB_of 807 (by decide +kernel) (by decide +kernel), (by decide +kernel), (by decide +kernel)⟩
set_option maxRecDepth 20000 in
theorem mi_X7_repairAll : MIv yX7_repairAll RX7 cX7_repairAll 5 (some .int) 1 := ⟨inTB_of 809 (by decide +kernel) (by decide +kernel), inTB_of 810 (by decide +kernel) (by decide +kernel), inTB_of 41 (by decide +kernel) (by decide +kernel), inTB_of 811 (by decide +kernel) (by decide +kernel), (by decide +kernel), (by decide +kernel)⟩
set_option maxRecDepth 20000 in
theorem mi_X7_isDue : MIv yX7_isDue RX7 cX7_isDue 2 (some .int) 1 := ⟨inTB_of 813 (by decide +kernel) (by decide +kernel), inTB_of 814 (by decide +kernel) (by decide +kernel), inTB_of 41 (by decide +kernel) (by decide +kernel), inTB_of 815 (by decide +kernel) (by decide +kernel), (by decide +kernel), (by decide +kernel)⟩
set_option maxRecDepth 20000 in
theorem mi_X7_due : MIv yX7_due RX7 cX7_due 2 (some .boolean) 1 := ⟨inTB_of 818 (by decide +kernel) (by decide +kernel), inTB_of 24 (by decide +kernel) (by decide +kernel), inTB_of 41 (by decide +kernel) (by decide +kernel), inTB_of 819 (by decide +kernel) (by decide +kernel), (by decide +kernel), (by decide +kernel)⟩
set_option maxRecDepth 20000 in
theorem mi_X7_round : MIv yX7_round RX7 cX7_round 2 (some .int) 1 := ⟨inTB_of 821 (by decide +kernel) (by decide +kernel), inTB_of 822 (by decide +kernel) (by decide +kernel), inTB_of 41 (by decide +kernel) (by decide +kernel), inTB_of 823 (by decide +kernel) (by decide +kernel), (by decide +kernel), (by decide +kernel)⟩
set_option maxRecDepth 20000 in
theorem mi_X7_walks : MIv yX7_walks RX7 cX7_walks 7 none 0 := ⟨inTB_of 826 (by decide +kernel) (by decide +kernel), inTB_of 25 (by decide +kernel) (by decide +kernel), inTB_of 41 (by decide +kernel) (by decide +kernel), inTB_of 827 (by decide +kernel) (by decide +kernel), (by decide +kernel), (by decide +kernel)⟩
set_option maxRecDepth 20000 in
theorem mi_X7_size : MIs yX7_size cX7_size 1 (some .int) 1 := ⟨inTB_of 829 (by decide +kernel) (by decide +kernel), inTB_of 41 (by decide +kernel) (by decide +kernel), inTB_of 830 (by decide +kernel) (by decide +kernel), (by decide +kernel), (by decide +kernel)⟩
set_option maxRecDepth 20000 in
theorem mi_X7_roundLength : MIv yX7_roundLength RX7 cX7_roundLength 1 (some .int) 0 := ⟨inTB_of 832 (by decide +kernel) (by decide +kernel), inTB_of 833 (by decide +kernel) (by decide +kernel), inTB_of 41 (by decide +kernel) (by decide +kernel), inTB_of 834 (by decide +kernel) (by decide +kernel), (by decide +kernel), (by decide +kernel)⟩
set_option maxRecDepth 20000 in
theorem mi_X7_dueOn : MIv yX7_dueOn RX7 cX7_dueOn 2 (some .int) 1 := ⟨inTB_of 836 (by decide +kernel) (by decide +kernel), inTB_of 837 (by decide +kernel) (by decide +kernel), inTB_of 41 (by decide +kernel) (by decide +kernel), inTB_of 838 (by decide +kernel) (by decide +kernel), (by decide +kernel), (by decide +kernel)⟩
set_option maxRecDepth 20000 in
theorem mi_X7_undo : MIv yX7_undo RX7 cX7_undo 1 (some .int) 0 := ⟨inTB_of 840 (by decide +kernel) (by decide +kernel), inTB_of 841 (by decide +kernel) (by decide +kernel), inTB_of 41 (by decide +kernel) (by decide +kernel), inTB_of 842 (by decide +kernel) (by decide +kernel), (by decide +kernel), (by decide +kernel)⟩
set_option maxRecDepth 20000 in
theorem mi_X7_type : MIv yX7_type RX7 cX7_type 2 (some .int) 1 := ⟨inTB_of 844 (by decide +kernel) (by decide +kernel), inTB_of 845 (by decide +kernel) (by decide +kernel), inTB_of 41 (by decide +kernel) (by decide +kernel), inTB_of 846 (by decide +kernel) (by decide +kernel), (by decide +kernel), (by decide +kernel)⟩
set_option maxRecDepth 20000 in
theorem mi_X7_clearText : MIv yX7_clearText RX7 cX7_clearText 2 (some .int) 0 := ⟨inTB_of 848 (by decide +kernel) (by decide +kernel), inTB_of 849 (by decide +kernel) (by decide +kernel), inTB_of 41 (by decide +kernel) (by decide +kernel), inTB_of 850 (by decide +kernel) (by decide +kernel), (by decide +kernel), (by decide +kernel)⟩
set_option maxRecDepth 20000 in
theorem mi_X7_textFault : MIv yX7_textFault RX7 cX7_textFault 1 (some .int) 0 := ⟨inTB_of 852 (by decide +kernel) (by decide +kernel), inTB_of 853 (by decide +kernel) (by decide +kernel), inTB_of 41 (by decide +kernel) (by decide +kernel), inTB_of 854 (by decide +kernel) (by decide +kernel), (by decide +kernel), (by decide +kernel)⟩
set_option maxRecDepth 20000 in
theorem mi_X7_readsText : MIv yX7_readsText RX7 cX7_readsText 4 (some .boolean) 1 := ⟨inTB_of 857 (by decide +kernel) (by decide +kernel), inTB_of 26 (by decide +kernel) (by decide +kernel), inTB_of 41 (by decide +kernel) (by decide +kernel), inTB_of 858 (by decide +kernel) (by decide +kernel), (by decide +kernel), (by decide +kernel)⟩
set_option maxRecDepth 20000 in
theorem mi_X7_readsReading : MIv yX7_readsReading RX7 cX7_readsReading 5 (some .boolean) 1 := ⟨inTB_of 861 (by decide +kernel) (by decide +kernel), inTB_of 27 (by decide +kernel) (by decide +kernel), inTB_of 41 (by decide +kernel) (by decide +kernel), inTB_of 862 (by decide +kernel) (by decide +kernel), (by decide +kernel), (by decide +kernel)⟩
set_option maxRecDepth 20000 in
theorem mi_X7_readsNumber : MIv yX7_readsNumber RX7 cX7_readsNumber 5 (some .boolean) 1 := ⟨inTB_of 865 (by decide +kernel) (by decide +kernel), inTB_of 28 (by decide +kernel) (by decide +kernel), inTB_of 41 (by decide +kernel) (by decide +kernel), inTB_of 866 (by decide +kernel) (by decide +kernel), (by decide +kernel), (by decide +kernel)⟩
set_option maxRecDepth 20000 in
theorem mi_X7_here : MIv yX7_here RX7 cX7_here 1 (some .int) 0 := ⟨inTB_of 869 (by decide +kernel) (by decide +kernel), inTB_of 29 (by decide +kernel) (by decide +kernel), inTB_of 41 (by decide +kernel) (by decide +kernel), inTB_of 870 (by decide +kernel) (by decide +kernel), (by decide +kernel), (by decide +kernel)⟩
set_option maxRecDepth 20000 in
theorem mi_X7_sign : MIv yX7_sign RX7 cX7_sign 3 (some .boolean) 1 := ⟨inTB_of 873 (by decide +kernel) (by decide +kernel), inTB_of 30 (by decide +kernel) (by decide +kernel), inTB_of 41 (by decide +kernel) (by decide +kernel), inTB_of 874 (by decide +kernel) (by decide +kernel), (by decide +kernel), (by decide +kernel)⟩
set_option maxRecDepth 20000 in
theorem mi_X7_readAll : MIv yX7_readAll RX7 cX7_readAll 2 (some .int) 0 := ⟨inTB_of 876 (by decide +kernel) (by decide +kernel), inTB_of 877 (by decide +kernel) (by decide +kernel), inTB_of 41 (by decide +kernel) (by decide +kernel), inTB_of 878 (by decide +kernel) (by decide +kernel), (by decide +kernel), (by decide +kernel)⟩
set_option maxRecDepth 20000 in
theorem mi_X7_digest : MIv yX7_digest RX7 cX7_digest 3 (some .long) 0 := ⟨inTB_of 880 (by decide +kernel) (by decide +kernel), inTB_of 881 (by decide +kernel) (by decide +kernel), inTB_of 41 (by decide +kernel) (by decide +kernel), inTB_of 882 (by decide +kernel) (by decide +kernel), (by decide +kernel), (by decide +kernel)⟩
set_option maxRecDepth 20000 in
theorem mi_X7_note : MIv yX7_note RX7 cX7_note 3 none 1 := ⟨inTB_of 886 (by decide +kernel) (by decide +kernel), inTB_of 31 (by decide +kernel) (by decide +kernel), inTB_of 41 (by decide +kernel) (by decide +kernel), inTB_of 887 (by decide +kernel) (by decide +kernel), (by decide +kernel), (by decide +kernel)⟩
set_option maxRecDepth 20000 in
theorem lk_L_9 : Cond.methodLink RL 9 yX6_init ∈ TB := inTB_of 46 (by decide +kernel) (by decide +kernel)
set_option maxRecDepth 20000 in
theorem lk_X6_1 : Cond.methodLink RX6 1 objectInit ∈ TB := inTB_of 49 (by decide +kernel) (by decide +kernel)
set_option maxRecDepth 20000 in
theorem lk_X6_9 : Cond.methodLink RX6 9 yX1_init ∈ TB := inTB_of 54 (by decide +kernel) (by decide +kernel)
set_option maxRecDepth 20000 in
theorem lk_X1_3 : Cond.methodLink RX1 3 objectInit ∈ TB := inTB_of 57 (by decide +kernel) (by decide +kernel)
set_option maxRecDepth 20000 in
theorem lk_X1_49 : Cond.methodLink RX1 49 yJ7_fill_53178 ∈ TB := inTB_of 60 (by decide +kernel) (by decide +kernel)
set_option maxRecDepth 20000 in
theorem lk_X1_55 : InT (Cond.methodLinkNest RX1 55 yX5_init "TrapSurvey") := inT_of 64 (by decide +kernel) (by decide +kernel)
set_option maxRecDepth 20000 in
theorem lk_X5_3 : Cond.methodLink RX5 3 objectInit ∈ TB := inTB_of 67 (by decide +kernel) (by decide +kernel)
set_option maxRecDepth 20000 in
theorem lk_X6_18 : Cond.methodLink RX6 18 yX0_init ∈ TB := inTB_of 159 (by decide +kernel) (by decide +kernel)
set_option maxRecDepth 20000 in
theorem lk_X0_3 : Cond.methodLink RX0 3 objectInit ∈ TB := inTB_of 162 (by decide +kernel) (by decide +kernel)
set_option maxRecDepth 20000 in
theorem lk_X0_21 : Cond.methodLink RX0 21 yX1_init ∈ TB := inTB_of 165 (by decide +kernel) (by decide +kernel)
set_option maxRecDepth 20000 in
theorem lk_X6_25 : InT (Cond.methodLinkNest RX6 25 yX3_init "TrapSurvey") := inT_of 176 (by decide +kernel) (by decide +kernel)
set_option maxRecDepth 20000 in
theorem lk_X3_3 : Cond.methodLink RX3 3 objectInit ∈ TB := inTB_of 179 (by decide +kernel) (by decide +kernel)
set_option maxRecDepth 20000 in
theorem lk_X6_32 : InT (Cond.methodLinkNest RX6 32 yX4_init "TrapSurvey") := inT_of 196 (by decide +kernel) (by decide +kernel)
set_option maxRecDepth 20000 in
theorem lk_X4_3 : Cond.methodLink RX4 3 objectInit ∈ TB := inTB_of 199 (by decide +kernel) (by decide +kernel)
set_option maxRecDepth 20000 in
theorem lk_X6_39 : InT (Cond.methodLinkNest RX6 39 yX2_init "TrapSurvey") := inT_of 217 (by decide +kernel) (by decide +kernel)
set_option maxRecDepth 20000 in
theorem lk_X2_3 : Cond.methodLink RX2 3 objectInit ∈ TB := inTB_of 220 (by decide +kernel) (by decide +kernel)
set_option maxRecDepth 20000 in
theorem lk_L_13 : Cond.methodLink RL 13 yX6_setPressure ∈ TB := inTB_of 258 (by decide +kernel) (by decide +kernel)
set_option maxRecDepth 20000 in
theorem lk_X6_44 : Cond.methodLink RX6 44 yX1_hasHeader ∈ TB := inTB_of 262 (by decide +kernel) (by decide +kernel)
set_option maxRecDepth 20000 in
theorem lk_X6_48 : Cond.methodLink RX6 48 yX6_isWithin ∈ TB := inTB_of 266 (by decide +kernel) (by decide +kernel)
set_option maxRecDepth 20000 in
theorem lk_X6_52 : Cond.methodLink RX6 52 yX0_keep ∈ TB := inTB_of 269 (by decide +kernel) (by decide +kernel)
set_option maxRecDepth 20000 in
theorem lk_X0_22 : Cond.methodLink RX0 22 yX0_dropOldest ∈ TB := inTB_of 273 (by decide +kernel) (by decide +kernel)
set_option maxRecDepth 20000 in
theorem lk_X0_25 : Cond.methodLink RX0 25 yX1_copyFrom ∈ TB := inTB_of 277 (by decide +kernel) (by decide +kernel)
set_option maxRecDepth 20000 in
theorem lk_X1_56 : Cond.methodLink RX1 56 arraycopyName ∈ TB := inTB_of 281 (by decide +kernel) (by decide +kernel)
set_option maxRecDepth 20000 in
theorem lk_X1_62 : Cond.methodLink RX1 62 yX5_copyFrom ∈ TB := inTB_of 284 (by decide +kernel) (by decide +kernel)
set_option maxRecDepth 20000 in
theorem lk_L_18 : Cond.methodLink RL 18 yX6_addLine ∈ TB := inTB_of 288 (by decide +kernel) (by decide +kernel)
set_option maxRecDepth 20000 in
theorem lk_L_23 : Cond.methodLink RL 23 yX6_addTrap ∈ TB := inTB_of 292 (by decide +kernel) (by decide +kernel)
set_option maxRecDepth 20000 in
theorem lk_X6_67 : Cond.methodLink RX6 67 yX1_hasLine ∈ TB := inTB_of 296 (by decide +kernel) (by decide +kernel)
set_option maxRecDepth 20000 in
theorem lk_X6_77 : Cond.methodLink RX6 77 yX5_install ∈ TB := inTB_of 300 (by decide +kernel) (by decide +kernel)
set_option maxRecDepth 20000 in
theorem lk_L_28 : Cond.methodLink RL 28 yX6_moveLine ∈ TB := inTB_of 304 (by decide +kernel) (by decide +kernel)
set_option maxRecDepth 20000 in
theorem lk_L_32 : Cond.methodLink RL 32 yX6_setWork ∈ TB := inTB_of 308 (by decide +kernel) (by decide +kernel)
set_option maxRecDepth 20000 in
theorem lk_L_37 : Cond.methodLink RL 37 yX6_count ∈ TB := inTB_of 312 (by decide +kernel) (by decide +kernel)
set_option maxRecDepth 20000 in
theorem lk_L_41 : Cond.methodLink RL 41 yX6_trap ∈ TB := inTB_of 316 (by decide +kernel) (by decide +kernel)
set_option maxRecDepth 20000 in
theorem lk_X6_101 : Cond.methodLink RX6 101 yX1_trapAt ∈ TB := inTB_of 320 (by decide +kernel) (by decide +kernel)
set_option maxRecDepth 20000 in
theorem lk_X6_126 : Cond.methodLink RX6 126 yX1_headerOfLine ∈ TB := inTB_of 324 (by decide +kernel) (by decide +kernel)
set_option maxRecDepth 20000 in
theorem lk_X1_66 : Cond.methodLink RX1 66 yX1_hasLine ∈ TB := inTB_of 328 (by decide +kernel) (by decide +kernel)
set_option maxRecDepth 20000 in
theorem lk_L_45 : Cond.methodLink RL 45 yX6_headerOf ∈ TB := inTB_of 329 (by decide +kernel) (by decide +kernel)
set_option maxRecDepth 20000 in
theorem lk_L_49 : Cond.methodLink RL 49 yX6_pressure ∈ TB := inTB_of 333 (by decide +kernel) (by decide +kernel)
set_option maxRecDepth 20000 in
theorem lk_X6_130 : Cond.methodLink RX6 130 yX1_pressureOfHeader ∈ TB := inTB_of 337 (by decide +kernel) (by decide +kernel)
set_option maxRecDepth 20000 in
theorem lk_X1_70 : Cond.methodLink RX1 70 yX1_hasHeader ∈ TB := inTB_of 341 (by decide +kernel) (by decide +kernel)
set_option maxRecDepth 20000 in
theorem lk_L_53 : Cond.methodLink RL 53 yX6_read ∈ TB := inTB_of 342 (by decide +kernel) (by decide +kernel)
set_option maxRecDepth 20000 in
theorem lk_X6_133 : Cond.methodLink RX6 133 yX6_judge ∈ TB := inTB_of 346 (by decide +kernel) (by decide +kernel)
set_option maxRecDepth 20000 in
theorem lk_X6_141 : Cond.methodLink RX6 141 yX1_pressureAt ∈ TB := inTB_of 350 (by decide +kernel) (by decide +kernel)
set_option maxRecDepth 20000 in
theorem lk_X1_76 : Cond.methodLink RX1 76 yX1_headerOfLine ∈ TB := inTB_of 354 (by decide +kernel) (by decide +kernel)
set_option maxRecDepth 20000 in
theorem lk_X1_80 : Cond.methodLink RX1 80 yX1_pressureOfHeader ∈ TB := inTB_of 355 (by decide +kernel) (by decide +kernel)
set_option maxRecDepth 20000 in
theorem lk_X6_145 : Cond.methodLink RX6 145 yX5_judged ∈ TB := inTB_of 356 (by decide +kernel) (by decide +kernel)
set_option maxRecDepth 20000 in
theorem lk_X5_37 : Cond.methodLink RX5 37 yX5_judgedAsBucket ∈ TB := inTB_of 360 (by decide +kernel) (by decide +kernel)
set_option maxRecDepth 20000 in
theorem lk_X5_41 : Cond.methodLink RX5 41 yX5_judgedAsThermostatic ∈ TB := inTB_of 363 (by decide +kernel) (by decide +kernel)
set_option maxRecDepth 20000 in
theorem lk_X5_45 : Cond.methodLink RX5 45 yX5_judgedAsDisc ∈ TB := inTB_of 366 (by decide +kernel) (by decide +kernel)
set_option maxRecDepth 20000 in
theorem lk_X6_137 : Cond.methodLink RX6 137 yX1_takeReading ∈ TB := inTB_of 369 (by decide +kernel) (by decide +kernel)
set_option maxRecDepth 20000 in
theorem lk_X1_83 : Cond.methodLink RX1 83 yX1_trapAt ∈ TB := inTB_of 373 (by decide +kernel) (by decide +kernel)
set_option maxRecDepth 20000 in
theorem lk_X1_87 : Cond.methodLink RX1 87 yX1_pressureAt ∈ TB := inTB_of 374 (by decide +kernel) (by decide +kernel)
set_option maxRecDepth 20000 in
theorem lk_X1_91 : Cond.methodLink RX1 91 yX5_judged ∈ TB := inTB_of 375 (by decide +kernel) (by decide +kernel)
set_option maxRecDepth 20000 in
theorem lk_L_58 : Cond.methodLink RL 58 yX6_judge ∈ TB := inTB_of 376 (by decide +kernel) (by decide +kernel)
set_option maxRecDepth 20000 in
theorem lk_L_62 : Cond.methodLink RL 62 yX6_pass ∈ TB := inTB_of 377 (by decide +kernel) (by decide +kernel)
set_option maxRecDepth 20000 in
theorem lk_X6_148 : Cond.methodLink RX6 148 yX1_letPass ∈ TB := inTB_of 381 (by decide +kernel) (by decide +kernel)
set_option maxRecDepth 20000 in
theorem lk_X1_105 : Cond.methodLink RX1 105 yX1_lossOf ∈ TB := inTB_of 385 (by decide +kernel) (by decide +kernel)
set_option maxRecDepth 20000 in
theorem lk_X1_108 : Cond.methodLink RX1 108 yX5_lossUnder ∈ TB := inTB_of 389 (by decide +kernel) (by decide +kernel)
set_option maxRecDepth 20000 in
theorem lk_L_66 : Cond.methodLink RL 66 yX6_inState ∈ TB := inTB_of 393 (by decide +kernel) (by decide +kernel)
set_option maxRecDepth 20000 in
theorem lk_X6_152 : Cond.methodLink RX6 152 yX1_trapsInState ∈ TB := inTB_of 397 (by decide +kernel) (by decide +kernel)
set_option maxRecDepth 20000 in
theorem lk_L_70 : Cond.methodLink RL 70 yX6_loss ∈ TB := inTB_of 401 (by decide +kernel) (by decide +kernel)
set_option maxRecDepth 20000 in
theorem lk_X6_155 : Cond.methodLink RX6 155 yX1_lossOf ∈ TB := inTB_of 405 (by decide +kernel) (by decide +kernel)
set_option maxRecDepth 20000 in
theorem lk_L_74 : Cond.methodLink RL 74 yX6_lineLoss ∈ TB := inTB_of 406 (by decide +kernel) (by decide +kernel)
set_option maxRecDepth 20000 in
theorem lk_X6_158 : Cond.methodLink RX6 158 yX1_lossOfLine ∈ TB := inTB_of 410 (by decide +kernel) (by decide +kernel)
set_option maxRecDepth 20000 in
theorem lk_L_78 : Cond.methodLink RL 78 yX6_headerLoss ∈ TB := inTB_of 414 (by decide +kernel) (by decide +kernel)
set_option maxRecDepth 20000 in
theorem lk_X6_161 : Cond.methodLink RX6 161 yX1_lossOfHeader ∈ TB := inTB_of 418 (by decide +kernel) (by decide +kernel)
set_option maxRecDepth 20000 in
theorem lk_L_82 : Cond.methodLink RL 82 yX6_lost ∈ TB := inTB_of 422 (by decide +kernel) (by decide +kernel)
set_option maxRecDepth 20000 in
theorem lk_X6_164 : Cond.methodLink RX6 164 yX1_lostByAll ∈ TB := inTB_of 426 (by decide +kernel) (by decide +kernel)
set_option maxRecDepth 20000 in
theorem lk_L_87 : Cond.methodLink RL 87 yX6_saves ∈ TB := inTB_of 431 (by decide +kernel) (by decide +kernel)
set_option maxRecDepth 20000 in
theorem lk_X6_174 : Cond.methodLink RX6 174 yX1_priceADay ∈ TB := inTB_of 435 (by decide +kernel) (by decide +kernel)
set_option maxRecDepth 20000 in
theorem lk_L_91 : Cond.methodLink RL 91 yX6_repairCost ∈ TB := inTB_of 440 (by decide +kernel) (by decide +kernel)
set_option maxRecDepth 20000 in
theorem lk_X6_180 : Cond.methodLink RX6 180 yX5_costOfRepair ∈ TB := inTB_of 444 (by decide +kernel) (by decide +kernel)
set_option maxRecDepth 20000 in
theorem lk_L_95 : Cond.methodLink RL 95 yX6_payback ∈ TB := inTB_of 448 (by decide +kernel) (by decide +kernel)
set_option maxRecDepth 20000 in
theorem lk_X6_184 : Cond.methodLink RX6 184 yX1_paybackOf ∈ TB := inTB_of 452 (by decide +kernel) (by decide +kernel)
set_option maxRecDepth 20000 in
theorem lk_X1_111 : Cond.methodLink RX1 111 yX1_priceADay ∈ TB := inTB_of 456 (by decide +kernel) (by decide +kernel)
set_option maxRecDepth 20000 in
theorem lk_X1_119 : Cond.methodLink RX1 119 yX5_costOfRepair ∈ TB := inTB_of 459 (by decide +kernel) (by decide +kernel)
set_option maxRecDepth 20000 in
theorem lk_L_99 : Cond.methodLink RL 99 yX6_order ∈ TB := inTB_of 460 (by decide +kernel) (by decide +kernel)
set_option maxRecDepth 20000 in
theorem lk_X6_188 : Cond.methodLink RX6 188 yX3_rankTraps ∈ TB := inTB_of 464 (by decide +kernel) (by decide +kernel)
set_option maxRecDepth 20000 in
theorem lk_X3_35 : Cond.methodLink RX3 35 yX1_lossOf ∈ TB := inTB_of 468 (by decide +kernel) (by decide +kernel)
set_option maxRecDepth 20000 in
theorem lk_X3_39 : Cond.methodLink RX3 39 yX1_paybackOf ∈ TB := inTB_of 469 (by decide +kernel) (by decide +kernel)
set_option maxRecDepth 20000 in
theorem lk_X3_43 : Cond.methodLink RX3 43 yX3_insert ∈ TB := inTB_of 470 (by decide +kernel) (by decide +kernel)
set_option maxRecDepth 20000 in
theorem lk_X3_47 : Cond.methodLink RX3 47 yX3_isBetter ∈ TB := inTB_of 474 (by decide +kernel) (by decide +kernel)
set_option maxRecDepth 20000 in
theorem lk_X6_191 : Cond.methodLink RX6 191 yX3_trapAtRank ∈ TB := inTB_of 478 (by decide +kernel) (by decide +kernel)
set_option maxRecDepth 20000 in
theorem lk_L_103 : Cond.methodLink RL 103 yX6_repair ∈ TB := inTB_of 482 (by decide +kernel) (by decide +kernel)
set_option maxRecDepth 20000 in
theorem lk_X6_194 : Cond.methodLink RX6 194 yX1_mend ∈ TB := inTB_of 486 (by decide +kernel) (by decide +kernel)
set_option maxRecDepth 20000 in
theorem lk_L_107 : Cond.methodLink RL 107 yX6_repairAll ∈ TB := inTB_of 490 (by decide +kernel) (by decide +kernel)
set_option maxRecDepth 20000 in
theorem lk_L_111 : Cond.methodLink RL 111 yX6_isDue ∈ TB := inTB_of 494 (by decide +kernel) (by decide +kernel)
set_option maxRecDepth 20000 in
theorem lk_X6_198 : Cond.methodLink RX6 198 yX1_needsVisit ∈ TB := inTB_of 498 (by decide +kernel) (by decide +kernel)
set_option maxRecDepth 20000 in
theorem lk_L_115 : Cond.methodLink RL 115 yX6_round ∈ TB := inTB_of 502 (by decide +kernel) (by decide +kernel)
set_option maxRecDepth 20000 in
theorem lk_X6_202 : Cond.methodLink RX6 202 yX4_plan ∈ TB := inTB_of 506 (by decide +kernel) (by decide +kernel)
set_option maxRecDepth 20000 in
theorem lk_X4_35 : Cond.methodLink RX4 35 yX1_needsVisit ∈ TB := inTB_of 510 (by decide +kernel) (by decide +kernel)
set_option maxRecDepth 20000 in
theorem lk_X4_39 : Cond.methodLink RX4 39 yX4_nearestWaiting ∈ TB := inTB_of 511 (by decide +kernel) (by decide +kernel)
set_option maxRecDepth 20000 in
theorem lk_X4_43 : Cond.methodLink RX4 43 yX5_wayFrom ∈ TB := inTB_of 515 (by decide +kernel) (by decide +kernel)
set_option maxRecDepth 20000 in
theorem lk_X5_49 : Cond.methodLink RX5 49 Lib.Math.abs.name ∈ TB := inTB_of 519 (by decide +kernel) (by decide +kernel)
set_option maxRecDepth 20000 in
theorem lk_X4_55 : Cond.methodLink RX4 55 Lib.Math.abs.name ∈ TB := inTB_of 522 (by decide +kernel) (by decide +kernel)
set_option maxRecDepth 20000 in
theorem lk_X6_205 : Cond.methodLink RX6 205 yX4_stopAt ∈ TB := inTB_of 523 (by decide +kernel) (by decide +kernel)
set_option maxRecDepth 20000 in
theorem lk_L_119 : Cond.methodLink RL 119 yX6_roundLength ∈ TB := inTB_of 527 (by decide +kernel) (by decide +kernel)
set_option maxRecDepth 20000 in
theorem lk_L_124 : Cond.methodLink RL 124 yX6_dueOn ∈ TB := inTB_of 531 (by decide +kernel) (by decide +kernel)
set_option maxRecDepth 20000 in
theorem lk_L_128 : Cond.methodLink RL 128 yX6_undo ∈ TB := inTB_of 535 (by decide +kernel) (by decide +kernel)
set_option maxRecDepth 20000 in
theorem lk_X6_211 : Cond.methodLink RX6 211 yX0_takeBack ∈ TB := inTB_of 539 (by decide +kernel) (by decide +kernel)
set_option maxRecDepth 20000 in
theorem lk_L_132 : Cond.methodLink RL 132 yX6_type ∈ TB := inTB_of 543 (by decide +kernel) (by decide +kernel)
set_option maxRecDepth 20000 in
theorem lk_X6_216 : Cond.methodLink RX6 216 yX2_append ∈ TB := inTB_of 547 (by decide +kernel) (by decide +kernel)
set_option maxRecDepth 20000 in
theorem lk_L_136 : Cond.methodLink RL 136 yX6_clearText ∈ TB := inTB_of 551 (by decide +kernel) (by decide +kernel)
set_option maxRecDepth 20000 in
theorem lk_L_140 : Cond.methodLink RL 140 yX6_textFault ∈ TB := inTB_of 555 (by decide +kernel) (by decide +kernel)
set_option maxRecDepth 20000 in
theorem lk_X6_220 : Cond.methodLink RX6 220 yX2_faultFor ∈ TB := inTB_of 559 (by decide +kernel) (by decide +kernel)
set_option maxRecDepth 20000 in
theorem lk_X2_30 : Cond.methodLink RX2 30 yX2_scanList ∈ TB := inTB_of 563 (by decide +kernel) (by decide +kernel)
set_option maxRecDepth 20000 in
theorem lk_X2_34 : Cond.methodLink RX2 34 yX2_scanReading ∈ TB := inTB_of 567 (by decide +kernel) (by decide +kernel)
set_option maxRecDepth 20000 in
theorem lk_X2_42 : Cond.methodLink RX2 42 yX2_scanNumber ∈ TB := inTB_of 571 (by decide +kernel) (by decide +kernel)
set_option maxRecDepth 20000 in
theorem lk_X2_46 : Cond.methodLink RX2 46 yX2_skipBlanks ∈ TB := inTB_of 575 (by decide +kernel) (by decide +kernel)
set_option maxRecDepth 20000 in
theorem lk_X2_49 : Cond.methodLink RX2 49 yX2_isDigit ∈ TB := inTB_of 579 (by decide +kernel) (by decide +kernel)
set_option maxRecDepth 20000 in
theorem lk_X2_52 : InT (Cond.methodLinkNest RX2 52 yX6_isWithin "TrapSurvey") := inT_of 582 (by decide +kernel) (by decide +kernel)
set_option maxRecDepth 20000 in
theorem lk_X2_38 : Cond.methodLink RX2 38 yX2_scanSign ∈ TB := inTB_of 583 (by decide +kernel) (by decide +kernel)
set_option maxRecDepth 20000 in
theorem lk_L_144 : Cond.methodLink RL 144 yX6_readAll ∈ TB := inTB_of 587 (by decide +kernel) (by decide +kernel)
set_option maxRecDepth 20000 in
theorem lk_L_148 : Cond.methodLink RL 148 yX6_digest ∈ TB := inTB_of 591 (by decide +kernel) (by decide +kernel)
set_option maxRecDepth 20000 in
theorem lk_X6_234 : Cond.methodLink RX6 234 yX6_count ∈ TB := inTB_of 597 (by decide +kernel) (by decide +kernel)
set_option maxRecDepth 20000 in
theorem lk_X6_237 : Cond.methodLink RX6 237 yX6_pressure ∈ TB := inTB_of 598 (by decide +kernel) (by decide +kernel)
set_option maxRecDepth 20000 in
theorem lk_X6_240 : Cond.methodLink RX6 240 yX6_headerOf ∈ TB := inTB_of 599 (by decide +kernel) (by decide +kernel)
set_option maxRecDepth 20000 in
theorem lk_X6_243 : Cond.methodLink RX6 243 yX6_trap ∈ TB := inTB_of 600 (by decide +kernel) (by decide +kernel)
set_option maxRecDepth 20000 in
theorem lk_X6_247 : Cond.methodLink RX6 247 yX6_lost ∈ TB := inTB_of 601 (by decide +kernel) (by decide +kernel)
set_option maxRecDepth 20000 in
theorem lk_L_12 : Cond.methodLink RL 12 yX7_init ∈ TB := inTB_of 604 (by decide +kernel) (by decide +kernel)
set_option maxRecDepth 20000 in
theorem lk_X7_1 : Cond.methodLink RX7 1 objectInit ∈ TB := inTB_of 607 (by decide +kernel) (by decide +kernel)
set_option maxRecDepth 20000 in
theorem lk_L_17 : Cond.methodLink RL 17 yX7_setPressure ∈ TB := inTB_of 648 (by decide +kernel) (by decide +kernel)
set_option maxRecDepth 20000 in
theorem lk_X7_43 : Cond.methodLink RX7 43 yX7_isHeader ∈ TB := inTB_of 652 (by decide +kernel) (by decide +kernel)
set_option maxRecDepth 20000 in
theorem lk_X7_35 : Cond.methodLink RX7 35 yX7_in ∈ TB := inTB_of 655 (by decide +kernel) (by decide +kernel)
set_option maxRecDepth 20000 in
theorem lk_X7_47 : Cond.methodLink RX7 47 yX7_keeps ∈ TB := inTB_of 658 (by decide +kernel) (by decide +kernel)
set_option maxRecDepth 20000 in
theorem lk_X7_31 : Cond.methodLink RX7 31 yX7_copies ∈ TB := inTB_of 662 (by decide +kernel) (by decide +kernel)
set_option maxRecDepth 20000 in
theorem lk_L_22 : Cond.methodLink RL 22 yX7_addLine ∈ TB := inTB_of 666 (by decide +kernel) (by decide +kernel)
set_option maxRecDepth 20000 in
theorem lk_L_27 : Cond.methodLink RL 27 yX7_addTrap ∈ TB := inTB_of 670 (by decide +kernel) (by decide +kernel)
set_option maxRecDepth 20000 in
theorem lk_X7_50 : Cond.methodLink RX7 50 yX7_isLine ∈ TB := inTB_of 674 (by decide +kernel) (by decide +kernel)
set_option maxRecDepth 20000 in
theorem lk_L_31 : Cond.methodLink RL 31 yX7_moveLine ∈ TB := inTB_of 678 (by decide +kernel) (by decide +kernel)
set_option maxRecDepth 20000 in
theorem lk_L_36 : Cond.methodLink RL 36 yX7_setWork ∈ TB := inTB_of 682 (by decide +kernel) (by decide +kernel)
set_option maxRecDepth 20000 in
theorem lk_L_40 : Cond.methodLink RL 40 yX7_count ∈ TB := inTB_of 686 (by decide +kernel) (by decide +kernel)
set_option maxRecDepth 20000 in
theorem lk_L_44 : Cond.methodLink RL 44 yX7_trap ∈ TB := inTB_of 690 (by decide +kernel) (by decide +kernel)
set_option maxRecDepth 20000 in
theorem lk_X7_53 : Cond.methodLink RX7 53 yX7_isTrap ∈ TB := inTB_of 694 (by decide +kernel) (by decide +kernel)
set_option maxRecDepth 20000 in
theorem lk_X7_56 : Cond.methodLink RX7 56 yX7_header ∈ TB := inTB_of 698 (by decide +kernel) (by decide +kernel)
set_option maxRecDepth 20000 in
theorem lk_X7_39 : Cond.methodLink RX7 39 yX7_of ∈ TB := inTB_of 702 (by decide +kernel) (by decide +kernel)
set_option maxRecDepth 20000 in
theorem lk_L_48 : Cond.methodLink RL 48 yX7_headerOf ∈ TB := inTB_of 706 (by decide +kernel) (by decide +kernel)
set_option maxRecDepth 20000 in
theorem lk_L_52 : Cond.methodLink RL 52 yX7_pressure ∈ TB := inTB_of 710 (by decide +kernel) (by decide +kernel)
set_option maxRecDepth 20000 in
theorem lk_L_57 : Cond.methodLink RL 57 yX7_read ∈ TB := inTB_of 714 (by decide +kernel) (by decide +kernel)
set_option maxRecDepth 20000 in
theorem lk_X7_64 : Cond.methodLink RX7 64 yX7_isReading ∈ TB := inTB_of 718 (by decide +kernel) (by decide +kernel)
set_option maxRecDepth 20000 in
theorem lk_X7_67 : Cond.methodLink RX7 67 yX7_reads ∈ TB := inTB_of 721 (by decide +kernel) (by decide +kernel)
set_option maxRecDepth 20000 in
theorem lk_X7_60 : Cond.methodLink RX7 60 yX7_judges ∈ TB := inTB_of 725 (by decide +kernel) (by decide +kernel)
set_option maxRecDepth 20000 in
theorem lk_L_61 : Cond.methodLink RL 61 yX7_judge ∈ TB := inTB_of 729 (by decide +kernel) (by decide +kernel)
set_option maxRecDepth 20000 in
theorem lk_L_65 : Cond.methodLink RL 65 yX7_pass ∈ TB := inTB_of 733 (by decide +kernel) (by decide +kernel)
set_option maxRecDepth 20000 in
theorem lk_X7_71 : Cond.methodLink RX7 71 yX7_lossOf ∈ TB := inTB_of 737 (by decide +kernel) (by decide +kernel)
set_option maxRecDepth 20000 in
theorem lk_L_69 : Cond.methodLink RL 69 yX7_inState ∈ TB := inTB_of 741 (by decide +kernel) (by decide +kernel)
set_option maxRecDepth 20000 in
theorem lk_L_73 : Cond.methodLink RL 73 yX7_loss ∈ TB := inTB_of 745 (by decide +kernel) (by decide +kernel)
set_option maxRecDepth 20000 in
theorem lk_L_77 : Cond.methodLink RL 77 yX7_lineLoss ∈ TB := inTB_of 749 (by decide +kernel) (by decide +kernel)
set_option maxRecDepth 20000 in
theorem lk_L_81 : Cond.methodLink RL 81 yX7_headerLoss ∈ TB := inTB_of 753 (by decide +kernel) (by decide +kernel)
set_option maxRecDepth 20000 in
theorem lk_L_86 : Cond.methodLink RL 86 yX7_lost ∈ TB := inTB_of 757 (by decide +kernel) (by decide +kernel)
set_option maxRecDepth 20000 in
theorem lk_L_90 : Cond.methodLink RL 90 yX7_saves ∈ TB := inTB_of 762 (by decide +kernel) (by decide +kernel)
set_option maxRecDepth 20000 in
theorem lk_X7_76 : Cond.methodLink RX7 76 yX7_worth ∈ TB := inTB_of 766 (by decide +kernel) (by decide +kernel)
set_option maxRecDepth 20000 in
theorem lk_L_94 : Cond.methodLink RL 94 yX7_repairCost ∈ TB := inTB_of 771 (by decide +kernel) (by decide +kernel)
set_option maxRecDepth 20000 in
theorem lk_X7_82 : Cond.methodLink RX7 82 yX7_costOf ∈ TB := inTB_of 775 (by decide +kernel) (by decide +kernel)
set_option maxRecDepth 20000 in
theorem lk_L_98 : Cond.methodLink RL 98 yX7_payback ∈ TB := inTB_of 779 (by decide +kernel) (by decide +kernel)
set_option maxRecDepth 20000 in
theorem lk_X7_87 : Cond.methodLink RX7 87 yX7_paysBack ∈ TB := inTB_of 783 (by decide +kernel) (by decide +kernel)
set_option maxRecDepth 20000 in
theorem lk_L_102 : Cond.methodLink RL 102 yX7_order ∈ TB := inTB_of 788 (by decide +kernel) (by decide +kernel)
set_option maxRecDepth 20000 in
theorem lk_X7_94 : Cond.methodLink RX7 94 yX7_ranked ∈ TB := inTB_of 792 (by decide +kernel) (by decide +kernel)
set_option maxRecDepth 20000 in
theorem lk_X7_90 : Cond.methodLink RX7 90 yX7_isAhead ∈ TB := inTB_of 796 (by decide +kernel) (by decide +kernel)
set_option maxRecDepth 20000 in
theorem lk_L_106 : Cond.methodLink RL 106 yX7_repair ∈ TB := inTB_of 800 (by decide +kernel) (by decide +kernel)
set_option maxRecDepth 20000 in
theorem lk_X7_97 : Cond.methodLink RX7 97 yX7_repairs ∈ TB := inTB_of 804 (by decide +kernel) (by decide +kernel)
set_option maxRecDepth 20000 in
theorem lk_L_110 : Cond.methodLink RL 110 yX7_repairAll ∈ TB := inTB_of 808 (by decide +kernel) (by decide +kernel)
set_option maxRecDepth 20000 in
theorem lk_L_114 : Cond.methodLink RL 114 yX7_isDue ∈ TB := inTB_of 812 (by decide +kernel) (by decide +kernel)
set_option maxRecDepth 20000 in
theorem lk_X7_101 : Cond.methodLink RX7 101 yX7_due ∈ TB := inTB_of 816 (by decide +kernel) (by decide +kernel)
set_option maxRecDepth 20000 in
theorem lk_L_118 : Cond.methodLink RL 118 yX7_round ∈ TB := inTB_of 820 (by decide +kernel) (by decide +kernel)
set_option maxRecDepth 20000 in
theorem lk_X7_113 : Cond.methodLink RX7 113 yX7_walks ∈ TB := inTB_of 824 (by decide +kernel) (by decide +kernel)
set_option maxRecDepth 20000 in
theorem lk_X7_110 : Cond.methodLink RX7 110 yX7_size ∈ TB := inTB_of 828 (by decide +kernel) (by decide +kernel)
set_option maxRecDepth 20000 in
theorem lk_L_123 : Cond.methodLink RL 123 yX7_roundLength ∈ TB := inTB_of 831 (by decide +kernel) (by decide +kernel)
set_option maxRecDepth 20000 in
theorem lk_L_127 : Cond.methodLink RL 127 yX7_dueOn ∈ TB := inTB_of 835 (by decide +kernel) (by decide +kernel)
set_option maxRecDepth 20000 in
theorem lk_L_131 : Cond.methodLink RL 131 yX7_undo ∈ TB := inTB_of 839 (by decide +kernel) (by decide +kernel)
set_option maxRecDepth 20000 in
theorem lk_L_135 : Cond.methodLink RL 135 yX7_type ∈ TB := inTB_of 843 (by decide +kernel) (by decide +kernel)
set_option maxRecDepth 20000 in
theorem lk_L_139 : Cond.methodLink RL 139 yX7_clearText ∈ TB := inTB_of 847 (by decide +kernel) (by decide +kernel)
set_option maxRecDepth 20000 in
theorem lk_L_143 : Cond.methodLink RL 143 yX7_textFault ∈ TB := inTB_of 851 (by decide +kernel) (by decide +kernel)
set_option maxRecDepth 20000 in
theorem lk_X7_142 : Cond.methodLink RX7 142 yX7_readsText ∈ TB := inTB_of 855 (by decide +kernel) (by decide +kernel)
set_option maxRecDepth 20000 in
theorem lk_X7_138 : Cond.methodLink RX7 138 yX7_readsReading ∈ TB := inTB_of 859 (by decide +kernel) (by decide +kernel)
set_option maxRecDepth 20000 in
theorem lk_X7_129 : Cond.methodLink RX7 129 yX7_readsNumber ∈ TB := inTB_of 863 (by decide +kernel) (by decide +kernel)
set_option maxRecDepth 20000 in
theorem lk_X7_122 : Cond.methodLink RX7 122 yX7_here ∈ TB := inTB_of 867 (by decide +kernel) (by decide +kernel)
set_option maxRecDepth 20000 in
theorem lk_X7_132 : Cond.methodLink RX7 132 yX7_sign ∈ TB := inTB_of 871 (by decide +kernel) (by decide +kernel)
set_option maxRecDepth 20000 in
theorem lk_L_147 : Cond.methodLink RL 147 yX7_readAll ∈ TB := inTB_of 875 (by decide +kernel) (by decide +kernel)
set_option maxRecDepth 20000 in
theorem lk_L_152 : Cond.methodLink RL 152 yX7_digest ∈ TB := inTB_of 879 (by decide +kernel) (by decide +kernel)
set_option maxRecDepth 20000 in
theorem lk_X7_153 : Cond.methodLink RX7 153 yX7_note ∈ TB := inTB_of 884 (by decide +kernel) (by decide +kernel)
set_option maxRecDepth 20000 in
theorem cw_X6_168 : InT (Cond.constantLong RX6 168 (-2)) := inT_of 430 (by decide +kernel) (by decide +kernel)
set_option maxRecDepth 20000 in
theorem cw_X6_178 : InT (Cond.constantLong RX6 178 (1000000)) := inT_of 439 (by decide +kernel) (by decide +kernel)
set_option maxRecDepth 20000 in
theorem cw_X1_115 : InT (Cond.constantLong RX1 115 (-1)) := inT_of 457 (by decide +kernel) (by decide +kernel)
set_option maxRecDepth 20000 in
theorem cw_X1_117 : InT (Cond.constantLong RX1 117 (1000000)) := inT_of 458 (by decide +kernel) (by decide +kernel)
set_option maxRecDepth 20000 in
theorem cw_X6_230 : InT (Cond.constantLong RX6 230 (17)) := inT_of 595 (by decide +kernel) (by decide +kernel)
set_option maxRecDepth 20000 in
theorem cw_X6_232 : InT (Cond.constantLong RX6 232 (31)) := inT_of 596 (by decide +kernel) (by decide +kernel)
set_option maxRecDepth 20000 in
theorem cw_X7_74 : InT (Cond.constantLong RX7 74 (-2)) := inT_of 761 (by decide +kernel) (by decide +kernel)
set_option maxRecDepth 20000 in
theorem cw_X7_80 : InT (Cond.constantLong RX7 80 (1000000)) := inT_of 770 (by decide +kernel) (by decide +kernel)
set_option maxRecDepth 20000 in
theorem cw_X7_85 : InT (Cond.constantLong RX7 85 (-1)) := inT_of 787 (by decide +kernel) (by decide +kernel)
set_option maxRecDepth 20000 in
theorem cw_X7_151 : InT (Cond.constantLong RX7 151 (17)) := inT_of 883 (by decide +kernel) (by decide +kernel)
set_option maxRecDepth 20000 in
theorem cw_X7_145 : InT (Cond.constantLong RX7 145 (31)) := inT_of 888 (by decide +kernel) (by decide +kernel)
set_option maxRecDepth 20000 in
theorem w_abs_s : Cond.static Lib.Math.abs.name ∈ TB := inTB_of 520 (by decide +kernel) (by decide +kernel)
set_option maxRecDepth 20000 in
theorem w_abs_i : Cond.initialized "java/lang/Math" ∈ TB := inTB_of 43 (by decide +kernel) (by decide +kernel)
set_option maxRecDepth 20000 in
theorem w_abs_c : Cond.code Lib.Math.abs.name Lib.Math.abs.code 1 (some .int) ∈ TB := inTB_of 521 (by decide +kernel) (by decide +kernel)
set_option maxRecDepth 20000 in
theorem w_ac_n : Cond.native arraycopyName ∈ TB := inTB_of 283 (by decide +kernel) (by decide +kernel)
set_option maxRecDepth 20000 in
theorem w_ac_s : Cond.static arraycopyName ∈ TB := inTB_of 282 (by decide +kernel) (by decide +kernel)
set_option maxRecDepth 20000 in
theorem w_ac_i : Cond.initialized "java/lang/System" ∈ TB := inTB_of 42 (by decide +kernel) (by decide +kernel)
set_option maxRecDepth 20000 in
theorem w_oi_i : Cond.instanceMethod objectInit ∈ TB := inTB_of 50 (by decide +kernel) (by decide +kernel)
set_option maxRecDepth 20000 in
theorem w_oi_c : Cond.code objectInit ⟨#[0xb1]⟩ 1 none ∈ TB := inTB_of 51 (by decide +kernel) (by decide +kernel)
set_option maxRecDepth 20000 in
theorem kl_L_7 : Cond.classLink RL 7 "TrapSurvey" ∈ TB := inTB_of 44 (by decide +kernel) (by decide +kernel)
set_option maxRecDepth 20000 in
theorem in_X6 : Cond.instantiable RX6 5 ∈ TB ∧ Cond.initialized RX6 ∈ TB := ⟨inTB_of 45 (by decide +kernel) (by decide +kernel), inTB_of 33 (by decide +kernel) (by decide +kernel)⟩
set_option maxRecDepth 20000 in
theorem kl_X6_7 : Cond.classLink RX6 7 "TrapSurvey$Plant" ∈ TB := inTB_of 52 (by decide +kernel) (by decide +kernel)
set_option maxRecDepth 20000 in
theorem in_X1 : Cond.instantiable RX1 11 ∈ TB ∧ Cond.initialized RX1 ∈ TB := ⟨inTB_of 53 (by decide +kernel) (by decide +kernel), inTB_of 34 (by decide +kernel) (by decide +kernel)⟩
set_option maxRecDepth 20000 in
theorem kl_X1_18 : Cond.classLink RX1 18 "TrapSurvey$Trap" ∈ TB := inTB_of 58 (by decide +kernel) (by decide +kernel)
set_option maxRecDepth 20000 in
theorem ao_T : Cond.arrayOver (.object RX5) ∈ lw_tbl := List.mem_of_getElem? (i := 59) (by decide +kernel)
set_option maxRecDepth 20000 in
theorem in_X5 : Cond.instantiable RX5 8 ∈ TB ∧ Cond.initialized RX5 ∈ TB := ⟨inTB_of 63 (by decide +kernel) (by decide +kernel), inTB_of 36 (by decide +kernel) (by decide +kernel)⟩
set_option maxRecDepth 20000 in
theorem ac_int : Cond.arrayClass .int ∈ TB := inTB_of 107 (by decide +kernel) (by decide +kernel)
set_option maxRecDepth 20000 in
theorem kl_X6_16 : Cond.classLink RX6 16 "TrapSurvey$History" ∈ TB := inTB_of 157 (by decide +kernel) (by decide +kernel)
set_option maxRecDepth 20000 in
theorem in_X0 : Cond.instantiable RX0 2 ∈ TB ∧ Cond.initialized RX0 ∈ TB := ⟨inTB_of 158 (by decide +kernel) (by decide +kernel), inTB_of 37 (by decide +kernel) (by decide +kernel)⟩
set_option maxRecDepth 20000 in
theorem kl_X0_9 : Cond.classLink RX0 9 "TrapSurvey$Plant" ∈ TB := inTB_of 163 (by decide +kernel) (by decide +kernel)
set_option maxRecDepth 20000 in
theorem ao_P : Cond.arrayOver (.object RX1) ∈ lw_tbl := List.mem_of_getElem? (i := 164) (by decide +kernel)
set_option maxRecDepth 20000 in
theorem kl_X6_23 : Cond.classLink RX6 23 "TrapSurvey$RepairOrder" ∈ TB := inTB_of 174 (by decide +kernel) (by decide +kernel)
set_option maxRecDepth 20000 in
theorem in_X3 : Cond.instantiable RX3 4 ∈ TB ∧ Cond.initialized RX3 ∈ TB := ⟨inTB_of 175 (by decide +kernel) (by decide +kernel), inTB_of 38 (by decide +kernel) (by decide +kernel)⟩
set_option maxRecDepth 20000 in
theorem ac_long : Cond.arrayClass .long ∈ TB := inTB_of 193 (by decide +kernel) (by decide +kernel)
set_option maxRecDepth 20000 in
theorem kl_X6_30 : Cond.classLink RX6 30 "TrapSurvey$SurveyRound" ∈ TB := inTB_of 194 (by decide +kernel) (by decide +kernel)
set_option maxRecDepth 20000 in
theorem in_X4 : Cond.instantiable RX4 4 ∈ TB ∧ Cond.initialized RX4 ∈ TB := ⟨inTB_of 195 (by decide +kernel) (by decide +kernel), inTB_of 39 (by decide +kernel) (by decide +kernel)⟩
set_option maxRecDepth 20000 in
theorem ac_boolean : Cond.arrayClass .boolean ∈ TB := inTB_of 214 (by decide +kernel) (by decide +kernel)
set_option maxRecDepth 20000 in
theorem kl_X6_37 : Cond.classLink RX6 37 "TrapSurvey$ReadingText" ∈ TB := inTB_of 215 (by decide +kernel) (by decide +kernel)
set_option maxRecDepth 20000 in
theorem in_X2 : Cond.instantiable RX2 5 ∈ TB ∧ Cond.initialized RX2 ∈ TB := ⟨inTB_of 216 (by decide +kernel) (by decide +kernel), inTB_of 40 (by decide +kernel) (by decide +kernel)⟩
set_option maxRecDepth 20000 in
theorem kl_X2_15 : Cond.classLink RX2 15 "[[I" ∈ TB := inTB_of 221 (by decide +kernel) (by decide +kernel)
set_option maxRecDepth 20000 in
theorem ao_I : Cond.arrayOver (.array .int) ∈ lw_tbl := List.mem_of_getElem? (i := 222) (by decide +kernel)
set_option maxRecDepth 20000 in
theorem kl_L_10 : Cond.classLink RL 10 "TrapSurveyModel" ∈ TB := inTB_of 602 (by decide +kernel) (by decide +kernel)
set_option maxRecDepth 20000 in
theorem in_X7 : Cond.instantiable RX7 13 ∈ TB ∧ Cond.initialized RX7 ∈ TB := ⟨inTB_of 603 (by decide +kernel) (by decide +kernel), inTB_of 41 (by decide +kernel) (by decide +kernel)⟩
