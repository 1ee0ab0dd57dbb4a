set_option maxRecDepth 20000 in
theorem aw_int : Cond.arrayClass .int ∈ plWG := mt 56 (by decide +kernel) rfl
set_option maxRecDepth 20000 in
theorem aw_boolean : Cond.arrayClass .boolean ∈ plWG := mt 820 (by decide +kernel) rfl
set_option maxRecDepth 20000 in
theorem ini_PL : Cond.initialized "ProtectedLine" ∈ plWG := mt 1 (by decide +kernel) rfl
set_option maxRecDepth 20000 in
theorem ini_BL : Cond.initialized "ProtectedLine$BackLine" ∈ plWG := mt 7 (by decide +kernel) rfl
set_option maxRecDepth 20000 in
theorem ini_CO : Cond.initialized "ProtectedLine$Code" ∈ plWG := mt 12 (by decide +kernel) rfl
set_option maxRecDepth 20000 in
theorem ini_CS : Cond.initialized "ProtectedLine$ContainerSource" ∈ plWG := mt 4 (by decide +kernel) rfl
set_option maxRecDepth 20000 in
theorem ini_LN : Cond.initialized "ProtectedLine$Line" ∈ plWG := mt 6 (by decide +kernel) rfl
set_option maxRecDepth 20000 in
theorem ini_LI : Cond.initialized "ProtectedLine$Listener" ∈ plWG := mt 5 (by decide +kernel) rfl
set_option maxRecDepth 20000 in
theorem ini_NA : Cond.initialized "ProtectedLine$NodeA" ∈ plWG := mt 3 (by decide +kernel) rfl
set_option maxRecDepth 20000 in
theorem ini_PR : Cond.initialized "ProtectedLine$PointerReader" ∈ plWG := mt 10 (by decide +kernel) rfl
set_option maxRecDepth 20000 in
theorem ini_SR : Cond.initialized "ProtectedLine$StreamReader" ∈ plWG := mt 9 (by decide +kernel) rfl
set_option maxRecDepth 20000 in
theorem ini_SS : Cond.initialized "ProtectedLine$StreamSource" ∈ plWG := mt 2 (by decide +kernel) rfl
set_option maxRecDepth 20000 in
theorem ini_SW : Cond.initialized "ProtectedLine$Switch" ∈ plWG := mt 8 (by decide +kernel) rfl
set_option maxRecDepth 20000 in
theorem ini_LAW : Cond.initialized "ProtectedLineLaw" ∈ plWG := mt 0 (by decide +kernel) rfl
set_option maxRecDepth 20000 in
theorem ini_RM : Cond.initialized "ProtectedLineModel" ∈ plWG := mt 11 (by decide +kernel) rfl
set_option maxRecDepth 20000 in
theorem ini_JI : Cond.initialized "java/lang/Integer" ∈ plWG := mt 15 (by decide +kernel) rfl
set_option maxRecDepth 20000 in
theorem ini_System : Cond.initialized "java/lang/System" ∈ plWG := mt 13 (by decide +kernel) rfl
set_option maxRecDepth 20000 in
theorem ini_JA : Cond.initialized "java/util/Arrays" ∈ plWG := mt 14 (by decide +kernel) rfl
set_option maxRecDepth 20000 in
theorem co_PL_init : Cond.code y_PL_init b_PL_init 7 none ∈ plWG := mt 20 rfl rfl
set_option maxRecDepth 20000 in
theorem im_PL_init : Cond.instanceMethod y_PL_init ∈ plWG := mt 19 (by decide +kernel) rfl
set_option maxRecDepth 20000 in
theorem mn_PL_init : plMN y_PL_init 4 := ⟨by decide +kernel, by decide +kernel, by decide +kernel⟩
set_option maxRecDepth 20000 in
theorem co_SS_init : Cond.code y_SS_init b_SS_init 1 none ∈ plWG := mt 28 rfl rfl
set_option maxRecDepth 20000 in
theorem im_SS_init : Cond.instanceMethod y_SS_init ∈ plWG := mt 27 (by decide +kernel) rfl
set_option maxRecDepth 20000 in
theorem mn_SS_init : plMN y_SS_init 0 := ⟨by decide +kernel, by decide +kernel, by decide +kernel⟩
set_option maxRecDepth 20000 in
theorem co_CS_init : Cond.code y_CS_init b_CS_init 2 none ∈ plWG := mt 63 rfl rfl
set_option maxRecDepth 20000 in
theorem im_CS_init : Cond.instanceMethod y_CS_init ∈ plWG := mt 62 (by decide +kernel) rfl
set_option maxRecDepth 20000 in
theorem mn_CS_init : plMN y_CS_init 1 := ⟨by decide +kernel, by decide +kernel, by decide +kernel⟩
set_option maxRecDepth 20000 in
theorem co_NA_init : Cond.code y_NA_init b_NA_init 2 none ∈ plWG := mt 77 rfl rfl
set_option maxRecDepth 20000 in
theorem im_NA_init : Cond.instanceMethod y_NA_init ∈ plWG := mt 76 (by decide +kernel) rfl
set_option maxRecDepth 20000 in
theorem mn_NA_init : plMN y_NA_init 1 := ⟨by decide +kernel, by decide +kernel, by decide +kernel⟩
set_option maxRecDepth 20000 in
theorem co_LI_init : Cond.code y_LI_init b_LI_init 1 none ∈ plWG := mt 83 rfl rfl
set_option maxRecDepth 20000 in
theorem im_LI_init : Cond.instanceMethod y_LI_init ∈ plWG := mt 82 (by decide +kernel) rfl
set_option maxRecDepth 20000 in
theorem mn_LI_init : plMN y_LI_init 0 := ⟨by decide +kernel, by decide +kernel, by decide +kernel⟩
set_option maxRecDepth 20000 in
theorem co_PL_delayOf : Cond.code y_PL_delayOf b_PL_delayOf 1 (some .int) ∈ plWG := mt 121 rfl rfl
set_option maxRecDepth 20000 in
theorem st_PL_delayOf : Cond.static y_PL_delayOf ∈ plWG := mt 120 (by decide +kernel) rfl
set_option maxRecDepth 20000 in
theorem mn_PL_delayOf : plMN y_PL_delayOf 1 := ⟨by decide +kernel, by decide +kernel, by decide +kernel⟩
set_option maxRecDepth 20000 in
theorem co_LN_init : Cond.code y_LN_init b_LN_init 2 none ∈ plWG := mt 124 rfl rfl
set_option maxRecDepth 20000 in
theorem im_LN_init : Cond.instanceMethod y_LN_init ∈ plWG := mt 123 (by decide +kernel) rfl
set_option maxRecDepth 20000 in
theorem mn_LN_init : plMN y_LN_init 1 := ⟨by decide +kernel, by decide +kernel, by decide +kernel⟩
set_option maxRecDepth 20000 in
theorem co_BL_init : Cond.code y_BL_init b_BL_init 2 none ∈ plWG := mt 171 rfl rfl
set_option maxRecDepth 20000 in
theorem im_BL_init : Cond.instanceMethod y_BL_init ∈ plWG := mt 170 (by decide +kernel) rfl
set_option maxRecDepth 20000 in
theorem mn_BL_init : plMN y_BL_init 1 := ⟨by decide +kernel, by decide +kernel, by decide +kernel⟩
set_option maxRecDepth 20000 in
theorem co_SW_init : Cond.code y_SW_init b_SW_init 3 none ∈ plWG := mt 187 rfl rfl
set_option maxRecDepth 20000 in
theorem im_SW_init : Cond.instanceMethod y_SW_init ∈ plWG := mt 186 (by decide +kernel) rfl
set_option maxRecDepth 20000 in
theorem mn_SW_init : plMN y_SW_init 2 := ⟨by decide +kernel, by decide +kernel, by decide +kernel⟩
set_option maxRecDepth 20000 in
theorem co_SR_init : Cond.code y_SR_init b_SR_init 1 none ∈ plWG := mt 224 rfl rfl
set_option maxRecDepth 20000 in
theorem im_SR_init : Cond.instanceMethod y_SR_init ∈ plWG := mt 223 (by decide +kernel) rfl
set_option maxRecDepth 20000 in
theorem mn_SR_init : plMN y_SR_init 0 := ⟨by decide +kernel, by decide +kernel, by decide +kernel⟩
set_option maxRecDepth 20000 in
theorem co_PR_init : Cond.code y_PR_init b_PR_init 2 none ∈ plWG := mt 270 rfl rfl
set_option maxRecDepth 20000 in
theorem im_PR_init : Cond.instanceMethod y_PR_init ∈ plWG := mt 269 (by decide +kernel) rfl
set_option maxRecDepth 20000 in
theorem mn_PR_init : plMN y_PR_init 1 := ⟨by decide +kernel, by decide +kernel, by decide +kernel⟩
set_option maxRecDepth 20000 in
theorem co_PL_send : Cond.code y_PL_send b_PL_send 4 (some .boolean) ∈ plWG := mt 330 rfl rfl
set_option maxRecDepth 20000 in
theorem im_PL_send : Cond.instanceMethod y_PL_send ∈ plWG := mt 328 (by decide +kernel) rfl
set_option maxRecDepth 20000 in
theorem se_PL_send : Cond.selects "ProtectedLine" y_PL_send y_PL_send ∈ plWG := mt 329 (by decide +kernel) rfl
set_option maxRecDepth 20000 in
theorem mn_PL_send : plMN y_PL_send 2 := ⟨by decide +kernel, by decide +kernel, by decide +kernel⟩
set_option maxRecDepth 20000 in
theorem co_SS_enqueue : Cond.code y_SS_enqueue b_SS_enqueue 5 (some .boolean) ∈ plWG := mt 334 rfl rfl
set_option maxRecDepth 20000 in
theorem im_SS_enqueue : Cond.instanceMethod y_SS_enqueue ∈ plWG := mt 332 (by decide +kernel) rfl
set_option maxRecDepth 20000 in
theorem se_SS_enqueue : Cond.selects "ProtectedLine$StreamSource" y_SS_enqueue y_SS_enqueue ∈ plWG := mt 333 (by decide +kernel) rfl
set_option maxRecDepth 20000 in
theorem mn_SS_enqueue : plMN y_SS_enqueue 2 := ⟨by decide +kernel, by decide +kernel, by decide +kernel⟩
set_option maxRecDepth 20000 in
theorem co_SS_makeReady : Cond.code y_SS_makeReady b_SS_makeReady 8 none ∈ plWG := mt 338 rfl rfl
set_option maxRecDepth 20000 in
theorem im_SS_makeReady : Cond.instanceMethod y_SS_makeReady ∈ plWG := mt 337 (by decide +kernel) rfl
set_option maxRecDepth 20000 in
theorem se_SS_makeReady : Cond.selects "ProtectedLine$StreamSource" y_SS_makeReady y_SS_makeReady ∈ plWG := ms (y := y_SS_makeReady) (n := 8) 0 (by decide +kernel)
set_option maxRecDepth 20000 in
theorem mn_SS_makeReady : plMN y_SS_makeReady 3 := ⟨by decide +kernel, by decide +kernel, by decide +kernel⟩
set_option maxRecDepth 20000 in
theorem co_CO_hash : Cond.code y_CO_hash b_CO_hash 3 (some .int) ∈ plWG := mt 341 rfl rfl
set_option maxRecDepth 20000 in
theorem st_CO_hash : Cond.static y_CO_hash ∈ plWG := mt 340 (by decide +kernel) rfl
set_option maxRecDepth 20000 in
theorem mn_CO_hash : plMN y_CO_hash 1 := ⟨by decide +kernel, by decide +kernel, by decide +kernel⟩
set_option maxRecDepth 20000 in
theorem co_PL_tick : Cond.code y_PL_tick b_PL_tick 3 (some .boolean) ∈ plWG := mt 345 rfl rfl
set_option maxRecDepth 20000 in
theorem im_PL_tick : Cond.instanceMethod y_PL_tick ∈ plWG := mt 343 (by decide +kernel) rfl
set_option maxRecDepth 20000 in
theorem se_PL_tick : Cond.selects "ProtectedLine" y_PL_tick y_PL_tick ∈ plWG := mt 344 (by decide +kernel) rfl
set_option maxRecDepth 20000 in
theorem mn_PL_tick : plMN y_PL_tick 1 := ⟨by decide +kernel, by decide +kernel, by decide +kernel⟩
set_option maxRecDepth 20000 in
theorem co_PL_passTick : Cond.code y_PL_passTick b_PL_passTick 2 none ∈ plWG := mt 349 rfl rfl
set_option maxRecDepth 20000 in
theorem im_PL_passTick : Cond.instanceMethod y_PL_passTick ∈ plWG := mt 348 (by decide +kernel) rfl
set_option maxRecDepth 20000 in
theorem se_PL_passTick : Cond.selects "ProtectedLine" y_PL_passTick y_PL_passTick ∈ plWG := ms (y := y_PL_passTick) (n := 8) 1 (by decide +kernel)
set_option maxRecDepth 20000 in
theorem mn_PL_passTick : plMN y_PL_passTick 0 := ⟨by decide +kernel, by decide +kernel, by decide +kernel⟩
set_option maxRecDepth 20000 in
theorem co_BL_arriving : Cond.code y_BL_arriving b_BL_arriving 2 (some .int) ∈ plWG := mt 353 rfl rfl
set_option maxRecDepth 20000 in
theorem im_BL_arriving : Cond.instanceMethod y_BL_arriving ∈ plWG := mt 351 (by decide +kernel) rfl
set_option maxRecDepth 20000 in
theorem se_BL_arriving : Cond.selects "ProtectedLine$BackLine" y_BL_arriving y_BL_arriving ∈ plWG := mt 352 (by decide +kernel) rfl
set_option maxRecDepth 20000 in
theorem mn_BL_arriving : plMN y_BL_arriving 1 := ⟨by decide +kernel, by decide +kernel, by decide +kernel⟩
set_option maxRecDepth 20000 in
theorem co_LI_hear : Cond.code y_LI_hear b_LI_hear 2 none ∈ plWG := mt 357 rfl rfl
set_option maxRecDepth 20000 in
theorem im_LI_hear : Cond.instanceMethod y_LI_hear ∈ plWG := mt 355 (by decide +kernel) rfl
set_option maxRecDepth 20000 in
theorem se_LI_hear : Cond.selects "ProtectedLine$Listener" y_LI_hear y_LI_hear ∈ plWG := mt 356 (by decide +kernel) rfl
set_option maxRecDepth 20000 in
theorem mn_LI_hear : plMN y_LI_hear 1 := ⟨by decide +kernel, by decide +kernel, by decide +kernel⟩
set_option maxRecDepth 20000 in
theorem co_NA_transmit : Cond.code y_NA_transmit b_NA_transmit 5 none ∈ plWG := mt 361 rfl rfl
set_option maxRecDepth 20000 in
theorem im_NA_transmit : Cond.instanceMethod y_NA_transmit ∈ plWG := mt 359 (by decide +kernel) rfl
set_option maxRecDepth 20000 in
theorem se_NA_transmit : Cond.selects "ProtectedLine$NodeA" y_NA_transmit y_NA_transmit ∈ plWG := mt 360 (by decide +kernel) rfl
set_option maxRecDepth 20000 in
theorem mn_NA_transmit : plMN y_NA_transmit 2 := ⟨by decide +kernel, by decide +kernel, by decide +kernel⟩
set_option maxRecDepth 20000 in
theorem co_NA_justification : Cond.code y_NA_justification b_NA_justification 2 (some .int) ∈ plWG := mt 365 rfl rfl
set_option maxRecDepth 20000 in
theorem im_NA_justification : Cond.instanceMethod y_NA_justification ∈ plWG := mt 364 (by decide +kernel) rfl
set_option maxRecDepth 20000 in
theorem se_NA_justification : Cond.selects "ProtectedLine$NodeA" y_NA_justification y_NA_justification ∈ plWG := ms (y := y_NA_justification) (n := 6) 2 (by decide +kernel)
set_option maxRecDepth 20000 in
theorem mn_NA_justification : plMN y_NA_justification 0 := ⟨by decide +kernel, by decide +kernel, by decide +kernel⟩
set_option maxRecDepth 20000 in
theorem co_NA_fill : Cond.code y_NA_fill b_NA_fill 4 none ∈ plWG := mt 369 rfl rfl
set_option maxRecDepth 20000 in
theorem im_NA_fill : Cond.instanceMethod y_NA_fill ∈ plWG := mt 368 (by decide +kernel) rfl
set_option maxRecDepth 20000 in
theorem se_NA_fill : Cond.selects "ProtectedLine$NodeA" y_NA_fill y_NA_fill ∈ plWG := ms (y := y_NA_fill) (n := 6) 3 (by decide +kernel)
set_option maxRecDepth 20000 in
theorem mn_NA_fill : plMN y_NA_fill 1 := ⟨by decide +kernel, by decide +kernel, by decide +kernel⟩
set_option maxRecDepth 20000 in
theorem co_CO_pointerByte : Cond.code y_CO_pointerByte b_CO_pointerByte 1 (some .int) ∈ plWG := mt 372 rfl rfl
set_option maxRecDepth 20000 in
theorem st_CO_pointerByte : Cond.static y_CO_pointerByte ∈ plWG := mt 371 (by decide +kernel) rfl
set_option maxRecDepth 20000 in
theorem mn_CO_pointerByte : plMN y_CO_pointerByte 1 := ⟨by decide +kernel, by decide +kernel, by decide +kernel⟩
set_option maxRecDepth 20000 in
theorem co_CS_nextByte : Cond.code y_CS_nextByte b_CS_nextByte 2 (some .int) ∈ plWG := mt 376 rfl rfl
set_option maxRecDepth 20000 in
theorem im_CS_nextByte : Cond.instanceMethod y_CS_nextByte ∈ plWG := mt 374 (by decide +kernel) rfl
set_option maxRecDepth 20000 in
theorem se_CS_nextByte : Cond.selects "ProtectedLine$ContainerSource" y_CS_nextByte y_CS_nextByte ∈ plWG := mt 375 (by decide +kernel) rfl
set_option maxRecDepth 20000 in
theorem mn_CS_nextByte : plMN y_CS_nextByte 0 := ⟨by decide +kernel, by decide +kernel, by decide +kernel⟩
set_option maxRecDepth 20000 in
theorem co_SS_nextByte : Cond.code y_SS_nextByte b_SS_nextByte 2 (some .int) ∈ plWG := mt 380 rfl rfl
set_option maxRecDepth 20000 in
theorem im_SS_nextByte : Cond.instanceMethod y_SS_nextByte ∈ plWG := mt 378 (by decide +kernel) rfl
set_option maxRecDepth 20000 in
theorem se_SS_nextByte : Cond.selects "ProtectedLine$StreamSource" y_SS_nextByte y_SS_nextByte ∈ plWG := mt 379 (by decide +kernel) rfl
set_option maxRecDepth 20000 in
theorem mn_SS_nextByte : plMN y_SS_nextByte 0 := ⟨by decide +kernel, by decide +kernel, by decide +kernel⟩
set_option maxRecDepth 20000 in
theorem co_SS_begin : Cond.code y_SS_begin b_SS_begin 1 none ∈ plWG := mt 384 rfl rfl
set_option maxRecDepth 20000 in
theorem im_SS_begin : Cond.instanceMethod y_SS_begin ∈ plWG := mt 383 (by decide +kernel) rfl
set_option maxRecDepth 20000 in
theorem se_SS_begin : Cond.selects "ProtectedLine$StreamSource" y_SS_begin y_SS_begin ∈ plWG := ms (y := y_SS_begin) (n := 8) 4 (by decide +kernel)
set_option maxRecDepth 20000 in
theorem mn_SS_begin : plMN y_SS_begin 0 := ⟨by decide +kernel, by decide +kernel, by decide +kernel⟩
set_option maxRecDepth 20000 in
theorem co_NA_bridgeOn : Cond.code y_NA_bridgeOn b_NA_bridgeOn 2 (some .boolean) ∈ plWG := mt 391 rfl rfl
set_option maxRecDepth 20000 in
theorem im_NA_bridgeOn : Cond.instanceMethod y_NA_bridgeOn ∈ plWG := mt 389 (by decide +kernel) rfl
set_option maxRecDepth 20000 in
theorem se_NA_bridgeOn : Cond.selects "ProtectedLine$NodeA" y_NA_bridgeOn y_NA_bridgeOn ∈ plWG := mt 390 (by decide +kernel) rfl
set_option maxRecDepth 20000 in
theorem mn_NA_bridgeOn : plMN y_NA_bridgeOn 0 := ⟨by decide +kernel, by decide +kernel, by decide +kernel⟩
set_option maxRecDepth 20000 in
theorem co_LN_launch : Cond.code y_LN_launch b_LN_launch 5 none ∈ plWG := mt 395 rfl rfl
set_option maxRecDepth 20000 in
theorem im_LN_launch : Cond.instanceMethod y_LN_launch ∈ plWG := mt 393 (by decide +kernel) rfl
set_option maxRecDepth 20000 in
theorem se_LN_launch : Cond.selects "ProtectedLine$Line" y_LN_launch y_LN_launch ∈ plWG := mt 394 (by decide +kernel) rfl
set_option maxRecDepth 20000 in
theorem mn_LN_launch : plMN y_LN_launch 2 := ⟨by decide +kernel, by decide +kernel, by decide +kernel⟩
set_option maxRecDepth 20000 in
theorem co_LN_slotOf : Cond.code y_LN_slotOf b_LN_slotOf 1 (some .int) ∈ plWG := mt 398 rfl rfl
set_option maxRecDepth 20000 in
theorem st_LN_slotOf : Cond.static y_LN_slotOf ∈ plWG := mt 397 (by decide +kernel) rfl
set_option maxRecDepth 20000 in
theorem mn_LN_slotOf : plMN y_LN_slotOf 1 := ⟨by decide +kernel, by decide +kernel, by decide +kernel⟩
set_option maxRecDepth 20000 in
theorem co_LN_joinedFrom : Cond.code y_LN_joinedFrom b_LN_joinedFrom 4 (some .int) ∈ plWG := mt 403 rfl rfl
set_option maxRecDepth 20000 in
theorem st_LN_joinedFrom : Cond.static y_LN_joinedFrom ∈ plWG := mt 402 (by decide +kernel) rfl
set_option maxRecDepth 20000 in
theorem mn_LN_joinedFrom : plMN y_LN_joinedFrom 2 := ⟨by decide +kernel, by decide +kernel, by decide +kernel⟩
set_option maxRecDepth 20000 in
theorem co_LN_receive : Cond.code y_LN_receive b_LN_receive 3 none ∈ plWG := mt 409 rfl rfl
set_option maxRecDepth 20000 in
theorem im_LN_receive : Cond.instanceMethod y_LN_receive ∈ plWG := mt 407 (by decide +kernel) rfl
set_option maxRecDepth 20000 in
theorem se_LN_receive : Cond.selects "ProtectedLine$Line" y_LN_receive y_LN_receive ∈ plWG := mt 408 (by decide +kernel) rfl
set_option maxRecDepth 20000 in
theorem mn_LN_receive : plMN y_LN_receive 0 := ⟨by decide +kernel, by decide +kernel, by decide +kernel⟩
set_option maxRecDepth 20000 in
theorem co_LN_bringIn : Cond.code y_LN_bringIn b_LN_bringIn 3 none ∈ plWG := mt 413 rfl rfl
set_option maxRecDepth 20000 in
theorem im_LN_bringIn : Cond.instanceMethod y_LN_bringIn ∈ plWG := mt 412 (by decide +kernel) rfl
set_option maxRecDepth 20000 in
theorem se_LN_bringIn : Cond.selects "ProtectedLine$Line" y_LN_bringIn y_LN_bringIn ∈ plWG := ms (y := y_LN_bringIn) (n := 12) 5 (by decide +kernel)
set_option maxRecDepth 20000 in
theorem mn_LN_bringIn : plMN y_LN_bringIn 1 := ⟨by decide +kernel, by decide +kernel, by decide +kernel⟩
set_option maxRecDepth 20000 in
theorem co_JA_fill : Cond.code y_JA_fill b_JA_fill 4 none ∈ plWG := mt 416 rfl rfl
set_option maxRecDepth 20000 in
theorem st_JA_fill : Cond.static y_JA_fill ∈ plWG := mt 415 (by decide +kernel) rfl
set_option maxRecDepth 20000 in
theorem mn_JA_fill : plMN y_JA_fill 2 := ⟨by decide +kernel, by decide +kernel, by decide +kernel⟩
set_option maxRecDepth 20000 in
theorem co_LN_align : Cond.code y_LN_align b_LN_align 2 none ∈ plWG := mt 420 rfl rfl
set_option maxRecDepth 20000 in
theorem im_LN_align : Cond.instanceMethod y_LN_align ∈ plWG := mt 419 (by decide +kernel) rfl
set_option maxRecDepth 20000 in
theorem se_LN_align : Cond.selects "ProtectedLine$Line" y_LN_align y_LN_align ∈ plWG := ms (y := y_LN_align) (n := 12) 6 (by decide +kernel)
set_option maxRecDepth 20000 in
theorem mn_LN_align : plMN y_LN_align 1 := ⟨by decide +kernel, by decide +kernel, by decide +kernel⟩
set_option maxRecDepth 20000 in
theorem co_LN_readable : Cond.code y_LN_readable b_LN_readable 1 (some .boolean) ∈ plWG := mt 424 rfl rfl
set_option maxRecDepth 20000 in
theorem im_LN_readable : Cond.instanceMethod y_LN_readable ∈ plWG := mt 422 (by decide +kernel) rfl
set_option maxRecDepth 20000 in
theorem se_LN_readable : Cond.selects "ProtectedLine$Line" y_LN_readable y_LN_readable ∈ plWG := mt 423 (by decide +kernel) rfl
set_option maxRecDepth 20000 in
theorem mn_LN_readable : plMN y_LN_readable 0 := ⟨by decide +kernel, by decide +kernel, by decide +kernel⟩
set_option maxRecDepth 20000 in
theorem co_LN_plainAt : Cond.code y_LN_plainAt b_LN_plainAt 2 (some .int) ∈ plWG := mt 428 rfl rfl
set_option maxRecDepth 20000 in
theorem im_LN_plainAt : Cond.instanceMethod y_LN_plainAt ∈ plWG := mt 426 (by decide +kernel) rfl
set_option maxRecDepth 20000 in
theorem se_LN_plainAt : Cond.selects "ProtectedLine$Line" y_LN_plainAt y_LN_plainAt ∈ plWG := mt 427 (by decide +kernel) rfl
set_option maxRecDepth 20000 in
theorem mn_LN_plainAt : plMN y_LN_plainAt 1 := ⟨by decide +kernel, by decide +kernel, by decide +kernel⟩
set_option maxRecDepth 20000 in
theorem co_JI_bitCount : Cond.code y_JI_bitCount b_JI_bitCount 1 (some .int) ∈ plWG := mt 431 rfl rfl
set_option maxRecDepth 20000 in
theorem st_JI_bitCount : Cond.static y_JI_bitCount ∈ plWG := mt 430 (by decide +kernel) rfl
set_option maxRecDepth 20000 in
theorem mn_JI_bitCount : plMN y_JI_bitCount 1 := ⟨by decide +kernel, by decide +kernel, by decide +kernel⟩
set_option maxRecDepth 20000 in
theorem co_LN_failed : Cond.code y_LN_failed b_LN_failed 1 (some .boolean) ∈ plWG := mt 440 rfl rfl
set_option maxRecDepth 20000 in
theorem im_LN_failed : Cond.instanceMethod y_LN_failed ∈ plWG := mt 438 (by decide +kernel) rfl
set_option maxRecDepth 20000 in
theorem se_LN_failed : Cond.selects "ProtectedLine$Line" y_LN_failed y_LN_failed ∈ plWG := mt 439 (by decide +kernel) rfl
set_option maxRecDepth 20000 in
theorem mn_LN_failed : plMN y_LN_failed 0 := ⟨by decide +kernel, by decide +kernel, by decide +kernel⟩
set_option maxRecDepth 20000 in
theorem co_SW_decide : Cond.code y_SW_decide b_SW_decide 5 none ∈ plWG := mt 444 rfl rfl
set_option maxRecDepth 20000 in
theorem im_SW_decide : Cond.instanceMethod y_SW_decide ∈ plWG := mt 442 (by decide +kernel) rfl
set_option maxRecDepth 20000 in
theorem se_SW_decide : Cond.selects "ProtectedLine$Switch" y_SW_decide y_SW_decide ∈ plWG := mt 443 (by decide +kernel) rfl
set_option maxRecDepth 20000 in
theorem mn_SW_decide : plMN y_SW_decide 2 := ⟨by decide +kernel, by decide +kernel, by decide +kernel⟩
set_option maxRecDepth 20000 in
theorem co_SW_pressing : Cond.code y_SW_pressing b_SW_pressing 2 (some .int) ∈ plWG := mt 448 rfl rfl
set_option maxRecDepth 20000 in
theorem im_SW_pressing : Cond.instanceMethod y_SW_pressing ∈ plWG := mt 447 (by decide +kernel) rfl
set_option maxRecDepth 20000 in
theorem se_SW_pressing : Cond.selects "ProtectedLine$Switch" y_SW_pressing y_SW_pressing ∈ plWG := ms (y := y_SW_pressing) (n := 8) 7 (by decide +kernel)
set_option maxRecDepth 20000 in
theorem mn_SW_pressing : plMN y_SW_pressing 1 := ⟨by decide +kernel, by decide +kernel, by decide +kernel⟩
set_option maxRecDepth 20000 in
theorem co_SW_waitOn : Cond.code y_SW_waitOn b_SW_waitOn 1 (some .int) ∈ plWG := mt 452 rfl rfl
set_option maxRecDepth 20000 in
theorem im_SW_waitOn : Cond.instanceMethod y_SW_waitOn ∈ plWG := mt 451 (by decide +kernel) rfl
set_option maxRecDepth 20000 in
theorem se_SW_waitOn : Cond.selects "ProtectedLine$Switch" y_SW_waitOn y_SW_waitOn ∈ plWG := ms (y := y_SW_waitOn) (n := 8) 8 (by decide +kernel)
set_option maxRecDepth 20000 in
theorem mn_SW_waitOn : plMN y_SW_waitOn 0 := ⟨by decide +kernel, by decide +kernel, by decide +kernel⟩
set_option maxRecDepth 20000 in
theorem co_PL_lineAt : Cond.code y_PL_lineAt b_PL_lineAt 2 (some (.object "ProtectedLine$Line")) ∈ plWG := mt 456 rfl rfl
set_option maxRecDepth 20000 in
theorem im_PL_lineAt : Cond.instanceMethod y_PL_lineAt ∈ plWG := mt 455 (by decide +kernel) rfl
set_option maxRecDepth 20000 in
theorem se_PL_lineAt : Cond.selects "ProtectedLine" y_PL_lineAt y_PL_lineAt ∈ plWG := ms (y := y_PL_lineAt) (n := 8) 9 (by decide +kernel)
set_option maxRecDepth 20000 in
theorem mn_PL_lineAt : plMN y_PL_lineAt 1 := ⟨by decide +kernel, by decide +kernel, by decide +kernel⟩
set_option maxRecDepth 20000 in
theorem co_PR_take : Cond.code y_PR_take b_PR_take 6 none ∈ plWG := mt 460 rfl rfl
set_option maxRecDepth 20000 in
theorem im_PR_take : Cond.instanceMethod y_PR_take ∈ plWG := mt 458 (by decide +kernel) rfl
set_option maxRecDepth 20000 in
theorem se_PR_take : Cond.selects "ProtectedLine$PointerReader" y_PR_take y_PR_take ∈ plWG := mt 459 (by decide +kernel) rfl
set_option maxRecDepth 20000 in
theorem mn_PR_take : plMN y_PR_take 1 := ⟨by decide +kernel, by decide +kernel, by decide +kernel⟩
set_option maxRecDepth 20000 in
theorem co_PR_follow : Cond.code y_PR_follow b_PR_follow 3 (some .int) ∈ plWG := mt 465 rfl rfl
set_option maxRecDepth 20000 in
theorem im_PR_follow : Cond.instanceMethod y_PR_follow ∈ plWG := mt 464 (by decide +kernel) rfl
set_option maxRecDepth 20000 in
theorem se_PR_follow : Cond.selects "ProtectedLine$PointerReader" y_PR_follow y_PR_follow ∈ plWG := ms (y := y_PR_follow) (n := 9) 10 (by decide +kernel)
set_option maxRecDepth 20000 in
theorem mn_PR_follow : plMN y_PR_follow 1 := ⟨by decide +kernel, by decide +kernel, by decide +kernel⟩
set_option maxRecDepth 20000 in
theorem co_PR_seek : Cond.code y_PR_seek b_PR_seek 2 none ∈ plWG := mt 469 rfl rfl
set_option maxRecDepth 20000 in
theorem im_PR_seek : Cond.instanceMethod y_PR_seek ∈ plWG := mt 468 (by decide +kernel) rfl
set_option maxRecDepth 20000 in
theorem se_PR_seek : Cond.selects "ProtectedLine$PointerReader" y_PR_seek y_PR_seek ∈ plWG := ms (y := y_PR_seek) (n := 9) 11 (by decide +kernel)
set_option maxRecDepth 20000 in
theorem mn_PR_seek : plMN y_PR_seek 1 := ⟨by decide +kernel, by decide +kernel, by decide +kernel⟩
set_option maxRecDepth 20000 in
theorem co_PR_countPlain : Cond.code y_PR_countPlain b_PR_countPlain 3 none ∈ plWG := mt 473 rfl rfl
set_option maxRecDepth 20000 in
theorem im_PR_countPlain : Cond.instanceMethod y_PR_countPlain ∈ plWG := mt 472 (by decide +kernel) rfl
set_option maxRecDepth 20000 in
theorem se_PR_countPlain : Cond.selects "ProtectedLine$PointerReader" y_PR_countPlain y_PR_countPlain ∈ plWG := ms (y := y_PR_countPlain) (n := 9) 12 (by decide +kernel)
set_option maxRecDepth 20000 in
theorem mn_PR_countPlain : plMN y_PR_countPlain 1 := ⟨by decide +kernel, by decide +kernel, by decide +kernel⟩
set_option maxRecDepth 20000 in
theorem co_CO_plainFor : Cond.code y_CO_plainFor b_CO_plainFor 2 (some .int) ∈ plWG := mt 476 rfl rfl
set_option maxRecDepth 20000 in
theorem st_CO_plainFor : Cond.static y_CO_plainFor ∈ plWG := mt 475 (by decide +kernel) rfl
set_option maxRecDepth 20000 in
theorem mn_CO_plainFor : plMN y_CO_plainFor 1 := ⟨by decide +kernel, by decide +kernel, by decide +kernel⟩
set_option maxRecDepth 20000 in
theorem co_PR_endRows : Cond.code y_PR_endRows b_PR_endRows 1 none ∈ plWG := mt 481 rfl rfl
set_option maxRecDepth 20000 in
theorem im_PR_endRows : Cond.instanceMethod y_PR_endRows ∈ plWG := mt 480 (by decide +kernel) rfl
set_option maxRecDepth 20000 in
theorem se_PR_endRows : Cond.selects "ProtectedLine$PointerReader" y_PR_endRows y_PR_endRows ∈ plWG := ms (y := y_PR_endRows) (n := 9) 13 (by decide +kernel)
set_option maxRecDepth 20000 in
theorem mn_PR_endRows : plMN y_PR_endRows 0 := ⟨by decide +kernel, by decide +kernel, by decide +kernel⟩
set_option maxRecDepth 20000 in
theorem co_PR_shiftIn : Cond.code y_PR_shiftIn b_PR_shiftIn 5 (some .int) ∈ plWG := mt 485 rfl rfl
set_option maxRecDepth 20000 in
theorem im_PR_shiftIn : Cond.instanceMethod y_PR_shiftIn ∈ plWG := mt 484 (by decide +kernel) rfl
set_option maxRecDepth 20000 in
theorem se_PR_shiftIn : Cond.selects "ProtectedLine$PointerReader" y_PR_shiftIn y_PR_shiftIn ∈ plWG := ms (y := y_PR_shiftIn) (n := 9) 14 (by decide +kernel)
set_option maxRecDepth 20000 in
theorem mn_PR_shiftIn : plMN y_PR_shiftIn 1 := ⟨by decide +kernel, by decide +kernel, by decide +kernel⟩
set_option maxRecDepth 20000 in
theorem co_PR_doubt : Cond.code y_PR_doubt b_PR_doubt 2 none ∈ plWG := mt 491 rfl rfl
set_option maxRecDepth 20000 in
theorem im_PR_doubt : Cond.instanceMethod y_PR_doubt ∈ plWG := mt 490 (by decide +kernel) rfl
set_option maxRecDepth 20000 in
theorem se_PR_doubt : Cond.selects "ProtectedLine$PointerReader" y_PR_doubt y_PR_doubt ∈ plWG := ms (y := y_PR_doubt) (n := 9) 15 (by decide +kernel)
set_option maxRecDepth 20000 in
theorem mn_PR_doubt : plMN y_PR_doubt 1 := ⟨by decide +kernel, by decide +kernel, by decide +kernel⟩
set_option maxRecDepth 20000 in
theorem co_PR_breakOff : Cond.code y_PR_breakOff b_PR_breakOff 1 none ∈ plWG := mt 495 rfl rfl
set_option maxRecDepth 20000 in
theorem im_PR_breakOff : Cond.instanceMethod y_PR_breakOff ∈ plWG := mt 494 (by decide +kernel) rfl
set_option maxRecDepth 20000 in
theorem se_PR_breakOff : Cond.selects "ProtectedLine$PointerReader" y_PR_breakOff y_PR_breakOff ∈ plWG := ms (y := y_PR_breakOff) (n := 9) 16 (by decide +kernel)
set_option maxRecDepth 20000 in
theorem mn_PR_breakOff : plMN y_PR_breakOff 0 := ⟨by decide +kernel, by decide +kernel, by decide +kernel⟩
set_option maxRecDepth 20000 in
theorem co_SR_hunt : Cond.code y_SR_hunt b_SR_hunt 1 none ∈ plWG := mt 499 rfl rfl
set_option maxRecDepth 20000 in
theorem im_SR_hunt : Cond.instanceMethod y_SR_hunt ∈ plWG := mt 497 (by decide +kernel) rfl
set_option maxRecDepth 20000 in
theorem se_SR_hunt : Cond.selects "ProtectedLine$StreamReader" y_SR_hunt y_SR_hunt ∈ plWG := mt 498 (by decide +kernel) rfl
set_option maxRecDepth 20000 in
theorem mn_SR_hunt : plMN y_SR_hunt 0 := ⟨by decide +kernel, by decide +kernel, by decide +kernel⟩
set_option maxRecDepth 20000 in
theorem co_PR_beginContainer : Cond.code y_PR_beginContainer b_PR_beginContainer 2 none ∈ plWG := mt 503 rfl rfl
set_option maxRecDepth 20000 in
theorem im_PR_beginContainer : Cond.instanceMethod y_PR_beginContainer ∈ plWG := mt 502 (by decide +kernel) rfl
set_option maxRecDepth 20000 in
theorem se_PR_beginContainer : Cond.selects "ProtectedLine$PointerReader" y_PR_beginContainer y_PR_beginContainer ∈ plWG := ms (y := y_PR_beginContainer) (n := 9) 17 (by decide +kernel)
set_option maxRecDepth 20000 in
theorem mn_PR_beginContainer : plMN y_PR_beginContainer 1 := ⟨by decide +kernel, by decide +kernel, by decide +kernel⟩
set_option maxRecDepth 20000 in
theorem co_SR_give : Cond.code y_SR_give b_SR_give 2 none ∈ plWG := mt 507 rfl rfl
set_option maxRecDepth 20000 in
theorem im_SR_give : Cond.instanceMethod y_SR_give ∈ plWG := mt 505 (by decide +kernel) rfl
set_option maxRecDepth 20000 in
theorem se_SR_give : Cond.selects "ProtectedLine$StreamReader" y_SR_give y_SR_give ∈ plWG := mt 506 (by decide +kernel) rfl
set_option maxRecDepth 20000 in
theorem mn_SR_give : plMN y_SR_give 1 := ⟨by decide +kernel, by decide +kernel, by decide +kernel⟩
set_option maxRecDepth 20000 in
theorem co_SR_takeFrameByte : Cond.code y_SR_takeFrameByte b_SR_takeFrameByte 3 none ∈ plWG := mt 511 rfl rfl
set_option maxRecDepth 20000 in
theorem im_SR_takeFrameByte : Cond.instanceMethod y_SR_takeFrameByte ∈ plWG := mt 510 (by decide +kernel) rfl
set_option maxRecDepth 20000 in
theorem se_SR_takeFrameByte : Cond.selects "ProtectedLine$StreamReader" y_SR_takeFrameByte y_SR_takeFrameByte ∈ plWG := ms (y := y_SR_takeFrameByte) (n := 12) 18 (by decide +kernel)
set_option maxRecDepth 20000 in
theorem mn_SR_takeFrameByte : plMN y_SR_takeFrameByte 1 := ⟨by decide +kernel, by decide +kernel, by decide +kernel⟩
set_option maxRecDepth 20000 in
theorem co_SR_endFrame : Cond.code y_SR_endFrame b_SR_endFrame 2 none ∈ plWG := mt 515 rfl rfl
set_option maxRecDepth 20000 in
theorem im_SR_endFrame : Cond.instanceMethod y_SR_endFrame ∈ plWG := mt 514 (by decide +kernel) rfl
set_option maxRecDepth 20000 in
theorem se_SR_endFrame : Cond.selects "ProtectedLine$StreamReader" y_SR_endFrame y_SR_endFrame ∈ plWG := ms (y := y_SR_endFrame) (n := 12) 19 (by decide +kernel)
set_option maxRecDepth 20000 in
theorem mn_SR_endFrame : plMN y_SR_endFrame 1 := ⟨by decide +kernel, by decide +kernel, by decide +kernel⟩
set_option maxRecDepth 20000 in
theorem co_SR_slotOf : Cond.code y_SR_slotOf b_SR_slotOf 1 (some .int) ∈ plWG := mt 518 rfl rfl
set_option maxRecDepth 20000 in
theorem st_SR_slotOf : Cond.static y_SR_slotOf ∈ plWG := mt 517 (by decide +kernel) rfl
set_option maxRecDepth 20000 in
theorem mn_SR_slotOf : plMN y_SR_slotOf 1 := ⟨by decide +kernel, by decide +kernel, by decide +kernel⟩
set_option maxRecDepth 20000 in
theorem co_SR_takeHeader : Cond.code y_SR_takeHeader b_SR_takeHeader 4 none ∈ plWG := mt 524 rfl rfl
set_option maxRecDepth 20000 in
theorem im_SR_takeHeader : Cond.instanceMethod y_SR_takeHeader ∈ plWG := mt 523 (by decide +kernel) rfl
set_option maxRecDepth 20000 in
theorem se_SR_takeHeader : Cond.selects "ProtectedLine$StreamReader" y_SR_takeHeader y_SR_takeHeader ∈ plWG := ms (y := y_SR_takeHeader) (n := 12) 20 (by decide +kernel)
set_option maxRecDepth 20000 in
theorem mn_SR_takeHeader : plMN y_SR_takeHeader 1 := ⟨by decide +kernel, by decide +kernel, by decide +kernel⟩
set_option maxRecDepth 20000 in
theorem co_CO_lengthRepaired : Cond.code y_CO_lengthRepaired b_CO_lengthRepaired 6 (some .int) ∈ plWG := mt 527 rfl rfl
set_option maxRecDepth 20000 in
theorem st_CO_lengthRepaired : Cond.static y_CO_lengthRepaired ∈ plWG := mt 526 (by decide +kernel) rfl
set_option maxRecDepth 20000 in
theorem mn_CO_lengthRepaired : plMN y_CO_lengthRepaired 2 := ⟨by decide +kernel, by decide +kernel, by decide +kernel⟩
set_option maxRecDepth 20000 in
theorem co_CO_lengthIn : Cond.code y_CO_lengthIn b_CO_lengthIn 3 (some .int) ∈ plWG := mt 532 rfl rfl
set_option maxRecDepth 20000 in
theorem st_CO_lengthIn : Cond.static y_CO_lengthIn ∈ plWG := mt 531 (by decide +kernel) rfl
set_option maxRecDepth 20000 in
theorem mn_CO_lengthIn : plMN y_CO_lengthIn 2 := ⟨by decide +kernel, by decide +kernel, by decide +kernel⟩
set_option maxRecDepth 20000 in
theorem co_PR_gap : Cond.code y_PR_gap b_PR_gap 1 none ∈ plWG := mt 537 rfl rfl
set_option maxRecDepth 20000 in
theorem im_PR_gap : Cond.instanceMethod y_PR_gap ∈ plWG := mt 535 (by decide +kernel) rfl
set_option maxRecDepth 20000 in
theorem se_PR_gap : Cond.selects "ProtectedLine$PointerReader" y_PR_gap y_PR_gap ∈ plWG := mt 536 (by decide +kernel) rfl
set_option maxRecDepth 20000 in
theorem mn_PR_gap : plMN y_PR_gap 0 := ⟨by decide +kernel, by decide +kernel, by decide +kernel⟩
set_option maxRecDepth 20000 in
theorem co_SW_kByte : Cond.code y_SW_kByte b_SW_kByte 1 (some .int) ∈ plWG := mt 541 rfl rfl
set_option maxRecDepth 20000 in
theorem im_SW_kByte : Cond.instanceMethod y_SW_kByte ∈ plWG := mt 539 (by decide +kernel) rfl
set_option maxRecDepth 20000 in
theorem se_SW_kByte : Cond.selects "ProtectedLine$Switch" y_SW_kByte y_SW_kByte ∈ plWG := mt 540 (by decide +kernel) rfl
set_option maxRecDepth 20000 in
theorem mn_SW_kByte : plMN y_SW_kByte 0 := ⟨by decide +kernel, by decide +kernel, by decide +kernel⟩
set_option maxRecDepth 20000 in
theorem co_BL_launch : Cond.code y_BL_launch b_BL_launch 2 none ∈ plWG := mt 545 rfl rfl
set_option maxRecDepth 20000 in
theorem im_BL_launch : Cond.instanceMethod y_BL_launch ∈ plWG := mt 543 (by decide +kernel) rfl
set_option maxRecDepth 20000 in
theorem se_BL_launch : Cond.selects "ProtectedLine$BackLine" y_BL_launch y_BL_launch ∈ plWG := mt 544 (by decide +kernel) rfl
set_option maxRecDepth 20000 in
theorem mn_BL_launch : plMN y_BL_launch 1 := ⟨by decide +kernel, by decide +kernel, by decide +kernel⟩
set_option maxRecDepth 20000 in
theorem co_PL_cut : Cond.code y_PL_cut b_PL_cut 3 (some .boolean) ∈ plWG := mt 549 rfl rfl
set_option maxRecDepth 20000 in
theorem im_PL_cut : Cond.instanceMethod y_PL_cut ∈ plWG := mt 547 (by decide +kernel) rfl
set_option maxRecDepth 20000 in
theorem se_PL_cut : Cond.selects "ProtectedLine" y_PL_cut y_PL_cut ∈ plWG := mt 548 (by decide +kernel) rfl
set_option maxRecDepth 20000 in
theorem mn_PL_cut : plMN y_PL_cut 2 := ⟨by decide +kernel, by decide +kernel, by decide +kernel⟩
set_option maxRecDepth 20000 in
theorem co_PL_isLine : Cond.code y_PL_isLine b_PL_isLine 1 (some .boolean) ∈ plWG := mt 552 rfl rfl
set_option maxRecDepth 20000 in
theorem st_PL_isLine : Cond.static y_PL_isLine ∈ plWG := mt 551 (by decide +kernel) rfl
set_option maxRecDepth 20000 in
theorem mn_PL_isLine : plMN y_PL_isLine 1 := ⟨by decide +kernel, by decide +kernel, by decide +kernel⟩
set_option maxRecDepth 20000 in
theorem co_PL_damage : Cond.code y_PL_damage b_PL_damage 4 (some .boolean) ∈ plWG := mt 556 rfl rfl
set_option maxRecDepth 20000 in
theorem im_PL_damage : Cond.instanceMethod y_PL_damage ∈ plWG := mt 554 (by decide +kernel) rfl
set_option maxRecDepth 20000 in
theorem se_PL_damage : Cond.selects "ProtectedLine" y_PL_damage y_PL_damage ∈ plWG := mt 555 (by decide +kernel) rfl
set_option maxRecDepth 20000 in
theorem mn_PL_damage : plMN y_PL_damage 3 := ⟨by decide +kernel, by decide +kernel, by decide +kernel⟩
set_option maxRecDepth 20000 in
theorem co_PL_isPlace : Cond.code y_PL_isPlace b_PL_isPlace 1 (some .boolean) ∈ plWG := mt 559 rfl rfl
set_option maxRecDepth 20000 in
theorem st_PL_isPlace : Cond.static y_PL_isPlace ∈ plWG := mt 558 (by decide +kernel) rfl
set_option maxRecDepth 20000 in
theorem mn_PL_isPlace : plMN y_PL_isPlace 1 := ⟨by decide +kernel, by decide +kernel, by decide +kernel⟩
set_option maxRecDepth 20000 in
theorem co_PL_drift : Cond.code y_PL_drift b_PL_drift 2 (some .boolean) ∈ plWG := mt 563 rfl rfl
set_option maxRecDepth 20000 in
theorem im_PL_drift : Cond.instanceMethod y_PL_drift ∈ plWG := mt 561 (by decide +kernel) rfl
set_option maxRecDepth 20000 in
theorem se_PL_drift : Cond.selects "ProtectedLine" y_PL_drift y_PL_drift ∈ plWG := mt 562 (by decide +kernel) rfl
set_option maxRecDepth 20000 in
theorem mn_PL_drift : plMN y_PL_drift 1 := ⟨by decide +kernel, by decide +kernel, by decide +kernel⟩
set_option maxRecDepth 20000 in
theorem co_NA_owe : Cond.code y_NA_owe b_NA_owe 2 (some .boolean) ∈ plWG := mt 567 rfl rfl
set_option maxRecDepth 20000 in
theorem im_NA_owe : Cond.instanceMethod y_NA_owe ∈ plWG := mt 565 (by decide +kernel) rfl
set_option maxRecDepth 20000 in
theorem se_NA_owe : Cond.selects "ProtectedLine$NodeA" y_NA_owe y_NA_owe ∈ plWG := mt 566 (by decide +kernel) rfl
set_option maxRecDepth 20000 in
theorem mn_NA_owe : plMN y_NA_owe 1 := ⟨by decide +kernel, by decide +kernel, by decide +kernel⟩
set_option maxRecDepth 20000 in
theorem co_PL_command : Cond.code y_PL_command b_PL_command 2 (some .boolean) ∈ plWG := mt 571 rfl rfl
set_option maxRecDepth 20000 in
theorem im_PL_command : Cond.instanceMethod y_PL_command ∈ plWG := mt 569 (by decide +kernel) rfl
set_option maxRecDepth 20000 in
theorem se_PL_command : Cond.selects "ProtectedLine" y_PL_command y_PL_command ∈ plWG := mt 570 (by decide +kernel) rfl
set_option maxRecDepth 20000 in
theorem mn_PL_command : plMN y_PL_command 1 := ⟨by decide +kernel, by decide +kernel, by decide +kernel⟩
set_option maxRecDepth 20000 in
theorem co_PL_waiting : Cond.code y_PL_waiting b_PL_waiting 1 (some .int) ∈ plWG := mt 575 rfl rfl
set_option maxRecDepth 20000 in
theorem im_PL_waiting : Cond.instanceMethod y_PL_waiting ∈ plWG := mt 573 (by decide +kernel) rfl
set_option maxRecDepth 20000 in
theorem se_PL_waiting : Cond.selects "ProtectedLine" y_PL_waiting y_PL_waiting ∈ plWG := mt 574 (by decide +kernel) rfl
set_option maxRecDepth 20000 in
theorem mn_PL_waiting : plMN y_PL_waiting 0 := ⟨by decide +kernel, by decide +kernel, by decide +kernel⟩
set_option maxRecDepth 20000 in
theorem co_PL_sent : Cond.code y_PL_sent b_PL_sent 3 (some .int) ∈ plWG := mt 579 rfl rfl
set_option maxRecDepth 20000 in
theorem im_PL_sent : Cond.instanceMethod y_PL_sent ∈ plWG := mt 577 (by decide +kernel) rfl
set_option maxRecDepth 20000 in
theorem se_PL_sent : Cond.selects "ProtectedLine" y_PL_sent y_PL_sent ∈ plWG := mt 578 (by decide +kernel) rfl
set_option maxRecDepth 20000 in
theorem mn_PL_sent : plMN y_PL_sent 2 := ⟨by decide +kernel, by decide +kernel, by decide +kernel⟩
set_option maxRecDepth 20000 in
theorem co_LN_latestByte : Cond.code y_LN_latestByte b_LN_latestByte 2 (some .int) ∈ plWG := mt 583 rfl rfl
set_option maxRecDepth 20000 in
theorem im_LN_latestByte : Cond.instanceMethod y_LN_latestByte ∈ plWG := mt 581 (by decide +kernel) rfl
set_option maxRecDepth 20000 in
theorem se_LN_latestByte : Cond.selects "ProtectedLine$Line" y_LN_latestByte y_LN_latestByte ∈ plWG := mt 582 (by decide +kernel) rfl
set_option maxRecDepth 20000 in
theorem mn_LN_latestByte : plMN y_LN_latestByte 1 := ⟨by decide +kernel, by decide +kernel, by decide +kernel⟩
set_option maxRecDepth 20000 in
theorem co_PL_alignment : Cond.code y_PL_alignment b_PL_alignment 2 (some .int) ∈ plWG := mt 587 rfl rfl
set_option maxRecDepth 20000 in
theorem im_PL_alignment : Cond.instanceMethod y_PL_alignment ∈ plWG := mt 585 (by decide +kernel) rfl
set_option maxRecDepth 20000 in
theorem se_PL_alignment : Cond.selects "ProtectedLine" y_PL_alignment y_PL_alignment ∈ plWG := mt 586 (by decide +kernel) rfl
set_option maxRecDepth 20000 in
theorem mn_PL_alignment : plMN y_PL_alignment 1 := ⟨by decide +kernel, by decide +kernel, by decide +kernel⟩
set_option maxRecDepth 20000 in
theorem co_PL_errors : Cond.code y_PL_errors b_PL_errors 2 (some .int) ∈ plWG := mt 591 rfl rfl
set_option maxRecDepth 20000 in
theorem im_PL_errors : Cond.instanceMethod y_PL_errors ∈ plWG := mt 589 (by decide +kernel) rfl
set_option maxRecDepth 20000 in
theorem se_PL_errors : Cond.selects "ProtectedLine" y_PL_errors y_PL_errors ∈ plWG := mt 590 (by decide +kernel) rfl
set_option maxRecDepth 20000 in
theorem mn_PL_errors : plMN y_PL_errors 1 := ⟨by decide +kernel, by decide +kernel, by decide +kernel⟩
set_option maxRecDepth 20000 in
theorem co_PL_request : Cond.code y_PL_request b_PL_request 1 (some .int) ∈ plWG := mt 595 rfl rfl
set_option maxRecDepth 20000 in
theorem im_PL_request : Cond.instanceMethod y_PL_request ∈ plWG := mt 593 (by decide +kernel) rfl
set_option maxRecDepth 20000 in
theorem se_PL_request : Cond.selects "ProtectedLine" y_PL_request y_PL_request ∈ plWG := mt 594 (by decide +kernel) rfl
set_option maxRecDepth 20000 in
theorem mn_PL_request : plMN y_PL_request 0 := ⟨by decide +kernel, by decide +kernel, by decide +kernel⟩
set_option maxRecDepth 20000 in
theorem co_PL_bridged : Cond.code y_PL_bridged b_PL_bridged 1 (some .boolean) ∈ plWG := mt 599 rfl rfl
set_option maxRecDepth 20000 in
theorem im_PL_bridged : Cond.instanceMethod y_PL_bridged ∈ plWG := mt 597 (by decide +kernel) rfl
set_option maxRecDepth 20000 in
theorem se_PL_bridged : Cond.selects "ProtectedLine" y_PL_bridged y_PL_bridged ∈ plWG := mt 598 (by decide +kernel) rfl
set_option maxRecDepth 20000 in
theorem mn_PL_bridged : plMN y_PL_bridged 0 := ⟨by decide +kernel, by decide +kernel, by decide +kernel⟩
set_option maxRecDepth 20000 in
theorem co_PL_selected : Cond.code y_PL_selected b_PL_selected 1 (some .int) ∈ plWG := mt 604 rfl rfl
set_option maxRecDepth 20000 in
theorem im_PL_selected : Cond.instanceMethod y_PL_selected ∈ plWG := mt 602 (by decide +kernel) rfl
set_option maxRecDepth 20000 in
theorem se_PL_selected : Cond.selects "ProtectedLine" y_PL_selected y_PL_selected ∈ plWG := mt 603 (by decide +kernel) rfl
set_option maxRecDepth 20000 in
theorem mn_PL_selected : plMN y_PL_selected 0 := ⟨by decide +kernel, by decide +kernel, by decide +kernel⟩
set_option maxRecDepth 20000 in
theorem co_PL_pointer : Cond.code y_PL_pointer b_PL_pointer 1 (some .int) ∈ plWG := mt 608 rfl rfl
set_option maxRecDepth 20000 in
theorem im_PL_pointer : Cond.instanceMethod y_PL_pointer ∈ plWG := mt 606 (by decide +kernel) rfl
set_option maxRecDepth 20000 in
theorem se_PL_pointer : Cond.selects "ProtectedLine" y_PL_pointer y_PL_pointer ∈ plWG := mt 607 (by decide +kernel) rfl
set_option maxRecDepth 20000 in
theorem mn_PL_pointer : plMN y_PL_pointer 0 := ⟨by decide +kernel, by decide +kernel, by decide +kernel⟩
set_option maxRecDepth 20000 in
theorem co_PL_pathErrors : Cond.code y_PL_pathErrors b_PL_pathErrors 1 (some .int) ∈ plWG := mt 612 rfl rfl
set_option maxRecDepth 20000 in
theorem im_PL_pathErrors : Cond.instanceMethod y_PL_pathErrors ∈ plWG := mt 610 (by decide +kernel) rfl
set_option maxRecDepth 20000 in
theorem se_PL_pathErrors : Cond.selects "ProtectedLine" y_PL_pathErrors y_PL_pathErrors ∈ plWG := mt 611 (by decide +kernel) rfl
set_option maxRecDepth 20000 in
theorem mn_PL_pathErrors : plMN y_PL_pathErrors 0 := ⟨by decide +kernel, by decide +kernel, by decide +kernel⟩
set_option maxRecDepth 20000 in
theorem co_PL_sync : Cond.code y_PL_sync b_PL_sync 1 (some .int) ∈ plWG := mt 616 rfl rfl
set_option maxRecDepth 20000 in
theorem im_PL_sync : Cond.instanceMethod y_PL_sync ∈ plWG := mt 614 (by decide +kernel) rfl
set_option maxRecDepth 20000 in
theorem se_PL_sync : Cond.selects "ProtectedLine" y_PL_sync y_PL_sync ∈ plWG := mt 615 (by decide +kernel) rfl
set_option maxRecDepth 20000 in
theorem mn_PL_sync : plMN y_PL_sync 0 := ⟨by decide +kernel, by decide +kernel, by decide +kernel⟩
set_option maxRecDepth 20000 in
theorem co_PL_delivered : Cond.code y_PL_delivered b_PL_delivered 1 (some .int) ∈ plWG := mt 620 rfl rfl
set_option maxRecDepth 20000 in
theorem im_PL_delivered : Cond.instanceMethod y_PL_delivered ∈ plWG := mt 618 (by decide +kernel) rfl
set_option maxRecDepth 20000 in
theorem se_PL_delivered : Cond.selects "ProtectedLine" y_PL_delivered y_PL_delivered ∈ plWG := mt 619 (by decide +kernel) rfl
set_option maxRecDepth 20000 in
theorem mn_PL_delivered : plMN y_PL_delivered 0 := ⟨by decide +kernel, by decide +kernel, by decide +kernel⟩
set_option maxRecDepth 20000 in
theorem co_PL_dropped : Cond.code y_PL_dropped b_PL_dropped 1 (some .int) ∈ plWG := mt 624 rfl rfl
set_option maxRecDepth 20000 in
theorem im_PL_dropped : Cond.instanceMethod y_PL_dropped ∈ plWG := mt 622 (by decide +kernel) rfl
set_option maxRecDepth 20000 in
theorem se_PL_dropped : Cond.selects "ProtectedLine" y_PL_dropped y_PL_dropped ∈ plWG := mt 623 (by decide +kernel) rfl
set_option maxRecDepth 20000 in
theorem mn_PL_dropped : plMN y_PL_dropped 0 := ⟨by decide +kernel, by decide +kernel, by decide +kernel⟩
set_option maxRecDepth 20000 in
theorem co_PL_got : Cond.code y_PL_got b_PL_got 3 (some .int) ∈ plWG := mt 628 rfl rfl
set_option maxRecDepth 20000 in
theorem im_PL_got : Cond.instanceMethod y_PL_got ∈ plWG := mt 626 (by decide +kernel) rfl
set_option maxRecDepth 20000 in
theorem se_PL_got : Cond.selects "ProtectedLine" y_PL_got y_PL_got ∈ plWG := mt 627 (by decide +kernel) rfl
set_option maxRecDepth 20000 in
theorem mn_PL_got : plMN y_PL_got 2 := ⟨by decide +kernel, by decide +kernel, by decide +kernel⟩
set_option maxRecDepth 20000 in
theorem co_SR_kept : Cond.code y_SR_kept b_SR_kept 4 (some .int) ∈ plWG := mt 632 rfl rfl
set_option maxRecDepth 20000 in
theorem im_SR_kept : Cond.instanceMethod y_SR_kept ∈ plWG := mt 630 (by decide +kernel) rfl
set_option maxRecDepth 20000 in
theorem se_SR_kept : Cond.selects "ProtectedLine$StreamReader" y_SR_kept y_SR_kept ∈ plWG := mt 631 (by decide +kernel) rfl
set_option maxRecDepth 20000 in
theorem mn_SR_kept : plMN y_SR_kept 2 := ⟨by decide +kernel, by decide +kernel, by decide +kernel⟩
set_option maxRecDepth 20000 in
theorem co_LAW_cell : Cond.code y_LAW_cell b_LAW_cell 2 (some .int) ∈ plWG := mt 635 rfl rfl
set_option maxRecDepth 20000 in
theorem st_LAW_cell : Cond.static y_LAW_cell ∈ plWG := mt 634 (by decide +kernel) rfl
set_option maxRecDepth 20000 in
theorem mn_LAW_cell : plMN y_LAW_cell 2 := ⟨by decide +kernel, by decide +kernel, by decide +kernel⟩
set_option maxRecDepth 20000 in
theorem co_RM_init : Cond.code y_RM_init b_RM_init 11 none ∈ plWG := mt 640 rfl rfl
set_option maxRecDepth 20000 in
theorem im_RM_init : Cond.instanceMethod y_RM_init ∈ plWG := mt 639 (by decide +kernel) rfl
set_option maxRecDepth 20000 in
theorem mn_RM_init : plMN y_RM_init 4 := ⟨by decide +kernel, by decide +kernel, by decide +kernel⟩
set_option maxRecDepth 20000 in
theorem co_RM_send : Cond.code y_RM_send b_RM_send 5 (some .boolean) ∈ plWG := mt 824 rfl rfl
set_option maxRecDepth 20000 in
theorem im_RM_send : Cond.instanceMethod y_RM_send ∈ plWG := mt 822 (by decide +kernel) rfl
set_option maxRecDepth 20000 in
theorem se_RM_send : Cond.selects "ProtectedLineModel" y_RM_send y_RM_send ∈ plWG := mt 823 (by decide +kernel) rfl
set_option maxRecDepth 20000 in
theorem mn_RM_send : plMN y_RM_send 2 := ⟨by decide +kernel, by decide +kernel, by decide +kernel⟩
set_option maxRecDepth 20000 in
theorem co_RM_cut : Cond.code y_RM_cut b_RM_cut 3 (some .boolean) ∈ plWG := mt 829 rfl rfl
set_option maxRecDepth 20000 in
theorem im_RM_cut : Cond.instanceMethod y_RM_cut ∈ plWG := mt 827 (by decide +kernel) rfl
set_option maxRecDepth 20000 in
theorem se_RM_cut : Cond.selects "ProtectedLineModel" y_RM_cut y_RM_cut ∈ plWG := mt 828 (by decide +kernel) rfl
set_option maxRecDepth 20000 in
theorem mn_RM_cut : plMN y_RM_cut 2 := ⟨by decide +kernel, by decide +kernel, by decide +kernel⟩
set_option maxRecDepth 20000 in
theorem co_RM_isLine : Cond.code y_RM_isLine b_RM_isLine 1 (some .boolean) ∈ plWG := mt 832 rfl rfl
set_option maxRecDepth 20000 in
theorem st_RM_isLine : Cond.static y_RM_isLine ∈ plWG := mt 831 (by decide +kernel) rfl
set_option maxRecDepth 20000 in
theorem mn_RM_isLine : plMN y_RM_isLine 1 := ⟨by decide +kernel, by decide +kernel, by decide +kernel⟩
set_option maxRecDepth 20000 in
theorem co_RM_damage : Cond.code y_RM_damage b_RM_damage 4 (some .boolean) ∈ plWG := mt 836 rfl rfl
set_option maxRecDepth 20000 in
theorem im_RM_damage : Cond.instanceMethod y_RM_damage ∈ plWG := mt 834 (by decide +kernel) rfl
set_option maxRecDepth 20000 in
theorem se_RM_damage : Cond.selects "ProtectedLineModel" y_RM_damage y_RM_damage ∈ plWG := mt 835 (by decide +kernel) rfl
set_option maxRecDepth 20000 in
theorem mn_RM_damage : plMN y_RM_damage 3 := ⟨by decide +kernel, by decide +kernel, by decide +kernel⟩
set_option maxRecDepth 20000 in
theorem co_RM_isPlace : Cond.code y_RM_isPlace b_RM_isPlace 1 (some .boolean) ∈ plWG := mt 839 rfl rfl
set_option maxRecDepth 20000 in
theorem st_RM_isPlace : Cond.static y_RM_isPlace ∈ plWG := mt 838 (by decide +kernel) rfl
set_option maxRecDepth 20000 in
theorem mn_RM_isPlace : plMN y_RM_isPlace 1 := ⟨by decide +kernel, by decide +kernel, by decide +kernel⟩
set_option maxRecDepth 20000 in
theorem co_RM_drift : Cond.code y_RM_drift b_RM_drift 2 (some .boolean) ∈ plWG := mt 843 rfl rfl
set_option maxRecDepth 20000 in
theorem im_RM_drift : Cond.instanceMethod y_RM_drift ∈ plWG := mt 841 (by decide +kernel) rfl
set_option maxRecDepth 20000 in
theorem se_RM_drift : Cond.selects "ProtectedLineModel" y_RM_drift y_RM_drift ∈ plWG := mt 842 (by decide +kernel) rfl
set_option maxRecDepth 20000 in
theorem mn_RM_drift : plMN y_RM_drift 1 := ⟨by decide +kernel, by decide +kernel, by decide +kernel⟩
set_option maxRecDepth 20000 in
theorem co_RM_command : Cond.code y_RM_command b_RM_command 2 (some .boolean) ∈ plWG := mt 847 rfl rfl
set_option maxRecDepth 20000 in
theorem im_RM_command : Cond.instanceMethod y_RM_command ∈ plWG := mt 845 (by decide +kernel) rfl
set_option maxRecDepth 20000 in
theorem se_RM_command : Cond.selects "ProtectedLineModel" y_RM_command y_RM_command ∈ plWG := mt 846 (by decide +kernel) rfl
set_option maxRecDepth 20000 in
theorem mn_RM_command : plMN y_RM_command 1 := ⟨by decide +kernel, by decide +kernel, by decide +kernel⟩
set_option maxRecDepth 20000 in
theorem co_RM_tick : Cond.code y_RM_tick b_RM_tick 3 (some .boolean) ∈ plWG := mt 851 rfl rfl
set_option maxRecDepth 20000 in
theorem im_RM_tick : Cond.instanceMethod y_RM_tick ∈ plWG := mt 849 (by decide +kernel) rfl
set_option maxRecDepth 20000 in
theorem se_RM_tick : Cond.selects "ProtectedLineModel" y_RM_tick y_RM_tick ∈ plWG := mt 850 (by decide +kernel) rfl
set_option maxRecDepth 20000 in
theorem mn_RM_tick : plMN y_RM_tick 1 := ⟨by decide +kernel, by decide +kernel, by decide +kernel⟩
set_option maxRecDepth 20000 in
theorem co_RM_hear : Cond.code y_RM_hear b_RM_hear 2 none ∈ plWG := mt 855 rfl rfl
set_option maxRecDepth 20000 in
theorem im_RM_hear : Cond.instanceMethod y_RM_hear ∈ plWG := mt 854 (by decide +kernel) rfl
set_option maxRecDepth 20000 in
theorem se_RM_hear : Cond.selects "ProtectedLineModel" y_RM_hear y_RM_hear ∈ plWG := ms (y := y_RM_hear) (n := 59) 21 (by decide +kernel)
set_option maxRecDepth 20000 in
theorem mn_RM_hear : plMN y_RM_hear 0 := ⟨by decide +kernel, by decide +kernel, by decide +kernel⟩
set_option maxRecDepth 20000 in
theorem co_RM_build : Cond.code y_RM_build b_RM_build 5 none ∈ plWG := mt 859 rfl rfl
set_option maxRecDepth 20000 in
theorem im_RM_build : Cond.instanceMethod y_RM_build ∈ plWG := mt 858 (by decide +kernel) rfl
set_option maxRecDepth 20000 in
theorem se_RM_build : Cond.selects "ProtectedLineModel" y_RM_build y_RM_build ∈ plWG := ms (y := y_RM_build) (n := 59) 22 (by decide +kernel)
set_option maxRecDepth 20000 in
theorem mn_RM_build : plMN y_RM_build 0 := ⟨by decide +kernel, by decide +kernel, by decide +kernel⟩
set_option maxRecDepth 20000 in
theorem co_RM_contained : Cond.code y_RM_contained b_RM_contained 2 (some .int) ∈ plWG := mt 863 rfl rfl
set_option maxRecDepth 20000 in
theorem im_RM_contained : Cond.instanceMethod y_RM_contained ∈ plWG := mt 862 (by decide +kernel) rfl
set_option maxRecDepth 20000 in
theorem se_RM_contained : Cond.selects "ProtectedLineModel" y_RM_contained y_RM_contained ∈ plWG := ms (y := y_RM_contained) (n := 59) 23 (by decide +kernel)
set_option maxRecDepth 20000 in
theorem mn_RM_contained : plMN y_RM_contained 0 := ⟨by decide +kernel, by decide +kernel, by decide +kernel⟩
set_option maxRecDepth 20000 in
theorem co_RM_streamed : Cond.code y_RM_streamed b_RM_streamed 1 (some .int) ∈ plWG := mt 867 rfl rfl
set_option maxRecDepth 20000 in
theorem im_RM_streamed : Cond.instanceMethod y_RM_streamed ∈ plWG := mt 866 (by decide +kernel) rfl
set_option maxRecDepth 20000 in
theorem se_RM_streamed : Cond.selects "ProtectedLineModel" y_RM_streamed y_RM_streamed ∈ plWG := ms (y := y_RM_streamed) (n := 59) 24 (by decide +kernel)
set_option maxRecDepth 20000 in
theorem mn_RM_streamed : plMN y_RM_streamed 0 := ⟨by decide +kernel, by decide +kernel, by decide +kernel⟩
set_option maxRecDepth 20000 in
theorem co_RM_load : Cond.code y_RM_load b_RM_load 6 none ∈ plWG := mt 871 rfl rfl
set_option maxRecDepth 20000 in
theorem im_RM_load : Cond.instanceMethod y_RM_load ∈ plWG := mt 870 (by decide +kernel) rfl
set_option maxRecDepth 20000 in
theorem se_RM_load : Cond.selects "ProtectedLineModel" y_RM_load y_RM_load ∈ plWG := ms (y := y_RM_load) (n := 59) 25 (by decide +kernel)
set_option maxRecDepth 20000 in
theorem mn_RM_load : plMN y_RM_load 0 := ⟨by decide +kernel, by decide +kernel, by decide +kernel⟩
set_option maxRecDepth 20000 in
theorem co_RM_hash : Cond.code y_RM_hash b_RM_hash 3 (some .int) ∈ plWG := mt 874 rfl rfl
set_option maxRecDepth 20000 in
theorem st_RM_hash : Cond.static y_RM_hash ∈ plWG := mt 873 (by decide +kernel) rfl
set_option maxRecDepth 20000 in
theorem mn_RM_hash : plMN y_RM_hash 1 := ⟨by decide +kernel, by decide +kernel, by decide +kernel⟩
set_option maxRecDepth 20000 in
theorem co_RM_put : Cond.code y_RM_put b_RM_put 7 none ∈ plWG := mt 878 rfl rfl
set_option maxRecDepth 20000 in
theorem im_RM_put : Cond.instanceMethod y_RM_put ∈ plWG := mt 877 (by decide +kernel) rfl
set_option maxRecDepth 20000 in
theorem se_RM_put : Cond.selects "ProtectedLineModel" y_RM_put y_RM_put ∈ plWG := ms (y := y_RM_put) (n := 59) 26 (by decide +kernel)
set_option maxRecDepth 20000 in
theorem mn_RM_put : plMN y_RM_put 1 := ⟨by decide +kernel, by decide +kernel, by decide +kernel⟩
set_option maxRecDepth 20000 in
theorem co_RM_arrive : Cond.code y_RM_arrive b_RM_arrive 5 none ∈ plWG := mt 882 rfl rfl
set_option maxRecDepth 20000 in
theorem im_RM_arrive : Cond.instanceMethod y_RM_arrive ∈ plWG := mt 881 (by decide +kernel) rfl
set_option maxRecDepth 20000 in
theorem se_RM_arrive : Cond.selects "ProtectedLineModel" y_RM_arrive y_RM_arrive ∈ plWG := ms (y := y_RM_arrive) (n := 59) 27 (by decide +kernel)
set_option maxRecDepth 20000 in
theorem mn_RM_arrive : plMN y_RM_arrive 0 := ⟨by decide +kernel, by decide +kernel, by decide +kernel⟩
set_option maxRecDepth 20000 in
theorem co_RM_align : Cond.code y_RM_align b_RM_align 3 none ∈ plWG := mt 886 rfl rfl
set_option maxRecDepth 20000 in
theorem im_RM_align : Cond.instanceMethod y_RM_align ∈ plWG := mt 885 (by decide +kernel) rfl
set_option maxRecDepth 20000 in
theorem se_RM_align : Cond.selects "ProtectedLineModel" y_RM_align y_RM_align ∈ plWG := ms (y := y_RM_align) (n := 59) 28 (by decide +kernel)
set_option maxRecDepth 20000 in
theorem mn_RM_align : plMN y_RM_align 1 := ⟨by decide +kernel, by decide +kernel, by decide +kernel⟩
set_option maxRecDepth 20000 in
theorem co_RM_ones : Cond.code y_RM_ones b_RM_ones 3 (some .int) ∈ plWG := mt 889 rfl rfl
set_option maxRecDepth 20000 in
theorem st_RM_ones : Cond.static y_RM_ones ∈ plWG := mt 888 (by decide +kernel) rfl
set_option maxRecDepth 20000 in
theorem mn_RM_ones : plMN y_RM_ones 1 := ⟨by decide +kernel, by decide +kernel, by decide +kernel⟩
set_option maxRecDepth 20000 in
theorem co_RM_listen : Cond.code y_RM_listen b_RM_listen 2 none ∈ plWG := mt 893 rfl rfl
set_option maxRecDepth 20000 in
theorem im_RM_listen : Cond.instanceMethod y_RM_listen ∈ plWG := mt 892 (by decide +kernel) rfl
set_option maxRecDepth 20000 in
theorem se_RM_listen : Cond.selects "ProtectedLineModel" y_RM_listen y_RM_listen ∈ plWG := ms (y := y_RM_listen) (n := 59) 29 (by decide +kernel)
set_option maxRecDepth 20000 in
theorem mn_RM_listen : plMN y_RM_listen 0 := ⟨by decide +kernel, by decide +kernel, by decide +kernel⟩
set_option maxRecDepth 20000 in
theorem co_RM_decide : Cond.code y_RM_decide b_RM_decide 4 none ∈ plWG := mt 897 rfl rfl
set_option maxRecDepth 20000 in
theorem im_RM_decide : Cond.instanceMethod y_RM_decide ∈ plWG := mt 896 (by decide +kernel) rfl
set_option maxRecDepth 20000 in
theorem se_RM_decide : Cond.selects "ProtectedLineModel" y_RM_decide y_RM_decide ∈ plWG := ms (y := y_RM_decide) (n := 59) 30 (by decide +kernel)
set_option maxRecDepth 20000 in
theorem mn_RM_decide : plMN y_RM_decide 0 := ⟨by decide +kernel, by decide +kernel, by decide +kernel⟩
set_option maxRecDepth 20000 in
theorem co_RM_select : Cond.code y_RM_select b_RM_select 4 none ∈ plWG := mt 901 rfl rfl
set_option maxRecDepth 20000 in
theorem im_RM_select : Cond.instanceMethod y_RM_select ∈ plWG := mt 900 (by decide +kernel) rfl
set_option maxRecDepth 20000 in
theorem se_RM_select : Cond.selects "ProtectedLineModel" y_RM_select y_RM_select ∈ plWG := ms (y := y_RM_select) (n := 59) 31 (by decide +kernel)
set_option maxRecDepth 20000 in
theorem mn_RM_select : plMN y_RM_select 0 := ⟨by decide +kernel, by decide +kernel, by decide +kernel⟩
set_option maxRecDepth 20000 in
theorem co_RM_read : Cond.code y_RM_read b_RM_read 9 none ∈ plWG := mt 905 rfl rfl
set_option maxRecDepth 20000 in
theorem im_RM_read : Cond.instanceMethod y_RM_read ∈ plWG := mt 904 (by decide +kernel) rfl
set_option maxRecDepth 20000 in
theorem se_RM_read : Cond.selects "ProtectedLineModel" y_RM_read y_RM_read ∈ plWG := ms (y := y_RM_read) (n := 59) 32 (by decide +kernel)
set_option maxRecDepth 20000 in
theorem mn_RM_read : plMN y_RM_read 2 := ⟨by decide +kernel, by decide +kernel, by decide +kernel⟩
set_option maxRecDepth 20000 in
theorem co_RM_plain : Cond.code y_RM_plain b_RM_plain 1 (some .int) ∈ plWG := mt 908 rfl rfl
set_option maxRecDepth 20000 in
theorem st_RM_plain : Cond.static y_RM_plain ∈ plWG := mt 907 (by decide +kernel) rfl
set_option maxRecDepth 20000 in
theorem mn_RM_plain : plMN y_RM_plain 1 := ⟨by decide +kernel, by decide +kernel, by decide +kernel⟩
set_option maxRecDepth 20000 in
theorem co_RM_third : Cond.code y_RM_third b_RM_third 2 (some .boolean) ∈ plWG := mt 912 rfl rfl
set_option maxRecDepth 20000 in
theorem im_RM_third : Cond.instanceMethod y_RM_third ∈ plWG := mt 911 (by decide +kernel) rfl
set_option maxRecDepth 20000 in
theorem se_RM_third : Cond.selects "ProtectedLineModel" y_RM_third y_RM_third ∈ plWG := ms (y := y_RM_third) (n := 59) 33 (by decide +kernel)
set_option maxRecDepth 20000 in
theorem mn_RM_third : plMN y_RM_third 1 := ⟨by decide +kernel, by decide +kernel, by decide +kernel⟩
set_option maxRecDepth 20000 in
theorem co_RM_hunt : Cond.code y_RM_hunt b_RM_hunt 1 none ∈ plWG := mt 916 rfl rfl
set_option maxRecDepth 20000 in
theorem im_RM_hunt : Cond.instanceMethod y_RM_hunt ∈ plWG := mt 915 (by decide +kernel) rfl
set_option maxRecDepth 20000 in
theorem se_RM_hunt : Cond.selects "ProtectedLineModel" y_RM_hunt y_RM_hunt ∈ plWG := ms (y := y_RM_hunt) (n := 59) 34 (by decide +kernel)
set_option maxRecDepth 20000 in
theorem mn_RM_hunt : plMN y_RM_hunt 0 := ⟨by decide +kernel, by decide +kernel, by decide +kernel⟩
set_option maxRecDepth 20000 in
theorem co_RM_found : Cond.code y_RM_found b_RM_found 2 none ∈ plWG := mt 920 rfl rfl
set_option maxRecDepth 20000 in
theorem im_RM_found : Cond.instanceMethod y_RM_found ∈ plWG := mt 919 (by decide +kernel) rfl
set_option maxRecDepth 20000 in
theorem se_RM_found : Cond.selects "ProtectedLineModel" y_RM_found y_RM_found ∈ plWG := ms (y := y_RM_found) (n := 59) 35 (by decide +kernel)
set_option maxRecDepth 20000 in
theorem mn_RM_found : plMN y_RM_found 1 := ⟨by decide +kernel, by decide +kernel, by decide +kernel⟩
set_option maxRecDepth 20000 in
theorem co_RM_unread : Cond.code y_RM_unread b_RM_unread 2 (some .boolean) ∈ plWG := mt 924 rfl rfl
set_option maxRecDepth 20000 in
theorem im_RM_unread : Cond.instanceMethod y_RM_unread ∈ plWG := mt 923 (by decide +kernel) rfl
set_option maxRecDepth 20000 in
theorem se_RM_unread : Cond.selects "ProtectedLineModel" y_RM_unread y_RM_unread ∈ plWG := ms (y := y_RM_unread) (n := 59) 36 (by decide +kernel)
set_option maxRecDepth 20000 in
theorem mn_RM_unread : plMN y_RM_unread 1 := ⟨by decide +kernel, by decide +kernel, by decide +kernel⟩
set_option maxRecDepth 20000 in
theorem co_RM_lose : Cond.code y_RM_lose b_RM_lose 1 none ∈ plWG := mt 928 rfl rfl
set_option maxRecDepth 20000 in
theorem im_RM_lose : Cond.instanceMethod y_RM_lose ∈ plWG := mt 927 (by decide +kernel) rfl
set_option maxRecDepth 20000 in
theorem se_RM_lose : Cond.selects "ProtectedLineModel" y_RM_lose y_RM_lose ∈ plWG := ms (y := y_RM_lose) (n := 59) 37 (by decide +kernel)
set_option maxRecDepth 20000 in
theorem mn_RM_lose : plMN y_RM_lose 0 := ⟨by decide +kernel, by decide +kernel, by decide +kernel⟩
set_option maxRecDepth 20000 in
theorem co_RM_give : Cond.code y_RM_give b_RM_give 3 none ∈ plWG := mt 932 rfl rfl
set_option maxRecDepth 20000 in
theorem im_RM_give : Cond.instanceMethod y_RM_give ∈ plWG := mt 931 (by decide +kernel) rfl
set_option maxRecDepth 20000 in
theorem se_RM_give : Cond.selects "ProtectedLineModel" y_RM_give y_RM_give ∈ plWG := ms (y := y_RM_give) (n := 59) 38 (by decide +kernel)
set_option maxRecDepth 20000 in
theorem mn_RM_give : plMN y_RM_give 2 := ⟨by decide +kernel, by decide +kernel, by decide +kernel⟩
set_option maxRecDepth 20000 in
theorem co_RM_take : Cond.code y_RM_take b_RM_take 2 none ∈ plWG := mt 936 rfl rfl
set_option maxRecDepth 20000 in
theorem im_RM_take : Cond.instanceMethod y_RM_take ∈ plWG := mt 935 (by decide +kernel) rfl
set_option maxRecDepth 20000 in
theorem se_RM_take : Cond.selects "ProtectedLineModel" y_RM_take y_RM_take ∈ plWG := ms (y := y_RM_take) (n := 59) 39 (by decide +kernel)
set_option maxRecDepth 20000 in
theorem mn_RM_take : plMN y_RM_take 1 := ⟨by decide +kernel, by decide +kernel, by decide +kernel⟩
set_option maxRecDepth 20000 in
theorem co_RM_content : Cond.code y_RM_content b_RM_content 3 none ∈ plWG := mt 940 rfl rfl
set_option maxRecDepth 20000 in
theorem im_RM_content : Cond.instanceMethod y_RM_content ∈ plWG := mt 939 (by decide +kernel) rfl
set_option maxRecDepth 20000 in
theorem se_RM_content : Cond.selects "ProtectedLineModel" y_RM_content y_RM_content ∈ plWG := ms (y := y_RM_content) (n := 59) 40 (by decide +kernel)
set_option maxRecDepth 20000 in
theorem mn_RM_content : plMN y_RM_content 1 := ⟨by decide +kernel, by decide +kernel, by decide +kernel⟩
set_option maxRecDepth 20000 in
theorem co_RM_finish : Cond.code y_RM_finish b_RM_finish 4 none ∈ plWG := mt 944 rfl rfl
set_option maxRecDepth 20000 in
theorem im_RM_finish : Cond.instanceMethod y_RM_finish ∈ plWG := mt 943 (by decide +kernel) rfl
set_option maxRecDepth 20000 in
theorem se_RM_finish : Cond.selects "ProtectedLineModel" y_RM_finish y_RM_finish ∈ plWG := ms (y := y_RM_finish) (n := 59) 41 (by decide +kernel)
set_option maxRecDepth 20000 in
theorem mn_RM_finish : plMN y_RM_finish 0 := ⟨by decide +kernel, by decide +kernel, by decide +kernel⟩
set_option maxRecDepth 20000 in
theorem co_RM_pair : Cond.code y_RM_pair b_RM_pair 3 none ∈ plWG := mt 948 rfl rfl
set_option maxRecDepth 20000 in
theorem im_RM_pair : Cond.instanceMethod y_RM_pair ∈ plWG := mt 947 (by decide +kernel) rfl
set_option maxRecDepth 20000 in
theorem se_RM_pair : Cond.selects "ProtectedLineModel" y_RM_pair y_RM_pair ∈ plWG := ms (y := y_RM_pair) (n := 59) 42 (by decide +kernel)
set_option maxRecDepth 20000 in
theorem mn_RM_pair : plMN y_RM_pair 2 := ⟨by decide +kernel, by decide +kernel, by decide +kernel⟩
set_option maxRecDepth 20000 in
theorem co_RM_header : Cond.code y_RM_header b_RM_header 2 (some .boolean) ∈ plWG := mt 951 rfl rfl
set_option maxRecDepth 20000 in
theorem st_RM_header : Cond.static y_RM_header ∈ plWG := mt 950 (by decide +kernel) rfl
set_option maxRecDepth 20000 in
theorem mn_RM_header : plMN y_RM_header 2 := ⟨by decide +kernel, by decide +kernel, by decide +kernel⟩
set_option maxRecDepth 20000 in
theorem co_RM_enter : Cond.code y_RM_enter b_RM_enter 2 none ∈ plWG := mt 955 rfl rfl
set_option maxRecDepth 20000 in
theorem im_RM_enter : Cond.instanceMethod y_RM_enter ∈ plWG := mt 954 (by decide +kernel) rfl
set_option maxRecDepth 20000 in
theorem se_RM_enter : Cond.selects "ProtectedLineModel" y_RM_enter y_RM_enter ∈ plWG := ms (y := y_RM_enter) (n := 59) 43 (by decide +kernel)
set_option maxRecDepth 20000 in
theorem mn_RM_enter : plMN y_RM_enter 1 := ⟨by decide +kernel, by decide +kernel, by decide +kernel⟩
set_option maxRecDepth 20000 in
theorem co_RM_mend : Cond.code y_RM_mend b_RM_mend 5 none ∈ plWG := mt 959 rfl rfl
set_option maxRecDepth 20000 in
theorem im_RM_mend : Cond.instanceMethod y_RM_mend ∈ plWG := mt 958 (by decide +kernel) rfl
set_option maxRecDepth 20000 in
theorem se_RM_mend : Cond.selects "ProtectedLineModel" y_RM_mend y_RM_mend ∈ plWG := ms (y := y_RM_mend) (n := 59) 44 (by decide +kernel)
set_option maxRecDepth 20000 in
theorem mn_RM_mend : plMN y_RM_mend 2 := ⟨by decide +kernel, by decide +kernel, by decide +kernel⟩
set_option maxRecDepth 20000 in
theorem co_RM_gap : Cond.code y_RM_gap b_RM_gap 1 none ∈ plWG := mt 963 rfl rfl
set_option maxRecDepth 20000 in
theorem im_RM_gap : Cond.instanceMethod y_RM_gap ∈ plWG := mt 962 (by decide +kernel) rfl
set_option maxRecDepth 20000 in
theorem se_RM_gap : Cond.selects "ProtectedLineModel" y_RM_gap y_RM_gap ∈ plWG := ms (y := y_RM_gap) (n := 59) 45 (by decide +kernel)
set_option maxRecDepth 20000 in
theorem mn_RM_gap : plMN y_RM_gap 0 := ⟨by decide +kernel, by decide +kernel, by decide +kernel⟩
set_option maxRecDepth 20000 in
theorem co_RM_waiting : Cond.code y_RM_waiting b_RM_waiting 1 (some .int) ∈ plWG := mt 967 rfl rfl
set_option maxRecDepth 20000 in
theorem im_RM_waiting : Cond.instanceMethod y_RM_waiting ∈ plWG := mt 965 (by decide +kernel) rfl
set_option maxRecDepth 20000 in
theorem se_RM_waiting : Cond.selects "ProtectedLineModel" y_RM_waiting y_RM_waiting ∈ plWG := mt 966 (by decide +kernel) rfl
set_option maxRecDepth 20000 in
theorem mn_RM_waiting : plMN y_RM_waiting 0 := ⟨by decide +kernel, by decide +kernel, by decide +kernel⟩
set_option maxRecDepth 20000 in
theorem co_RM_sent : Cond.code y_RM_sent b_RM_sent 3 (some .int) ∈ plWG := mt 971 rfl rfl
set_option maxRecDepth 20000 in
theorem im_RM_sent : Cond.instanceMethod y_RM_sent ∈ plWG := mt 969 (by decide +kernel) rfl
set_option maxRecDepth 20000 in
theorem se_RM_sent : Cond.selects "ProtectedLineModel" y_RM_sent y_RM_sent ∈ plWG := mt 970 (by decide +kernel) rfl
set_option maxRecDepth 20000 in
theorem mn_RM_sent : plMN y_RM_sent 2 := ⟨by decide +kernel, by decide +kernel, by decide +kernel⟩
set_option maxRecDepth 20000 in
theorem co_RM_alignment : Cond.code y_RM_alignment b_RM_alignment 2 (some .int) ∈ plWG := mt 975 rfl rfl
set_option maxRecDepth 20000 in
theorem im_RM_alignment : Cond.instanceMethod y_RM_alignment ∈ plWG := mt 973 (by decide +kernel) rfl
set_option maxRecDepth 20000 in
theorem se_RM_alignment : Cond.selects "ProtectedLineModel" y_RM_alignment y_RM_alignment ∈ plWG := mt 974 (by decide +kernel) rfl
set_option maxRecDepth 20000 in
theorem mn_RM_alignment : plMN y_RM_alignment 1 := ⟨by decide +kernel, by decide +kernel, by decide +kernel⟩
set_option maxRecDepth 20000 in
theorem co_RM_errors : Cond.code y_RM_errors b_RM_errors 2 (some .int) ∈ plWG := mt 979 rfl rfl
set_option maxRecDepth 20000 in
theorem im_RM_errors : Cond.instanceMethod y_RM_errors ∈ plWG := mt 977 (by decide +kernel) rfl
set_option maxRecDepth 20000 in
theorem se_RM_errors : Cond.selects "ProtectedLineModel" y_RM_errors y_RM_errors ∈ plWG := mt 978 (by decide +kernel) rfl
set_option maxRecDepth 20000 in
theorem mn_RM_errors : plMN y_RM_errors 1 := ⟨by decide +kernel, by decide +kernel, by decide +kernel⟩
set_option maxRecDepth 20000 in
theorem co_RM_request : Cond.code y_RM_request b_RM_request 1 (some .int) ∈ plWG := mt 983 rfl rfl
set_option maxRecDepth 20000 in
theorem im_RM_request : Cond.instanceMethod y_RM_request ∈ plWG := mt 981 (by decide +kernel) rfl
set_option maxRecDepth 20000 in
theorem se_RM_request : Cond.selects "ProtectedLineModel" y_RM_request y_RM_request ∈ plWG := mt 982 (by decide +kernel) rfl
set_option maxRecDepth 20000 in
theorem mn_RM_request : plMN y_RM_request 0 := ⟨by decide +kernel, by decide +kernel, by decide +kernel⟩
set_option maxRecDepth 20000 in
theorem co_RM_bridged : Cond.code y_RM_bridged b_RM_bridged 1 (some .boolean) ∈ plWG := mt 987 rfl rfl
set_option maxRecDepth 20000 in
theorem im_RM_bridged : Cond.instanceMethod y_RM_bridged ∈ plWG := mt 985 (by decide +kernel) rfl
set_option maxRecDepth 20000 in
theorem se_RM_bridged : Cond.selects "ProtectedLineModel" y_RM_bridged y_RM_bridged ∈ plWG := mt 986 (by decide +kernel) rfl
set_option maxRecDepth 20000 in
theorem mn_RM_bridged : plMN y_RM_bridged 0 := ⟨by decide +kernel, by decide +kernel, by decide +kernel⟩
set_option maxRecDepth 20000 in
theorem co_RM_selected : Cond.code y_RM_selected b_RM_selected 1 (some .int) ∈ plWG := mt 991 rfl rfl
set_option maxRecDepth 20000 in
theorem im_RM_selected : Cond.instanceMethod y_RM_selected ∈ plWG := mt 989 (by decide +kernel) rfl
set_option maxRecDepth 20000 in
theorem se_RM_selected : Cond.selects "ProtectedLineModel" y_RM_selected y_RM_selected ∈ plWG := mt 990 (by decide +kernel) rfl
set_option maxRecDepth 20000 in
theorem mn_RM_selected : plMN y_RM_selected 0 := ⟨by decide +kernel, by decide +kernel, by decide +kernel⟩
set_option maxRecDepth 20000 in
theorem co_RM_pointer : Cond.code y_RM_pointer b_RM_pointer 1 (some .int) ∈ plWG := mt 995 rfl rfl
set_option maxRecDepth 20000 in
theorem im_RM_pointer : Cond.instanceMethod y_RM_pointer ∈ plWG := mt 993 (by decide +kernel) rfl
set_option maxRecDepth 20000 in
theorem se_RM_pointer : Cond.selects "ProtectedLineModel" y_RM_pointer y_RM_pointer ∈ plWG := mt 994 (by decide +kernel) rfl
set_option maxRecDepth 20000 in
theorem mn_RM_pointer : plMN y_RM_pointer 0 := ⟨by decide +kernel, by decide +kernel, by decide +kernel⟩
set_option maxRecDepth 20000 in
theorem co_RM_pathErrors : Cond.code y_RM_pathErrors b_RM_pathErrors 1 (some .int) ∈ plWG := mt 999 rfl rfl
set_option maxRecDepth 20000 in
theorem im_RM_pathErrors : Cond.instanceMethod y_RM_pathErrors ∈ plWG := mt 997 (by decide +kernel) rfl
set_option maxRecDepth 20000 in
theorem se_RM_pathErrors : Cond.selects "ProtectedLineModel" y_RM_pathErrors y_RM_pathErrors ∈ plWG := mt 998 (by decide +kernel) rfl
set_option maxRecDepth 20000 in
theorem mn_RM_pathErrors : plMN y_RM_pathErrors 0 := ⟨by decide +kernel, by decide +kernel, by decide +kernel⟩
set_option maxRecDepth 20000 in
theorem co_RM_sync : Cond.code y_RM_sync b_RM_sync 1 (some .int) ∈ plWG := mt 1003 rfl rfl
set_option maxRecDepth 20000 in
theorem im_RM_sync : Cond.instanceMethod y_RM_sync ∈ plWG := mt 1001 (by decide +kernel) rfl
set_option maxRecDepth 20000 in
theorem se_RM_sync : Cond.selects "ProtectedLineModel" y_RM_sync y_RM_sync ∈ plWG := mt 1002 (by decide +kernel) rfl
set_option maxRecDepth 20000 in
theorem mn_RM_sync : plMN y_RM_sync 0 := ⟨by decide +kernel, by decide +kernel, by decide +kernel⟩
set_option maxRecDepth 20000 in
theorem co_RM_delivered : Cond.code y_RM_delivered b_RM_delivered 1 (some .int) ∈ plWG := mt 1007 rfl rfl
set_option maxRecDepth 20000 in
theorem im_RM_delivered : Cond.instanceMethod y_RM_delivered ∈ plWG := mt 1005 (by decide +kernel) rfl
set_option maxRecDepth 20000 in
theorem se_RM_delivered : Cond.selects "ProtectedLineModel" y_RM_delivered y_RM_delivered ∈ plWG := mt 1006 (by decide +kernel) rfl
set_option maxRecDepth 20000 in
theorem mn_RM_delivered : plMN y_RM_delivered 0 := ⟨by decide +kernel, by decide +kernel, by decide +kernel⟩
set_option maxRecDepth 20000 in
theorem co_RM_dropped : Cond.code y_RM_dropped b_RM_dropped 1 (some .int) ∈ plWG := mt 1011 rfl rfl
set_option maxRecDepth 20000 in
theorem im_RM_dropped : Cond.instanceMethod y_RM_dropped ∈ plWG := mt 1009 (by decide +kernel) rfl
set_option maxRecDepth 20000 in
theorem se_RM_dropped : Cond.selects "ProtectedLineModel" y_RM_dropped y_RM_dropped ∈ plWG := mt 1010 (by decide +kernel) rfl
set_option maxRecDepth 20000 in
theorem mn_RM_dropped : plMN y_RM_dropped 0 := ⟨by decide +kernel, by decide +kernel, by decide +kernel⟩
set_option maxRecDepth 20000 in
theorem co_RM_got : Cond.code y_RM_got b_RM_got 3 (some .int) ∈ plWG := mt 1015 rfl rfl
set_option maxRecDepth 20000 in
theorem im_RM_got : Cond.instanceMethod y_RM_got ∈ plWG := mt 1013 (by decide +kernel) rfl
set_option maxRecDepth 20000 in
theorem se_RM_got : Cond.selects "ProtectedLineModel" y_RM_got y_RM_got ∈ plWG := mt 1014 (by decide +kernel) rfl
set_option maxRecDepth 20000 in
theorem mn_RM_got : plMN y_RM_got 2 := ⟨by decide +kernel, by decide +kernel, by decide +kernel⟩
set_option maxRecDepth 20000 in
theorem oi_LN_3 : Cond.methodLink "ProtectedLine$Line" 3 objectInit ∈ plWG ∧ Cond.instanceMethod objectInit ∈ plWG ∧ Cond.code objectInit ⟨#[0xb1]⟩ 1 none ∈ plWG := ⟨mt 125 (by decide +kernel) rfl, mt 22 (by decide +kernel) rfl, mt 23 rfl rfl⟩
set_option maxRecDepth 20000 in
theorem fw_LN_11 : Cond.fieldLink "ProtectedLine$Line" 11 "ProtectedLine$Line" "underWay" "[I" ∈ plWG := mt 127 (by decide +kernel) rfl
set_option maxRecDepth 20000 in
theorem fl_LN_11 : plFL "ProtectedLine$Line" 11 "ProtectedLine$Line" "underWay" "[I" := Or.inl fw_LN_11
set_option maxRecDepth 20000 in
theorem fw_LN_15 : Cond.fieldLink "ProtectedLine$Line" 15 "ProtectedLine$Line" "harm" "[I" ∈ plWG := mt 132 (by decide +kernel) rfl
set_option maxRecDepth 20000 in
theorem fl_LN_15 : plFL "ProtectedLine$Line" 15 "ProtectedLine$Line" "harm" "[I" := Or.inl fw_LN_15
set_option maxRecDepth 20000 in
theorem fw_LN_18 : Cond.fieldLink "ProtectedLine$Line" 18 "ProtectedLine$Line" "arrived" "[I" ∈ plWG := mt 134 (by decide +kernel) rfl
set_option maxRecDepth 20000 in
theorem fl_LN_18 : plFL "ProtectedLine$Line" 18 "ProtectedLine$Line" "arrived" "[I" := Or.inl fw_LN_18
set_option maxRecDepth 20000 in
theorem fw_LN_21 : Cond.fieldLink "ProtectedLine$Line" 21 "ProtectedLine$Line" "delay" "I" ∈ plWG := mt 126 (by decide +kernel) rfl
set_option maxRecDepth 20000 in
theorem fl_LN_21 : plFL "ProtectedLine$Line" 21 "ProtectedLine$Line" "delay" "I" := Or.inl fw_LN_21
set_option maxRecDepth 20000 in
theorem fw_LN_25 : Cond.fieldLink "ProtectedLine$Line" 25 "ProtectedLine$Line" "launched" "I" ∈ plWG := mt 128 (by decide +kernel) rfl
set_option maxRecDepth 20000 in
theorem fl_LN_25 : plFL "ProtectedLine$Line" 25 "ProtectedLine$Line" "launched" "I" := Or.inl fw_LN_25
set_option maxRecDepth 20000 in
theorem ml_LN_28 : plCS "ProtectedLine$Line" 28 y_LN_slotOf b_LN_slotOf 1 (some .int) 1 := ⟨Or.inl (mt 396 (by decide +kernel) rfl), st_LN_slotOf, ini_LN, co_LN_slotOf, mn_LN_slotOf⟩
set_option maxRecDepth 20000 in
theorem fw_LN_32 : Cond.fieldLink "ProtectedLine$Line" 32 "ProtectedLine$Line" "joinedSent" "I" ∈ plWG := mt 129 (by decide +kernel) rfl
set_option maxRecDepth 20000 in
theorem fl_LN_32 : plFL "ProtectedLine$Line" 32 "ProtectedLine$Line" "joinedSent" "I" := Or.inl fw_LN_32
set_option maxRecDepth 20000 in
theorem fl_LN_35 : Cond.fieldLink "ProtectedLine$Line" 35 "ProtectedLine$Line" "ROW" "[I" ∈ plWG := mt 399 (by decide +kernel) rfl
set_option maxRecDepth 20000 in
theorem ml_LN_38 : plCS "ProtectedLine$Line" 38 y_LN_joinedFrom b_LN_joinedFrom 4 (some .int) 2 := ⟨Or.inl (mt 401 (by decide +kernel) rfl), st_LN_joinedFrom, ini_LN, co_LN_joinedFrom, mn_LN_joinedFrom⟩
set_option maxRecDepth 20000 in
theorem fw_LN_42 : Cond.fieldLink "ProtectedLine$Line" 42 "ProtectedLine$Line" "hasArrived" "Z" ∈ plWG := mt 135 (by decide +kernel) rfl
set_option maxRecDepth 20000 in
theorem fl_LN_42 : plFL "ProtectedLine$Line" 42 "ProtectedLine$Line" "hasArrived" "Z" := Or.inl fw_LN_42
set_option maxRecDepth 20000 in
theorem fw_LN_46 : Cond.fieldLink "ProtectedLine$Line" 46 "ProtectedLine$Line" "joinedArrived" "I" ∈ plWG := mt 136 (by decide +kernel) rfl
set_option maxRecDepth 20000 in
theorem fl_LN_46 : plFL "ProtectedLine$Line" 46 "ProtectedLine$Line" "joinedArrived" "I" := Or.inl fw_LN_46
set_option maxRecDepth 20000 in
theorem fw_LN_49 : Cond.fieldLink "ProtectedLine$Line" 49 "ProtectedLine$Line" "broken" "Z" ∈ plWG := mt 130 (by decide +kernel) rfl
set_option maxRecDepth 20000 in
theorem fl_LN_49 : plFL "ProtectedLine$Line" 49 "ProtectedLine$Line" "broken" "Z" := Or.inl fw_LN_49
set_option maxRecDepth 20000 in
theorem ml_LN_52 : plCV "ProtectedLine$Line" 52 y_LN_bringIn b_LN_bringIn 3 none 1 := ⟨Or.inl (mt 410 (by decide +kernel) rfl), im_LN_bringIn, se_LN_bringIn, ini_LN, co_LN_bringIn, mn_LN_bringIn⟩
set_option maxRecDepth 20000 in
theorem ml_LN_56 : plCS "ProtectedLine$Line" 56 y_JA_fill b_JA_fill 4 none 2 := ⟨Or.inl (mt 414 (by decide +kernel) rfl), st_JA_fill, ini_JA, co_JA_fill, mn_JA_fill⟩
set_option maxRecDepth 20000 in
theorem ml_LN_62 : plCV "ProtectedLine$Line" 62 y_LN_align b_LN_align 2 none 1 := ⟨Or.inl (mt 417 (by decide +kernel) rfl), im_LN_align, se_LN_align, ini_LN, co_LN_align, mn_LN_align⟩
set_option maxRecDepth 20000 in
theorem ml_LN_66 : plCV "ProtectedLine$Line" 66 y_LN_readable b_LN_readable 1 (some .boolean) 0 := ⟨Or.inl (mt 421 (by decide +kernel) rfl), im_LN_readable, se_LN_readable, ini_LN, co_LN_readable, mn_LN_readable⟩
set_option maxRecDepth 20000 in
theorem fw_LN_70 : Cond.fieldLink "ProtectedLine$Line" 70 "ProtectedLine$Line" "errorBits" "I" ∈ plWG := mt 140 (by decide +kernel) rfl
set_option maxRecDepth 20000 in
theorem fl_LN_70 : plFL "ProtectedLine$Line" 70 "ProtectedLine$Line" "errorBits" "I" := Or.inl fw_LN_70
set_option maxRecDepth 20000 in
theorem ml_LN_73 : plCV "ProtectedLine$Line" 73 y_LN_plainAt b_LN_plainAt 2 (some .int) 1 := ⟨Or.inl (mt 425 (by decide +kernel) rfl), im_LN_plainAt, se_LN_plainAt, ini_LN, co_LN_plainAt, mn_LN_plainAt⟩
set_option maxRecDepth 20000 in
theorem ml_LN_76 : plCS "ProtectedLine$Line" 76 y_JI_bitCount b_JI_bitCount 1 (some .int) 1 := ⟨Or.inl (mt 429 (by decide +kernel) rfl), st_JI_bitCount, ini_JI, co_JI_bitCount, mn_JI_bitCount⟩
set_option maxRecDepth 20000 in
theorem fw_LN_81 : Cond.fieldLink "ProtectedLine$Line" 81 "ProtectedLine$Line" "badRow" "I" ∈ plWG := mt 139 (by decide +kernel) rfl
set_option maxRecDepth 20000 in
theorem fl_LN_81 : plFL "ProtectedLine$Line" 81 "ProtectedLine$Line" "badRow" "I" := Or.inl fw_LN_81
set_option maxRecDepth 20000 in
theorem fw_LN_84 : Cond.fieldLink "ProtectedLine$Line" 84 "ProtectedLine$Line" "state" "I" ∈ plWG := mt 137 (by decide +kernel) rfl
set_option maxRecDepth 20000 in
theorem fl_LN_84 : plFL "ProtectedLine$Line" 84 "ProtectedLine$Line" "state" "I" := Or.inl fw_LN_84
set_option maxRecDepth 20000 in
theorem oi_CS_3 : Cond.methodLink "ProtectedLine$ContainerSource" 3 objectInit ∈ plWG ∧ Cond.instanceMethod objectInit ∈ plWG ∧ Cond.code objectInit ⟨#[0xb1]⟩ 1 none ∈ plWG := ⟨mt 64 (by decide +kernel) rfl, mt 22 (by decide +kernel) rfl, mt 23 rfl rfl⟩
set_option maxRecDepth 20000 in
theorem fw_CS_9 : Cond.fieldLink "ProtectedLine$ContainerSource" 9 "ProtectedLine$ContainerSource" "source" "LProtectedLine$StreamSource;" ∈ plWG := mt 65 (by decide +kernel) rfl
set_option maxRecDepth 20000 in
theorem fl_CS_9 : plFL "ProtectedLine$ContainerSource" 9 "ProtectedLine$ContainerSource" "source" "LProtectedLine$StreamSource;" := Or.inl fw_CS_9
set_option maxRecDepth 20000 in
theorem fw_CS_15 : Cond.fieldLink "ProtectedLine$ContainerSource" 15 "ProtectedLine$ContainerSource" "place" "I" ∈ plWG := mt 66 (by decide +kernel) rfl
set_option maxRecDepth 20000 in
theorem fl_CS_15 : plFL "ProtectedLine$ContainerSource" 15 "ProtectedLine$ContainerSource" "place" "I" := Or.inl fw_CS_15
set_option maxRecDepth 20000 in
theorem fw_CS_19 : Cond.fieldLink "ProtectedLine$ContainerSource" 19 "ProtectedLine$ContainerSource" "joined" "I" ∈ plWG := mt 67 (by decide +kernel) rfl
set_option maxRecDepth 20000 in
theorem fl_CS_19 : plFL "ProtectedLine$ContainerSource" 19 "ProtectedLine$ContainerSource" "joined" "I" := Or.inl fw_CS_19
set_option maxRecDepth 20000 in
theorem ml_CS_22 : plCV "ProtectedLine$ContainerSource" 22 y_SS_nextByte b_SS_nextByte 2 (some .int) 0 := ⟨Or.inl (mt 377 (by decide +kernel) rfl), im_SS_nextByte, se_SS_nextByte, ini_SS, co_SS_nextByte, mn_SS_nextByte⟩
set_option maxRecDepth 20000 in
theorem oi_LI_3 : Cond.methodLink "ProtectedLine$Listener" 3 objectInit ∈ plWG ∧ Cond.instanceMethod objectInit ∈ plWG ∧ Cond.code objectInit ⟨#[0xb1]⟩ 1 none ∈ plWG := ⟨mt 84 (by decide +kernel) rfl, mt 22 (by decide +kernel) rfl, mt 23 rfl rfl⟩
set_option maxRecDepth 20000 in
theorem fw_LI_9 : Cond.fieldLink "ProtectedLine$Listener" 9 "ProtectedLine$Listener" "latest" "I" ∈ plWG := mt 88 (by decide +kernel) rfl
set_option maxRecDepth 20000 in
theorem fl_LI_9 : plFL "ProtectedLine$Listener" 9 "ProtectedLine$Listener" "latest" "I" := Or.inl fw_LI_9
set_option maxRecDepth 20000 in
theorem fw_LI_15 : Cond.fieldLink "ProtectedLine$Listener" 15 "ProtectedLine$Listener" "row" "I" ∈ plWG := mt 89 (by decide +kernel) rfl
set_option maxRecDepth 20000 in
theorem fl_LI_15 : plFL "ProtectedLine$Listener" 15 "ProtectedLine$Listener" "row" "I" := Or.inl fw_LI_15
set_option maxRecDepth 20000 in
theorem fw_LI_18 : Cond.fieldLink "ProtectedLine$Listener" 18 "ProtectedLine$Listener" "accepted" "I" ∈ plWG := mt 85 (by decide +kernel) rfl
set_option maxRecDepth 20000 in
theorem fl_LI_18 : plFL "ProtectedLine$Listener" 18 "ProtectedLine$Listener" "accepted" "I" := Or.inl fw_LI_18
set_option maxRecDepth 20000 in
theorem oi_RM_1 : Cond.methodLink "ProtectedLineModel" 1 objectInit ∈ plWG ∧ Cond.instanceMethod objectInit ∈ plWG ∧ Cond.code objectInit ⟨#[0xb1]⟩ 1 none ∈ plWG := ⟨mt 641 (by decide +kernel) rfl, mt 22 (by decide +kernel) rfl, mt 23 rfl rfl⟩
set_option maxRecDepth 20000 in
theorem fw_RM_7 : Cond.fieldLink "ProtectedLineModel" 7 "ProtectedLineModel" "delay" "[I" ∈ plWG := mt 642 (by decide +kernel) rfl
set_option maxRecDepth 20000 in
theorem fl_RM_7 : plFL "ProtectedLineModel" 7 "ProtectedLineModel" "delay" "[I" := Or.inl fw_RM_7
set_option maxRecDepth 20000 in
theorem fw_RM_13 : Cond.fieldLink "ProtectedLineModel" 13 "ProtectedLineModel" "queue" "[I" ∈ plWG := mt 647 (by decide +kernel) rfl
set_option maxRecDepth 20000 in
theorem fl_RM_13 : plFL "ProtectedLineModel" 13 "ProtectedLineModel" "queue" "[I" := Or.inl fw_RM_13
set_option maxRecDepth 20000 in
theorem fw_RM_16 : Cond.fieldLink "ProtectedLineModel" 16 "ProtectedLineModel" "going" "[I" ∈ plWG := mt 648 (by decide +kernel) rfl
set_option maxRecDepth 20000 in
theorem fl_RM_16 : plFL "ProtectedLineModel" 16 "ProtectedLineModel" "going" "[I" := Or.inl fw_RM_16
set_option maxRecDepth 20000 in
theorem fw_RM_19 : Cond.fieldLink "ProtectedLineModel" 19 "ProtectedLineModel" "quiet" "I" ∈ plWG := mt 657 (by decide +kernel) rfl
set_option maxRecDepth 20000 in
theorem fl_RM_19 : plFL "ProtectedLineModel" 19 "ProtectedLineModel" "quiet" "I" := Or.inl fw_RM_19
set_option maxRecDepth 20000 in
theorem fw_RM_23 : Cond.fieldLink "ProtectedLineModel" 23 "ProtectedLineModel" "latestA" "I" ∈ plWG := mt 661 (by decide +kernel) rfl
set_option maxRecDepth 20000 in
theorem fl_RM_23 : plFL "ProtectedLineModel" 23 "ProtectedLineModel" "latestA" "I" := Or.inl fw_RM_23
set_option maxRecDepth 20000 in
theorem fw_RM_26 : Cond.fieldLink "ProtectedLineModel" 26 "ProtectedLineModel" "sent" "[I" ∈ plWG := mt 662 (by decide +kernel) rfl
set_option maxRecDepth 20000 in
theorem fl_RM_26 : plFL "ProtectedLineModel" 26 "ProtectedLineModel" "sent" "[I" := Or.inl fw_RM_26
set_option maxRecDepth 20000 in
theorem fw_RM_29 : Cond.fieldLink "ProtectedLineModel" 29 "ProtectedLineModel" "back" "[I" ∈ plWG := mt 663 (by decide +kernel) rfl
set_option maxRecDepth 20000 in
theorem fl_RM_29 : plFL "ProtectedLineModel" 29 "ProtectedLineModel" "back" "[I" := Or.inl fw_RM_29
set_option maxRecDepth 20000 in
theorem fw_RM_32 : Cond.fieldLink "ProtectedLineModel" 32 "ProtectedLineModel" "row" "[I" ∈ plWG := mt 664 (by decide +kernel) rfl
set_option maxRecDepth 20000 in
theorem fl_RM_32 : plFL "ProtectedLineModel" 32 "ProtectedLineModel" "row" "[I" := Or.inl fw_RM_32
set_option maxRecDepth 20000 in
theorem fw_RM_35 : Cond.fieldLink "ProtectedLineModel" 35 "ProtectedLineModel" "frame" "[I" ∈ plWG := mt 665 (by decide +kernel) rfl
set_option maxRecDepth 20000 in
theorem fl_RM_35 : plFL "ProtectedLineModel" 35 "ProtectedLineModel" "frame" "[I" := Or.inl fw_RM_35
set_option maxRecDepth 20000 in
theorem fw_RM_38 : Cond.fieldLink "ProtectedLineModel" 38 "ProtectedLineModel" "cut" "[Z" ∈ plWG := mt 666 (by decide +kernel) rfl
set_option maxRecDepth 20000 in
theorem fl_RM_38 : plFL "ProtectedLineModel" 38 "ProtectedLineModel" "cut" "[Z" := Or.inl fw_RM_38
set_option maxRecDepth 20000 in
theorem fw_RM_42 : Cond.fieldLink "ProtectedLineModel" 42 "ProtectedLineModel" "spoil" "[I" ∈ plWG := mt 667 (by decide +kernel) rfl
set_option maxRecDepth 20000 in
theorem fl_RM_42 : plFL "ProtectedLineModel" 42 "ProtectedLineModel" "spoil" "[I" := Or.inl fw_RM_42
set_option maxRecDepth 20000 in
theorem fw_RM_45 : Cond.fieldLink "ProtectedLineModel" 45 "ProtectedLineModel" "now" "[I" ∈ plWG := mt 668 (by decide +kernel) rfl
set_option maxRecDepth 20000 in
theorem fl_RM_45 : plFL "ProtectedLineModel" 45 "ProtectedLineModel" "now" "[I" := Or.inl fw_RM_45
set_option maxRecDepth 20000 in
theorem fw_RM_48 : Cond.fieldLink "ProtectedLineModel" 48 "ProtectedLineModel" "came" "[Z" ∈ plWG := mt 669 (by decide +kernel) rfl
set_option maxRecDepth 20000 in
theorem fl_RM_48 : plFL "ProtectedLineModel" 48 "ProtectedLineModel" "came" "[Z" := Or.inl fw_RM_48
set_option maxRecDepth 20000 in
theorem fw_RM_51 : Cond.fieldLink "ProtectedLineModel" 51 "ProtectedLineModel" "before" "[Z" ∈ plWG := mt 670 (by decide +kernel) rfl
set_option maxRecDepth 20000 in
theorem fl_RM_51 : plFL "ProtectedLineModel" 51 "ProtectedLineModel" "before" "[Z" := Or.inl fw_RM_51
set_option maxRecDepth 20000 in
theorem fw_RM_54 : Cond.fieldLink "ProtectedLineModel" 54 "ProtectedLineModel" "was" "[I" ∈ plWG := mt 671 (by decide +kernel) rfl
set_option maxRecDepth 20000 in
theorem fl_RM_54 : plFL "ProtectedLineModel" 54 "ProtectedLineModel" "was" "[I" := Or.inl fw_RM_54
set_option maxRecDepth 20000 in
theorem fw_RM_57 : Cond.fieldLink "ProtectedLineModel" 57 "ProtectedLineModel" "state" "[I" ∈ plWG := mt 672 (by decide +kernel) rfl
set_option maxRecDepth 20000 in
theorem fl_RM_57 : plFL "ProtectedLineModel" 57 "ProtectedLineModel" "state" "[I" := Or.inl fw_RM_57
set_option maxRecDepth 20000 in
theorem fw_RM_60 : Cond.fieldLink "ProtectedLineModel" 60 "ProtectedLineModel" "bad" "[I" ∈ plWG := mt 673 (by decide +kernel) rfl
set_option maxRecDepth 20000 in
theorem fl_RM_60 : plFL "ProtectedLineModel" 60 "ProtectedLineModel" "bad" "[I" := Or.inl fw_RM_60
set_option maxRecDepth 20000 in
theorem fw_RM_63 : Cond.fieldLink "ProtectedLineModel" 63 "ProtectedLineModel" "errors" "[I" ∈ plWG := mt 674 (by decide +kernel) rfl
set_option maxRecDepth 20000 in
theorem fl_RM_63 : plFL "ProtectedLineModel" 63 "ProtectedLineModel" "errors" "[I" := Or.inl fw_RM_63
set_option maxRecDepth 20000 in
theorem fw_RM_66 : Cond.fieldLink "ProtectedLineModel" 66 "ProtectedLineModel" "acceptedB" "I" ∈ plWG := mt 676 (by decide +kernel) rfl
set_option maxRecDepth 20000 in
theorem fl_RM_66 : plFL "ProtectedLineModel" 66 "ProtectedLineModel" "acceptedB" "I" := Or.inl fw_RM_66
set_option maxRecDepth 20000 in
theorem fw_RM_69 : Cond.fieldLink "ProtectedLineModel" 69 "ProtectedLineModel" "latestB" "I" ∈ plWG := mt 678 (by decide +kernel) rfl
set_option maxRecDepth 20000 in
theorem fl_RM_69 : plFL "ProtectedLineModel" 69 "ProtectedLineModel" "latestB" "I" := Or.inl fw_RM_69
set_option maxRecDepth 20000 in
theorem fw_RM_72 : Cond.fieldLink "ProtectedLineModel" 72 "ProtectedLineModel" "pointer" "I" ∈ plWG := mt 683 (by decide +kernel) rfl
set_option maxRecDepth 20000 in
theorem fl_RM_72 : plFL "ProtectedLineModel" 72 "ProtectedLineModel" "pointer" "I" := Or.inl fw_RM_72
set_option maxRecDepth 20000 in
theorem fw_RM_75 : Cond.fieldLink "ProtectedLineModel" 75 "ProtectedLineModel" "rowFor" "I" ∈ plWG := mt 686 (by decide +kernel) rfl
set_option maxRecDepth 20000 in
theorem fl_RM_75 : plFL "ProtectedLineModel" 75 "ProtectedLineModel" "rowFor" "I" := Or.inl fw_RM_75
set_option maxRecDepth 20000 in
theorem fw_RM_78 : Cond.fieldLink "ProtectedLineModel" 78 "ProtectedLineModel" "first" "I" ∈ plWG := mt 692 (by decide +kernel) rfl
set_option maxRecDepth 20000 in
theorem fl_RM_78 : plFL "ProtectedLineModel" 78 "ProtectedLineModel" "first" "I" := Or.inl fw_RM_78
set_option maxRecDepth 20000 in
theorem fw_RM_81 : Cond.fieldLink "ProtectedLineModel" 81 "ProtectedLineModel" "body" "[I" ∈ plWG := mt 697 (by decide +kernel) rfl
set_option maxRecDepth 20000 in
theorem fl_RM_81 : plFL "ProtectedLineModel" 81 "ProtectedLineModel" "body" "[I" := Or.inl fw_RM_81
set_option maxRecDepth 20000 in
theorem fw_RM_84 : Cond.fieldLink "ProtectedLineModel" 84 "ProtectedLineModel" "kept" "[I" ∈ plWG := mt 700 (by decide +kernel) rfl
set_option maxRecDepth 20000 in
theorem fl_RM_84 : plFL "ProtectedLineModel" 84 "ProtectedLineModel" "kept" "[I" := Or.inl fw_RM_84
set_option maxRecDepth 20000 in
theorem fw_RM_87 : Cond.fieldLink "ProtectedLineModel" 87 "ProtectedLineModel" "hold" "I" ∈ plWG := mt 643 (by decide +kernel) rfl
set_option maxRecDepth 20000 in
theorem fl_RM_87 : plFL "ProtectedLineModel" 87 "ProtectedLineModel" "hold" "I" := Or.inl fw_RM_87
set_option maxRecDepth 20000 in
theorem fw_RM_90 : Cond.fieldLink "ProtectedLineModel" 90 "ProtectedLineModel" "wait" "I" ∈ plWG := mt 644 (by decide +kernel) rfl
set_option maxRecDepth 20000 in
theorem fl_RM_90 : plFL "ProtectedLineModel" 90 "ProtectedLineModel" "wait" "I" := Or.inl fw_RM_90
set_option maxRecDepth 20000 in
theorem fw_RM_93 : Cond.fieldLink "ProtectedLineModel" 93 "ProtectedLineModel" "waiting" "I" ∈ plWG := mt 646 (by decide +kernel) rfl
set_option maxRecDepth 20000 in
theorem fl_RM_93 : plFL "ProtectedLineModel" 93 "ProtectedLineModel" "waiting" "I" := Or.inl fw_RM_93
set_option maxRecDepth 20000 in
theorem m_const_RM_96 : Cond.constantLong "ProtectedLineModel" 96 255 ∈ plWG := mt 825 (by decide +kernel) rfl
set_option maxRecDepth 20000 in
theorem ml_RM_98 : plCS "ProtectedLineModel" 98 y_RM_isLine b_RM_isLine 1 (some .boolean) 1 := ⟨Or.inl (mt 830 (by decide +kernel) rfl), st_RM_isLine, ini_RM, co_RM_isLine, mn_RM_isLine⟩
set_option maxRecDepth 20000 in
theorem ml_RM_102 : plCS "ProtectedLineModel" 102 y_RM_isPlace b_RM_isPlace 1 (some .boolean) 1 := ⟨Or.inl (mt 837 (by decide +kernel) rfl), st_RM_isPlace, ini_RM, co_RM_isPlace, mn_RM_isPlace⟩
set_option maxRecDepth 20000 in
theorem fw_RM_105 : Cond.fieldLink "ProtectedLineModel" 105 "ProtectedLineModel" "debt" "I" ∈ plWG := mt 656 (by decide +kernel) rfl
set_option maxRecDepth 20000 in
theorem fl_RM_105 : plFL "ProtectedLineModel" 105 "ProtectedLineModel" "debt" "I" := Or.inl fw_RM_105
set_option maxRecDepth 20000 in
theorem fw_RM_108 : Cond.fieldLink "ProtectedLineModel" 108 "ProtectedLineModel" "order" "I" ∈ plWG := mt 679 (by decide +kernel) rfl
set_option maxRecDepth 20000 in
theorem fl_RM_108 : plFL "ProtectedLineModel" 108 "ProtectedLineModel" "order" "I" := Or.inl fw_RM_108
set_option maxRecDepth 20000 in
theorem fw_RM_111 : Cond.fieldLink "ProtectedLineModel" 111 "ProtectedLineModel" "time" "I" ∈ plWG := mt 645 (by decide +kernel) rfl
set_option maxRecDepth 20000 in
theorem fl_RM_111 : plFL "ProtectedLineModel" 111 "ProtectedLineModel" "time" "I" := Or.inl fw_RM_111
set_option maxRecDepth 20000 in
theorem ml_RM_114 : plCV "ProtectedLineModel" 114 y_RM_hear b_RM_hear 2 none 0 := ⟨Or.inl (mt 852 (by decide +kernel) rfl), im_RM_hear, se_RM_hear, ini_RM, co_RM_hear, mn_RM_hear⟩
set_option maxRecDepth 20000 in
theorem ml_RM_117 : plCV "ProtectedLineModel" 117 y_RM_build b_RM_build 5 none 0 := ⟨Or.inl (mt 856 (by decide +kernel) rfl), im_RM_build, se_RM_build, ini_RM, co_RM_build, mn_RM_build⟩
set_option maxRecDepth 20000 in
theorem ml_RM_120 : plCV "ProtectedLineModel" 120 y_RM_arrive b_RM_arrive 5 none 0 := ⟨Or.inl (mt 879 (by decide +kernel) rfl), im_RM_arrive, se_RM_arrive, ini_RM, co_RM_arrive, mn_RM_arrive⟩
set_option maxRecDepth 20000 in
theorem ml_RM_123 : plCV "ProtectedLineModel" 123 y_RM_listen b_RM_listen 2 none 0 := ⟨Or.inl (mt 890 (by decide +kernel) rfl), im_RM_listen, se_RM_listen, ini_RM, co_RM_listen, mn_RM_listen⟩
set_option maxRecDepth 20000 in
theorem ml_RM_126 : plCV "ProtectedLineModel" 126 y_RM_decide b_RM_decide 4 none 0 := ⟨Or.inl (mt 894 (by decide +kernel) rfl), im_RM_decide, se_RM_decide, ini_RM, co_RM_decide, mn_RM_decide⟩
set_option maxRecDepth 20000 in
theorem ml_RM_129 : plCV "ProtectedLineModel" 129 y_RM_select b_RM_select 4 none 0 := ⟨Or.inl (mt 898 (by decide +kernel) rfl), im_RM_select, se_RM_select, ini_RM, co_RM_select, mn_RM_select⟩
set_option maxRecDepth 20000 in
theorem fw_RM_132 : Cond.fieldLink "ProtectedLineModel" 132 "ProtectedLineModel" "request" "I" ∈ plWG := mt 680 (by decide +kernel) rfl
set_option maxRecDepth 20000 in
theorem fl_RM_132 : plFL "ProtectedLineModel" 132 "ProtectedLineModel" "request" "I" := Or.inl fw_RM_132
set_option maxRecDepth 20000 in
theorem fw_RM_135 : Cond.fieldLink "ProtectedLineModel" 135 "ProtectedLineModel" "selected" "I" ∈ plWG := mt 682 (by decide +kernel) rfl
set_option maxRecDepth 20000 in
theorem fl_RM_135 : plFL "ProtectedLineModel" 135 "ProtectedLineModel" "selected" "I" := Or.inl fw_RM_135
set_option maxRecDepth 20000 in
theorem fw_RM_138 : Cond.fieldLink "ProtectedLineModel" 138 "ProtectedLineModel" "sameA" "I" ∈ plWG := mt 660 (by decide +kernel) rfl
set_option maxRecDepth 20000 in
theorem fl_RM_138 : plFL "ProtectedLineModel" 138 "ProtectedLineModel" "sameA" "I" := Or.inl fw_RM_138
set_option maxRecDepth 20000 in
theorem fw_RM_141 : Cond.fieldLink "ProtectedLineModel" 141 "ProtectedLineModel" "acceptedA" "I" ∈ plWG := mt 659 (by decide +kernel) rfl
set_option maxRecDepth 20000 in
theorem fl_RM_141 : plFL "ProtectedLineModel" 141 "ProtectedLineModel" "acceptedA" "I" := Or.inl fw_RM_141
set_option maxRecDepth 20000 in
theorem fw_RM_144 : Cond.fieldLink "ProtectedLineModel" 144 "ProtectedLineModel" "bridge" "Z" ∈ plWG := mt 658 (by decide +kernel) rfl
set_option maxRecDepth 20000 in
theorem fl_RM_144 : plFL "ProtectedLineModel" 144 "ProtectedLineModel" "bridge" "Z" := Or.inl fw_RM_144
set_option maxRecDepth 20000 in
theorem ml_RM_148 : plCS "ProtectedLineModel" 148 y_RM_hash b_RM_hash 3 (some .int) 1 := ⟨Or.inl (mt 872 (by decide +kernel) rfl), st_RM_hash, ini_RM, co_RM_hash, mn_RM_hash⟩
set_option maxRecDepth 20000 in
theorem fw_RM_152 : Cond.fieldLink "ProtectedLineModel" 152 "ProtectedLineModel" "scrambled" "I" ∈ plWG := mt 651 (by decide +kernel) rfl
set_option maxRecDepth 20000 in
theorem fl_RM_152 : plFL "ProtectedLineModel" 152 "ProtectedLineModel" "scrambled" "I" := Or.inl fw_RM_152
set_option maxRecDepth 20000 in
theorem fw_RM_155 : Cond.fieldLink "ProtectedLineModel" 155 "ProtectedLineModel" "length" "I" ∈ plWG := mt 649 (by decide +kernel) rfl
set_option maxRecDepth 20000 in
theorem fl_RM_155 : plFL "ProtectedLineModel" 155 "ProtectedLineModel" "length" "I" := Or.inl fw_RM_155
set_option maxRecDepth 20000 in
theorem fw_RM_158 : Cond.fieldLink "ProtectedLineModel" 158 "ProtectedLineModel" "taken" "I" ∈ plWG := mt 650 (by decide +kernel) rfl
set_option maxRecDepth 20000 in
theorem fl_RM_158 : plFL "ProtectedLineModel" 158 "ProtectedLineModel" "taken" "I" := Or.inl fw_RM_158
set_option maxRecDepth 20000 in
theorem ml_RM_161 : plCV "ProtectedLineModel" 161 y_RM_load b_RM_load 6 none 0 := ⟨Or.inl (mt 868 (by decide +kernel) rfl), im_RM_load, se_RM_load, ini_RM, co_RM_load, mn_RM_load⟩
set_option maxRecDepth 20000 in
theorem fw_RM_164 : Cond.fieldLink "ProtectedLineModel" 164 "ProtectedLineModel" "place" "I" ∈ plWG := mt 652 (by decide +kernel) rfl
set_option maxRecDepth 20000 in
theorem fl_RM_164 : plFL "ProtectedLineModel" 164 "ProtectedLineModel" "place" "I" := Or.inl fw_RM_164
set_option maxRecDepth 20000 in
theorem fw_RM_167 : Cond.fieldLink "ProtectedLineModel" 167 "ProtectedLineModel" "parity" "I" ∈ plWG := mt 653 (by decide +kernel) rfl
set_option maxRecDepth 20000 in
theorem fl_RM_167 : plFL "ProtectedLineModel" 167 "ProtectedLineModel" "parity" "I" := Or.inl fw_RM_167
set_option maxRecDepth 20000 in
theorem ml_RM_170 : plCV "ProtectedLineModel" 170 y_RM_streamed b_RM_streamed 1 (some .int) 0 := ⟨Or.inl (mt 864 (by decide +kernel) rfl), im_RM_streamed, se_RM_streamed, ini_RM, co_RM_streamed, mn_RM_streamed⟩
set_option maxRecDepth 20000 in
theorem fw_RM_174 : Cond.fieldLink "ProtectedLineModel" 174 "ProtectedLineModel" "joined" "I" ∈ plWG := mt 654 (by decide +kernel) rfl
set_option maxRecDepth 20000 in
theorem fl_RM_174 : plFL "ProtectedLineModel" 174 "ProtectedLineModel" "joined" "I" := Or.inl fw_RM_174
set_option maxRecDepth 20000 in
theorem fw_RM_177 : Cond.fieldLink "ProtectedLineModel" 177 "ProtectedLineModel" "lead" "I" ∈ plWG := mt 655 (by decide +kernel) rfl
set_option maxRecDepth 20000 in
theorem fl_RM_177 : plFL "ProtectedLineModel" 177 "ProtectedLineModel" "lead" "I" := Or.inl fw_RM_177
set_option maxRecDepth 20000 in
theorem ml_RM_180 : plCV "ProtectedLineModel" 180 y_RM_contained b_RM_contained 2 (some .int) 0 := ⟨Or.inl (mt 860 (by decide +kernel) rfl), im_RM_contained, se_RM_contained, ini_RM, co_RM_contained, mn_RM_contained⟩
set_option maxRecDepth 20000 in
theorem ml_RM_183 : plCV "ProtectedLineModel" 183 y_RM_put b_RM_put 7 none 1 := ⟨Or.inl (mt 875 (by decide +kernel) rfl), im_RM_put, se_RM_put, ini_RM, co_RM_put, mn_RM_put⟩
set_option maxRecDepth 20000 in
theorem ml_RM_187 : plCV "ProtectedLineModel" 187 y_RM_align b_RM_align 3 none 1 := ⟨Or.inl (mt 883 (by decide +kernel) rfl), im_RM_align, se_RM_align, ini_RM, co_RM_align, mn_RM_align⟩
set_option maxRecDepth 20000 in
theorem ml_RM_190 : plCS "ProtectedLineModel" 190 y_RM_ones b_RM_ones 3 (some .int) 1 := ⟨Or.inl (mt 887 (by decide +kernel) rfl), st_RM_ones, ini_RM, co_RM_ones, mn_RM_ones⟩
set_option maxRecDepth 20000 in
theorem fw_RM_193 : Cond.fieldLink "ProtectedLineModel" 193 "ProtectedLineModel" "failedFor" "I" ∈ plWG := mt 675 (by decide +kernel) rfl
set_option maxRecDepth 20000 in
theorem fl_RM_193 : plFL "ProtectedLineModel" 193 "ProtectedLineModel" "failedFor" "I" := Or.inl fw_RM_193
set_option maxRecDepth 20000 in
theorem fw_RM_196 : Cond.fieldLink "ProtectedLineModel" 196 "ProtectedLineModel" "sameB" "I" ∈ plWG := mt 677 (by decide +kernel) rfl
set_option maxRecDepth 20000 in
theorem fl_RM_196 : plFL "ProtectedLineModel" 196 "ProtectedLineModel" "sameB" "I" := Or.inl fw_RM_196
set_option maxRecDepth 20000 in
theorem fw_RM_199 : Cond.fieldLink "ProtectedLineModel" 199 "ProtectedLineModel" "waits" "I" ∈ plWG := mt 681 (by decide +kernel) rfl
set_option maxRecDepth 20000 in
theorem fl_RM_199 : plFL "ProtectedLineModel" 199 "ProtectedLineModel" "waits" "I" := Or.inl fw_RM_199
set_option maxRecDepth 20000 in
theorem ml_RM_202 : plCV "ProtectedLineModel" 202 y_RM_read b_RM_read 9 none 2 := ⟨Or.inl (mt 902 (by decide +kernel) rfl), im_RM_read, se_RM_read, ini_RM, co_RM_read, mn_RM_read⟩
set_option maxRecDepth 20000 in
theorem ml_RM_206 : plCV "ProtectedLineModel" 206 y_RM_gap b_RM_gap 1 none 0 := ⟨Or.inl (mt 960 (by decide +kernel) rfl), im_RM_gap, se_RM_gap, ini_RM, co_RM_gap, mn_RM_gap⟩
set_option maxRecDepth 20000 in
theorem fw_RM_209 : Cond.fieldLink "ProtectedLineModel" 209 "ProtectedLineModel" "gaps" "I" ∈ plWG := mt 684 (by decide +kernel) rfl
set_option maxRecDepth 20000 in
theorem fl_RM_209 : plFL "ProtectedLineModel" 209 "ProtectedLineModel" "gaps" "I" := Or.inl fw_RM_209
set_option maxRecDepth 20000 in
theorem fw_RM_212 : Cond.fieldLink "ProtectedLineModel" 212 "ProtectedLineModel" "chain" "I" ∈ plWG := mt 688 (by decide +kernel) rfl
set_option maxRecDepth 20000 in
theorem fl_RM_212 : plFL "ProtectedLineModel" 212 "ProtectedLineModel" "chain" "I" := Or.inl fw_RM_212
set_option maxRecDepth 20000 in
theorem ml_RM_215 : plCV "ProtectedLineModel" 215 y_RM_hunt b_RM_hunt 1 none 0 := ⟨Or.inl (mt 913 (by decide +kernel) rfl), im_RM_hunt, se_RM_hunt, ini_RM, co_RM_hunt, mn_RM_hunt⟩
set_option maxRecDepth 20000 in
theorem ml_RM_218 : plCV "ProtectedLineModel" 218 y_RM_lose b_RM_lose 1 none 0 := ⟨Or.inl (mt 925 (by decide +kernel) rfl), im_RM_lose, se_RM_lose, ini_RM, co_RM_lose, mn_RM_lose⟩
set_option maxRecDepth 20000 in
theorem fw_RM_221 : Cond.fieldLink "ProtectedLineModel" 221 "ProtectedLineModel" "strange" "I" ∈ plWG := mt 685 (by decide +kernel) rfl
set_option maxRecDepth 20000 in
theorem fl_RM_221 : plFL "ProtectedLineModel" 221 "ProtectedLineModel" "strange" "I" := Or.inl fw_RM_221
set_option maxRecDepth 20000 in
theorem fw_RM_224 : Cond.fieldLink "ProtectedLineModel" 224 "ProtectedLineModel" "rowOf" "I" ∈ plWG := mt 687 (by decide +kernel) rfl
set_option maxRecDepth 20000 in
theorem fl_RM_224 : plFL "ProtectedLineModel" 224 "ProtectedLineModel" "rowOf" "I" := Or.inl fw_RM_224
set_option maxRecDepth 20000 in
theorem ml_RM_227 : plCS "ProtectedLineModel" 227 y_RM_plain b_RM_plain 1 (some .int) 1 := ⟨Or.inl (mt 906 (by decide +kernel) rfl), st_RM_plain, ini_RM, co_RM_plain, mn_RM_plain⟩
set_option maxRecDepth 20000 in
theorem ml_RM_230 : plCV "ProtectedLineModel" 230 y_RM_third b_RM_third 2 (some .boolean) 1 := ⟨Or.inl (mt 909 (by decide +kernel) rfl), im_RM_third, se_RM_third, ini_RM, co_RM_third, mn_RM_third⟩
set_option maxRecDepth 20000 in
theorem ml_RM_233 : plCV "ProtectedLineModel" 233 y_RM_found b_RM_found 2 none 1 := ⟨Or.inl (mt 917 (by decide +kernel) rfl), im_RM_found, se_RM_found, ini_RM, co_RM_found, mn_RM_found⟩
set_option maxRecDepth 20000 in
theorem ml_RM_236 : plCV "ProtectedLineModel" 236 y_RM_unread b_RM_unread 2 (some .boolean) 1 := ⟨Or.inl (mt 921 (by decide +kernel) rfl), im_RM_unread, se_RM_unread, ini_RM, co_RM_unread, mn_RM_unread⟩
set_option maxRecDepth 20000 in
theorem ml_RM_239 : plCV "ProtectedLineModel" 239 y_RM_give b_RM_give 3 none 2 := ⟨Or.inl (mt 929 (by decide +kernel) rfl), im_RM_give, se_RM_give, ini_RM, co_RM_give, mn_RM_give⟩
set_option maxRecDepth 20000 in
theorem fw_RM_243 : Cond.fieldLink "ProtectedLineModel" 243 "ProtectedLineModel" "sum" "I" ∈ plWG := mt 689 (by decide +kernel) rfl
set_option maxRecDepth 20000 in
theorem fl_RM_243 : plFL "ProtectedLineModel" 243 "ProtectedLineModel" "sum" "I" := Or.inl fw_RM_243
set_option maxRecDepth 20000 in
theorem ml_RM_246 : plCV "ProtectedLineModel" 246 y_RM_take b_RM_take 2 none 1 := ⟨Or.inl (mt 933 (by decide +kernel) rfl), im_RM_take, se_RM_take, ini_RM, co_RM_take, mn_RM_take⟩
set_option maxRecDepth 20000 in
theorem fw_RM_249 : Cond.fieldLink "ProtectedLineModel" 249 "ProtectedLineModel" "pathErrors" "I" ∈ plWG := mt 690 (by decide +kernel) rfl
set_option maxRecDepth 20000 in
theorem fl_RM_249 : plFL "ProtectedLineModel" 249 "ProtectedLineModel" "pathErrors" "I" := Or.inl fw_RM_249
set_option maxRecDepth 20000 in
theorem fw_RM_252 : Cond.fieldLink "ProtectedLineModel" 252 "ProtectedLineModel" "sync" "I" ∈ plWG := mt 691 (by decide +kernel) rfl
set_option maxRecDepth 20000 in
theorem fl_RM_252 : plFL "ProtectedLineModel" 252 "ProtectedLineModel" "sync" "I" := Or.inl fw_RM_252
set_option maxRecDepth 20000 in
theorem fw_RM_255 : Cond.fieldLink "ProtectedLineModel" 255 "ProtectedLineModel" "left" "I" ∈ plWG := mt 693 (by decide +kernel) rfl
set_option maxRecDepth 20000 in
theorem fl_RM_255 : plFL "ProtectedLineModel" 255 "ProtectedLineModel" "left" "I" := Or.inl fw_RM_255
set_option maxRecDepth 20000 in
theorem ml_RM_258 : plCV "ProtectedLineModel" 258 y_RM_content b_RM_content 3 none 1 := ⟨Or.inl (mt 937 (by decide +kernel) rfl), im_RM_content, se_RM_content, ini_RM, co_RM_content, mn_RM_content⟩
set_option maxRecDepth 20000 in
theorem ml_RM_261 : plCV "ProtectedLineModel" 261 y_RM_pair b_RM_pair 3 none 2 := ⟨Or.inl (mt 945 (by decide +kernel) rfl), im_RM_pair, se_RM_pair, ini_RM, co_RM_pair, mn_RM_pair⟩
set_option maxRecDepth 20000 in
theorem ml_RM_264 : plCS "ProtectedLineModel" 264 y_RM_header b_RM_header 2 (some .boolean) 2 := ⟨Or.inl (mt 949 (by decide +kernel) rfl), st_RM_header, ini_RM, co_RM_header, mn_RM_header⟩
set_option maxRecDepth 20000 in
theorem ml_RM_268 : plCV "ProtectedLineModel" 268 y_RM_enter b_RM_enter 2 none 1 := ⟨Or.inl (mt 952 (by decide +kernel) rfl), im_RM_enter, se_RM_enter, ini_RM, co_RM_enter, mn_RM_enter⟩
set_option maxRecDepth 20000 in
theorem ml_RM_271 : plCV "ProtectedLineModel" 271 y_RM_mend b_RM_mend 5 none 2 := ⟨Or.inl (mt 956 (by decide +kernel) rfl), im_RM_mend, se_RM_mend, ini_RM, co_RM_mend, mn_RM_mend⟩
set_option maxRecDepth 20000 in
theorem fw_RM_274 : Cond.fieldLink "ProtectedLineModel" 274 "ProtectedLineModel" "long0" "I" ∈ plWG := mt 694 (by decide +kernel) rfl
set_option maxRecDepth 20000 in
theorem fl_RM_274 : plFL "ProtectedLineModel" 274 "ProtectedLineModel" "long0" "I" := Or.inl fw_RM_274
set_option maxRecDepth 20000 in
theorem fw_RM_277 : Cond.fieldLink "ProtectedLineModel" 277 "ProtectedLineModel" "filled" "I" ∈ plWG := mt 695 (by decide +kernel) rfl
set_option maxRecDepth 20000 in
theorem fl_RM_277 : plFL "ProtectedLineModel" 277 "ProtectedLineModel" "filled" "I" := Or.inl fw_RM_277
set_option maxRecDepth 20000 in
theorem fw_RM_280 : Cond.fieldLink "ProtectedLineModel" 280 "ProtectedLineModel" "memory" "I" ∈ plWG := mt 696 (by decide +kernel) rfl
set_option maxRecDepth 20000 in
theorem fl_RM_280 : plFL "ProtectedLineModel" 280 "ProtectedLineModel" "memory" "I" := Or.inl fw_RM_280
set_option maxRecDepth 20000 in
theorem ml_RM_283 : plCV "ProtectedLineModel" 283 y_RM_finish b_RM_finish 4 none 0 := ⟨Or.inl (mt 941 (by decide +kernel) rfl), im_RM_finish, se_RM_finish, ini_RM, co_RM_finish, mn_RM_finish⟩
set_option maxRecDepth 20000 in
theorem fw_RM_286 : Cond.fieldLink "ProtectedLineModel" 286 "ProtectedLineModel" "dropped" "I" ∈ plWG := mt 699 (by decide +kernel) rfl
set_option maxRecDepth 20000 in
theorem fl_RM_286 : plFL "ProtectedLineModel" 286 "ProtectedLineModel" "dropped" "I" := Or.inl fw_RM_286
set_option maxRecDepth 20000 in
theorem fw_RM_289 : Cond.fieldLink "ProtectedLineModel" 289 "ProtectedLineModel" "delivered" "I" ∈ plWG := mt 698 (by decide +kernel) rfl
set_option maxRecDepth 20000 in
theorem fl_RM_289 : plFL "ProtectedLineModel" 289 "ProtectedLineModel" "delivered" "I" := Or.inl fw_RM_289
set_option maxRecDepth 20000 in
theorem m_const_JI_265 : Cond.constant "java/lang/Integer" 265 1431655765 ∈ plWG := mt 432 (by decide +kernel) rfl
set_option maxRecDepth 20000 in
theorem m_const_JI_266 : Cond.constant "java/lang/Integer" 266 858993459 ∈ plWG := mt 433 (by decide +kernel) rfl
set_option maxRecDepth 20000 in
theorem m_const_JI_267 : Cond.constant "java/lang/Integer" 267 252645135 ∈ plWG := mt 434 (by decide +kernel) rfl
set_option maxRecDepth 20000 in
theorem oi_PR_3 : Cond.methodLink "ProtectedLine$PointerReader" 3 objectInit ∈ plWG ∧ Cond.instanceMethod objectInit ∈ plWG ∧ Cond.code objectInit ⟨#[0xb1]⟩ 1 none ∈ plWG := ⟨mt 271 (by decide +kernel) rfl, mt 22 (by decide +kernel) rfl, mt 23 rfl rfl⟩
set_option maxRecDepth 20000 in
theorem fw_PR_11 : Cond.fieldLink "ProtectedLine$PointerReader" 11 "ProtectedLine$PointerReader" "v" "I" ∈ plWG := mt 273 (by decide +kernel) rfl
set_option maxRecDepth 20000 in
theorem fl_PR_11 : plFL "ProtectedLine$PointerReader" 11 "ProtectedLine$PointerReader" "v" "I" := Or.inl fw_PR_11
set_option maxRecDepth 20000 in
theorem fw_PR_15 : Cond.fieldLink "ProtectedLine$PointerReader" 15 "ProtectedLine$PointerReader" "stream" "LProtectedLine$StreamReader;" ∈ plWG := mt 272 (by decide +kernel) rfl
set_option maxRecDepth 20000 in
theorem fl_PR_15 : plFL "ProtectedLine$PointerReader" 15 "ProtectedLine$PointerReader" "stream" "LProtectedLine$StreamReader;" := Or.inl fw_PR_15
set_option maxRecDepth 20000 in
theorem fw_PR_19 : Cond.fieldLink "ProtectedLine$PointerReader" 19 "ProtectedLine$PointerReader" "gapRow" "I" ∈ plWG := mt 275 (by decide +kernel) rfl
set_option maxRecDepth 20000 in
theorem fl_PR_19 : plFL "ProtectedLine$PointerReader" 19 "ProtectedLine$PointerReader" "gapRow" "I" := Or.inl fw_PR_19
set_option maxRecDepth 20000 in
theorem fw_PR_22 : Cond.fieldLink "ProtectedLine$PointerReader" 22 "ProtectedLine$PointerReader" "plainRow" "I" ∈ plWG := mt 276 (by decide +kernel) rfl
set_option maxRecDepth 20000 in
theorem fl_PR_22 : plFL "ProtectedLine$PointerReader" 22 "ProtectedLine$PointerReader" "plainRow" "I" := Or.inl fw_PR_22
set_option maxRecDepth 20000 in
theorem ml_PR_25 : plCV "ProtectedLine$PointerReader" 25 y_PR_endRows b_PR_endRows 1 none 0 := ⟨Or.inl (mt 478 (by decide +kernel) rfl), im_PR_endRows, se_PR_endRows, ini_PR, co_PR_endRows, mn_PR_endRows⟩
set_option maxRecDepth 20000 in
theorem ml_PR_28 : plCV "ProtectedLine$PointerReader" 28 y_PR_breakOff b_PR_breakOff 1 none 0 := ⟨Or.inl (mt 492 (by decide +kernel) rfl), im_PR_breakOff, se_PR_breakOff, ini_PR, co_PR_breakOff, mn_PR_breakOff⟩
set_option maxRecDepth 20000 in
theorem ml_PR_31 : plCV "ProtectedLine$PointerReader" 31 y_LN_plainAt b_LN_plainAt 2 (some .int) 1 := ⟨Or.inl (mt 461 (by decide +kernel) rfl), im_LN_plainAt, se_LN_plainAt, ini_LN, co_LN_plainAt, mn_LN_plainAt⟩
set_option maxRecDepth 20000 in
theorem ml_PR_37 : plCV "ProtectedLine$PointerReader" 37 y_PR_follow b_PR_follow 3 (some .int) 1 := ⟨Or.inl (mt 462 (by decide +kernel) rfl), im_PR_follow, se_PR_follow, ini_PR, co_PR_follow, mn_PR_follow⟩
set_option maxRecDepth 20000 in
theorem ml_PR_40 : plCV "ProtectedLine$PointerReader" 40 y_PR_beginContainer b_PR_beginContainer 2 none 1 := ⟨Or.inl (mt 500 (by decide +kernel) rfl), im_PR_beginContainer, se_PR_beginContainer, ini_PR, co_PR_beginContainer, mn_PR_beginContainer⟩
set_option maxRecDepth 20000 in
theorem fw_PR_44 : Cond.fieldLink "ProtectedLine$PointerReader" 44 "ProtectedLine$PointerReader" "joined" "I" ∈ plWG := mt 280 (by decide +kernel) rfl
set_option maxRecDepth 20000 in
theorem fl_PR_44 : plFL "ProtectedLine$PointerReader" 44 "ProtectedLine$PointerReader" "joined" "I" := Or.inl fw_PR_44
set_option maxRecDepth 20000 in
theorem fw_PR_47 : Cond.fieldLink "ProtectedLine$PointerReader" 47 "ProtectedLine$PointerReader" "sinceFirst" "I" ∈ plWG := mt 279 (by decide +kernel) rfl
set_option maxRecDepth 20000 in
theorem fl_PR_47 : plFL "ProtectedLine$PointerReader" 47 "ProtectedLine$PointerReader" "sinceFirst" "I" := Or.inl fw_PR_47
set_option maxRecDepth 20000 in
theorem ml_PR_50 : plCV "ProtectedLine$PointerReader" 50 y_SR_give b_SR_give 2 none 1 := ⟨Or.inl (mt 504 (by decide +kernel) rfl), im_SR_give, se_SR_give, ini_SR, co_SR_give, mn_SR_give⟩
set_option maxRecDepth 20000 in
theorem fw_PR_55 : Cond.fieldLink "ProtectedLine$PointerReader" 55 "ProtectedLine$PointerReader" "errorBits" "I" ∈ plWG := mt 281 (by decide +kernel) rfl
set_option maxRecDepth 20000 in
theorem fl_PR_55 : plFL "ProtectedLine$PointerReader" 55 "ProtectedLine$PointerReader" "errorBits" "I" := Or.inl fw_PR_55
set_option maxRecDepth 20000 in
theorem ml_PR_58 : plCS "ProtectedLine$PointerReader" 58 y_JI_bitCount b_JI_bitCount 1 (some .int) 1 := ⟨Or.inl (mt 487 (by decide +kernel) rfl), st_JI_bitCount, ini_JI, co_JI_bitCount, mn_JI_bitCount⟩
set_option maxRecDepth 20000 in
theorem ml_PR_63 : plCV "ProtectedLine$PointerReader" 63 y_PR_seek b_PR_seek 2 none 1 := ⟨Or.inl (mt 466 (by decide +kernel) rfl), im_PR_seek, se_PR_seek, ini_PR, co_PR_seek, mn_PR_seek⟩
set_option maxRecDepth 20000 in
theorem ml_PR_66 : plCV "ProtectedLine$PointerReader" 66 y_PR_shiftIn b_PR_shiftIn 5 (some .int) 1 := ⟨Or.inl (mt 482 (by decide +kernel) rfl), im_PR_shiftIn, se_PR_shiftIn, ini_PR, co_PR_shiftIn, mn_PR_shiftIn⟩
set_option maxRecDepth 20000 in
theorem ml_PR_69 : plCS "ProtectedLine$PointerReader" 69 y_CO_pointerByte b_CO_pointerByte 1 (some .int) 1 := ⟨Or.inl (mt 486 (by decide +kernel) rfl), st_CO_pointerByte, ini_CO, co_CO_pointerByte, mn_CO_pointerByte⟩
set_option maxRecDepth 20000 in
theorem ml_PR_74 : plCV "ProtectedLine$PointerReader" 74 y_PR_doubt b_PR_doubt 2 none 1 := ⟨Or.inl (mt 488 (by decide +kernel) rfl), im_PR_doubt, se_PR_doubt, ini_PR, co_PR_doubt, mn_PR_doubt⟩
set_option maxRecDepth 20000 in
theorem ml_PR_77 : plCV "ProtectedLine$PointerReader" 77 y_PR_countPlain b_PR_countPlain 3 none 1 := ⟨Or.inl (mt 470 (by decide +kernel) rfl), im_PR_countPlain, se_PR_countPlain, ini_PR, co_PR_countPlain, mn_PR_countPlain⟩
set_option maxRecDepth 20000 in
theorem fw_PR_80 : Cond.fieldLink "ProtectedLine$PointerReader" 80 "ProtectedLine$PointerReader" "plainQ" "I" ∈ plWG := mt 277 (by decide +kernel) rfl
set_option maxRecDepth 20000 in
theorem fl_PR_80 : plFL "ProtectedLine$PointerReader" 80 "ProtectedLine$PointerReader" "plainQ" "I" := Or.inl fw_PR_80
set_option maxRecDepth 20000 in
theorem fw_PR_83 : Cond.fieldLink "ProtectedLine$PointerReader" 83 "ProtectedLine$PointerReader" "strangeRow" "I" ∈ plWG := mt 278 (by decide +kernel) rfl
set_option maxRecDepth 20000 in
theorem fl_PR_83 : plFL "ProtectedLine$PointerReader" 83 "ProtectedLine$PointerReader" "strangeRow" "I" := Or.inl fw_PR_83
set_option maxRecDepth 20000 in
theorem ml_PR_86 : plCS "ProtectedLine$PointerReader" 86 y_CO_plainFor b_CO_plainFor 2 (some .int) 1 := ⟨Or.inl (mt 474 (by decide +kernel) rfl), st_CO_plainFor, ini_CO, co_CO_plainFor, mn_CO_plainFor⟩
set_option maxRecDepth 20000 in
theorem ml_PR_89 : plCV "ProtectedLine$PointerReader" 89 y_SR_hunt b_SR_hunt 1 none 0 := ⟨Or.inl (mt 496 (by decide +kernel) rfl), im_SR_hunt, se_SR_hunt, ini_SR, co_SR_hunt, mn_SR_hunt⟩
set_option maxRecDepth 20000 in
theorem oi_SW_1 : Cond.methodLink "ProtectedLine$Switch" 1 objectInit ∈ plWG ∧ Cond.instanceMethod objectInit ∈ plWG ∧ Cond.code objectInit ⟨#[0xb1]⟩ 1 none ∈ plWG := ⟨mt 188 (by decide +kernel) rfl, mt 22 (by decide +kernel) rfl, mt 23 rfl rfl⟩
set_option maxRecDepth 20000 in
theorem nl_SW_7 : Cond.classLink "ProtectedLine$Switch" 7 "ProtectedLine$Listener" ∈ plWG ∧ Cond.instantiable "ProtectedLine$Listener" 3 ∈ plWG ∧ Cond.initialized "ProtectedLine$Listener" ∈ plWG := ⟨mt 189 (by decide +kernel) rfl, mt 80 (by decide +kernel) rfl, ini_LI⟩
set_option maxRecDepth 20000 in
theorem ci_SW_9 : plCI "ProtectedLine$Switch" 9 y_LI_init b_LI_init 1 0 := ⟨Or.inr ⟨"ProtectedLine", List.mem_of_getElem? (i := 2) rfl⟩, im_LI_init, ini_LI, co_LI_init, rfl, mn_LI_init⟩
set_option maxRecDepth 20000 in
theorem fw_SW_10 : Cond.fieldLink "ProtectedLine$Switch" 10 "ProtectedLine$Switch" "heard" "LProtectedLine$Listener;" ∈ plWG := mt 193 (by decide +kernel) rfl
set_option maxRecDepth 20000 in
theorem fl_SW_10 : plFL "ProtectedLine$Switch" 10 "ProtectedLine$Switch" "heard" "LProtectedLine$Listener;" := Or.inl fw_SW_10
set_option maxRecDepth 20000 in
theorem fw_SW_16 : Cond.fieldLink "ProtectedLine$Switch" 16 "ProtectedLine$Switch" "hold" "I" ∈ plWG := mt 191 (by decide +kernel) rfl
set_option maxRecDepth 20000 in
theorem fl_SW_16 : plFL "ProtectedLine$Switch" 16 "ProtectedLine$Switch" "hold" "I" := Or.inl fw_SW_16
set_option maxRecDepth 20000 in
theorem fw_SW_20 : Cond.fieldLink "ProtectedLine$Switch" 20 "ProtectedLine$Switch" "wait" "I" ∈ plWG := mt 192 (by decide +kernel) rfl
set_option maxRecDepth 20000 in
theorem fl_SW_20 : plFL "ProtectedLine$Switch" 20 "ProtectedLine$Switch" "wait" "I" := Or.inl fw_SW_20
set_option maxRecDepth 20000 in
theorem fw_SW_23 : Cond.fieldLink "ProtectedLine$Switch" 23 "ProtectedLine$Switch" "failedFor" "I" ∈ plWG := mt 197 (by decide +kernel) rfl
set_option maxRecDepth 20000 in
theorem fl_SW_23 : plFL "ProtectedLine$Switch" 23 "ProtectedLine$Switch" "failedFor" "I" := Or.inl fw_SW_23
set_option maxRecDepth 20000 in
theorem ml_SW_26 : plCV "ProtectedLine$Switch" 26 y_SW_pressing b_SW_pressing 2 (some .int) 1 := ⟨Or.inl (mt 445 (by decide +kernel) rfl), im_SW_pressing, se_SW_pressing, ini_SW, co_SW_pressing, mn_SW_pressing⟩
set_option maxRecDepth 20000 in
theorem ml_SW_30 : plCV "ProtectedLine$Switch" 30 y_SW_waitOn b_SW_waitOn 1 (some .int) 0 := ⟨Or.inl (mt 449 (by decide +kernel) rfl), im_SW_waitOn, se_SW_waitOn, ini_SW, co_SW_waitOn, mn_SW_waitOn⟩
set_option maxRecDepth 20000 in
theorem fw_SW_34 : Cond.fieldLink "ProtectedLine$Switch" 34 "ProtectedLine$Switch" "asked" "I" ∈ plWG := mt 199 (by decide +kernel) rfl
set_option maxRecDepth 20000 in
theorem fl_SW_34 : plFL "ProtectedLine$Switch" 34 "ProtectedLine$Switch" "asked" "I" := Or.inl fw_SW_34
set_option maxRecDepth 20000 in
theorem fl_SW_37 : plFL "ProtectedLine$Switch" 37 "ProtectedLine$Listener" "accepted" "I" := Or.inr ⟨"ProtectedLine", List.mem_of_getElem? (i := 1) rfl⟩
set_option maxRecDepth 20000 in
theorem fw_SW_40 : Cond.fieldLink "ProtectedLine$Switch" 40 "ProtectedLine$Switch" "chosen" "I" ∈ plWG := mt 201 (by decide +kernel) rfl
set_option maxRecDepth 20000 in
theorem fl_SW_40 : plFL "ProtectedLine$Switch" 40 "ProtectedLine$Switch" "chosen" "I" := Or.inl fw_SW_40
set_option maxRecDepth 20000 in
theorem fw_SW_43 : Cond.fieldLink "ProtectedLine$Switch" 43 "ProtectedLine$Switch" "order" "I" ∈ plWG := mt 195 (by decide +kernel) rfl
set_option maxRecDepth 20000 in
theorem fl_SW_43 : plFL "ProtectedLine$Switch" 43 "ProtectedLine$Switch" "order" "I" := Or.inl fw_SW_43
set_option maxRecDepth 20000 in
theorem fw_SW_46 : Cond.fieldLink "ProtectedLine$Switch" 46 "ProtectedLine$Switch" "waitLeft" "I" ∈ plWG := mt 198 (by decide +kernel) rfl
set_option maxRecDepth 20000 in
theorem fl_SW_46 : plFL "ProtectedLine$Switch" 46 "ProtectedLine$Switch" "waitLeft" "I" := Or.inl fw_SW_46
set_option maxRecDepth 20000 in
theorem ml_CO_11 : plCS "ProtectedLine$Code" 11 y_CO_hash b_CO_hash 3 (some .int) 1 := ⟨Or.inl (mt 528 (by decide +kernel) rfl), st_CO_hash, ini_CO, co_CO_hash, mn_CO_hash⟩
set_option maxRecDepth 20000 in
theorem ml_CO_15 : plCS "ProtectedLine$Code" 15 y_JI_bitCount b_JI_bitCount 1 (some .int) 1 := ⟨Or.inl (mt 529 (by decide +kernel) rfl), st_JI_bitCount, ini_JI, co_JI_bitCount, mn_JI_bitCount⟩
set_option maxRecDepth 20000 in
theorem ml_CO_20 : plCS "ProtectedLine$Code" 20 y_CO_pointerByte b_CO_pointerByte 1 (some .int) 1 := ⟨Or.inl (mt 477 (by decide +kernel) rfl), st_CO_pointerByte, ini_CO, co_CO_pointerByte, mn_CO_pointerByte⟩
set_option maxRecDepth 20000 in
theorem oi_PL_1 : Cond.methodLink "ProtectedLine" 1 objectInit ∈ plWG ∧ Cond.instanceMethod objectInit ∈ plWG ∧ Cond.code objectInit ⟨#[0xb1]⟩ 1 none ∈ plWG := ⟨mt 21 (by decide +kernel) rfl, mt 22 (by decide +kernel) rfl, mt 23 rfl rfl⟩
set_option maxRecDepth 20000 in
theorem nl_PL_7 : Cond.classLink "ProtectedLine" 7 "ProtectedLine$StreamSource" ∈ plWG ∧ Cond.instantiable "ProtectedLine$StreamSource" 8 ∈ plWG ∧ Cond.initialized "ProtectedLine$StreamSource" ∈ plWG := ⟨mt 24 (by decide +kernel) rfl, mt 25 (by decide +kernel) rfl, ini_SS⟩
set_option maxRecDepth 20000 in
theorem ci_PL_9 : plCI "ProtectedLine" 9 y_SS_init b_SS_init 1 0 := ⟨Or.inr ⟨"ProtectedLine", List.mem_of_getElem? (i := 0) rfl⟩, im_SS_init, ini_SS, co_SS_init, rfl, mn_SS_init⟩
set_option maxRecDepth 20000 in
theorem fw_PL_10 : Cond.fieldLink "ProtectedLine" 10 "ProtectedLine" "source" "LProtectedLine$StreamSource;" ∈ plWG := mt 302 (by decide +kernel) rfl
set_option maxRecDepth 20000 in
theorem fl_PL_10 : plFL "ProtectedLine" 10 "ProtectedLine" "source" "LProtectedLine$StreamSource;" := Or.inl fw_PL_10
set_option maxRecDepth 20000 in
theorem nl_PL_16 : Cond.classLink "ProtectedLine" 16 "ProtectedLine$NodeA" ∈ plWG ∧ Cond.instantiable "ProtectedLine$NodeA" 6 ∈ plWG ∧ Cond.initialized "ProtectedLine$NodeA" ∈ plWG := ⟨mt 57 (by decide +kernel) rfl, mt 58 (by decide +kernel) rfl, ini_NA⟩
set_option maxRecDepth 20000 in
theorem nl_PL_18 : Cond.classLink "ProtectedLine" 18 "ProtectedLine$ContainerSource" ∈ plWG ∧ Cond.instantiable "ProtectedLine$ContainerSource" 3 ∈ plWG ∧ Cond.initialized "ProtectedLine$ContainerSource" ∈ plWG := ⟨mt 59 (by decide +kernel) rfl, mt 60 (by decide +kernel) rfl, ini_CS⟩
set_option maxRecDepth 20000 in
theorem ci_PL_20 : plCI "ProtectedLine" 20 y_CS_init b_CS_init 2 1 := ⟨Or.inl (mt 61 (by decide +kernel) rfl), im_CS_init, ini_CS, co_CS_init, rfl, mn_CS_init⟩
set_option maxRecDepth 20000 in
theorem ci_PL_23 : plCI "ProtectedLine" 23 y_NA_init b_NA_init 2 1 := ⟨Or.inl (mt 75 (by decide +kernel) rfl), im_NA_init, ini_NA, co_NA_init, rfl, mn_NA_init⟩
set_option maxRecDepth 20000 in
theorem fw_PL_26 : Cond.fieldLink "ProtectedLine" 26 "ProtectedLine" "nodeA" "LProtectedLine$NodeA;" ∈ plWG := mt 303 (by decide +kernel) rfl
set_option maxRecDepth 20000 in
theorem fl_PL_26 : plFL "ProtectedLine" 26 "ProtectedLine" "nodeA" "LProtectedLine$NodeA;" := Or.inl fw_PL_26
set_option maxRecDepth 20000 in
theorem nl_PL_30 : Cond.classLink "ProtectedLine" 30 "ProtectedLine$Line" ∈ plWG ∧ Cond.instantiable "ProtectedLine$Line" 12 ∈ plWG ∧ Cond.initialized "ProtectedLine$Line" ∈ plWG := ⟨mt 117 (by decide +kernel) rfl, mt 118 (by decide +kernel) rfl, ini_LN⟩
set_option maxRecDepth 20000 in
theorem ml_PL_32 : plCS "ProtectedLine" 32 y_PL_delayOf b_PL_delayOf 1 (some .int) 1 := ⟨Or.inl (mt 119 (by decide +kernel) rfl), st_PL_delayOf, ini_PL, co_PL_delayOf, mn_PL_delayOf⟩
set_option maxRecDepth 20000 in
theorem ci_PL_36 : plCI "ProtectedLine" 36 y_LN_init b_LN_init 2 1 := ⟨Or.inl (mt 122 (by decide +kernel) rfl), im_LN_init, ini_LN, co_LN_init, rfl, mn_LN_init⟩
set_option maxRecDepth 20000 in
theorem fw_PL_39 : Cond.fieldLink "ProtectedLine" 39 "ProtectedLine" "working" "LProtectedLine$Line;" ∈ plWG := mt 304 (by decide +kernel) rfl
set_option maxRecDepth 20000 in
theorem fl_PL_39 : plFL "ProtectedLine" 39 "ProtectedLine" "working" "LProtectedLine$Line;" := Or.inl fw_PL_39
set_option maxRecDepth 20000 in
theorem fw_PL_43 : Cond.fieldLink "ProtectedLine" 43 "ProtectedLine" "protection" "LProtectedLine$Line;" ∈ plWG := mt 305 (by decide +kernel) rfl
set_option maxRecDepth 20000 in
theorem fl_PL_43 : plFL "ProtectedLine" 43 "ProtectedLine" "protection" "LProtectedLine$Line;" := Or.inl fw_PL_43
set_option maxRecDepth 20000 in
theorem nl_PL_46 : Cond.classLink "ProtectedLine" 46 "ProtectedLine$BackLine" ∈ plWG ∧ Cond.instantiable "ProtectedLine$BackLine" 3 ∈ plWG ∧ Cond.initialized "ProtectedLine$BackLine" ∈ plWG := ⟨mt 167 (by decide +kernel) rfl, mt 168 (by decide +kernel) rfl, ini_BL⟩
set_option maxRecDepth 20000 in
theorem ci_PL_48 : plCI "ProtectedLine" 48 y_BL_init b_BL_init 2 1 := ⟨Or.inl (mt 169 (by decide +kernel) rfl), im_BL_init, ini_BL, co_BL_init, rfl, mn_BL_init⟩
set_option maxRecDepth 20000 in
theorem fw_PL_49 : Cond.fieldLink "ProtectedLine" 49 "ProtectedLine" "back" "LProtectedLine$BackLine;" ∈ plWG := mt 306 (by decide +kernel) rfl
set_option maxRecDepth 20000 in
theorem fl_PL_49 : plFL "ProtectedLine" 49 "ProtectedLine" "back" "LProtectedLine$BackLine;" := Or.inl fw_PL_49
set_option maxRecDepth 20000 in
theorem nl_PL_53 : Cond.classLink "ProtectedLine" 53 "ProtectedLine$Switch" ∈ plWG ∧ Cond.instantiable "ProtectedLine$Switch" 8 ∈ plWG ∧ Cond.initialized "ProtectedLine$Switch" ∈ plWG := ⟨mt 183 (by decide +kernel) rfl, mt 184 (by decide +kernel) rfl, ini_SW⟩
set_option maxRecDepth 20000 in
theorem ci_PL_55 : plCI "ProtectedLine" 55 y_SW_init b_SW_init 3 2 := ⟨Or.inl (mt 185 (by decide +kernel) rfl), im_SW_init, ini_SW, co_SW_init, rfl, mn_SW_init⟩
set_option maxRecDepth 20000 in
theorem fw_PL_58 : Cond.fieldLink "ProtectedLine" 58 "ProtectedLine" "nodeB" "LProtectedLine$Switch;" ∈ plWG := mt 307 (by decide +kernel) rfl
set_option maxRecDepth 20000 in
theorem fl_PL_58 : plFL "ProtectedLine" 58 "ProtectedLine" "nodeB" "LProtectedLine$Switch;" := Or.inl fw_PL_58
set_option maxRecDepth 20000 in
theorem nl_PL_62 : Cond.classLink "ProtectedLine" 62 "ProtectedLine$StreamReader" ∈ plWG ∧ Cond.instantiable "ProtectedLine$StreamReader" 12 ∈ plWG ∧ Cond.initialized "ProtectedLine$StreamReader" ∈ plWG := ⟨mt 220 (by decide +kernel) rfl, mt 221 (by decide +kernel) rfl, ini_SR⟩
set_option maxRecDepth 20000 in
theorem ci_PL_64 : plCI "ProtectedLine" 64 y_SR_init b_SR_init 1 0 := ⟨Or.inr ⟨"ProtectedLine", List.mem_of_getElem? (i := 3) rfl⟩, im_SR_init, ini_SR, co_SR_init, rfl, mn_SR_init⟩
set_option maxRecDepth 20000 in
theorem fw_PL_65 : Cond.fieldLink "ProtectedLine" 65 "ProtectedLine" "stream" "LProtectedLine$StreamReader;" ∈ plWG := mt 308 (by decide +kernel) rfl
set_option maxRecDepth 20000 in
theorem fl_PL_65 : plFL "ProtectedLine" 65 "ProtectedLine" "stream" "LProtectedLine$StreamReader;" := Or.inl fw_PL_65
set_option maxRecDepth 20000 in
theorem nl_PL_69 : Cond.classLink "ProtectedLine" 69 "ProtectedLine$PointerReader" ∈ plWG ∧ Cond.instantiable "ProtectedLine$PointerReader" 9 ∈ plWG ∧ Cond.initialized "ProtectedLine$PointerReader" ∈ plWG := ⟨mt 266 (by decide +kernel) rfl, mt 267 (by decide +kernel) rfl, ini_PR⟩
set_option maxRecDepth 20000 in
theorem ci_PL_71 : plCI "ProtectedLine" 71 y_PR_init b_PR_init 2 1 := ⟨Or.inl (mt 268 (by decide +kernel) rfl), im_PR_init, ini_PR, co_PR_init, rfl, mn_PR_init⟩
set_option maxRecDepth 20000 in
theorem fw_PL_74 : Cond.fieldLink "ProtectedLine" 74 "ProtectedLine" "reader" "LProtectedLine$PointerReader;" ∈ plWG := mt 309 (by decide +kernel) rfl
set_option maxRecDepth 20000 in
theorem fl_PL_74 : plFL "ProtectedLine" 74 "ProtectedLine" "reader" "LProtectedLine$PointerReader;" := Or.inl fw_PL_74
set_option maxRecDepth 20000 in
theorem ml_PL_78 : plCV "ProtectedLine" 78 y_SS_enqueue b_SS_enqueue 5 (some .boolean) 2 := ⟨Or.inl (mt 331 (by decide +kernel) rfl), im_SS_enqueue, se_SS_enqueue, ini_SS, co_SS_enqueue, mn_SS_enqueue⟩
set_option maxRecDepth 20000 in
theorem ml_PL_82 : plCV "ProtectedLine" 82 y_PL_passTick b_PL_passTick 2 none 0 := ⟨Or.inl (mt 346 (by decide +kernel) rfl), im_PL_passTick, se_PL_passTick, ini_PL, co_PL_passTick, mn_PL_passTick⟩
set_option maxRecDepth 20000 in
theorem ml_PL_85 : plCS "ProtectedLine" 85 y_PL_isLine b_PL_isLine 1 (some .boolean) 1 := ⟨Or.inl (mt 550 (by decide +kernel) rfl), st_PL_isLine, ini_PL, co_PL_isLine, mn_PL_isLine⟩
set_option maxRecDepth 20000 in
theorem ml_PL_89 : plCV "ProtectedLine" 89 y_PL_lineAt b_PL_lineAt 2 (some (.object "ProtectedLine$Line")) 1 := ⟨Or.inl (mt 453 (by decide +kernel) rfl), im_PL_lineAt, se_PL_lineAt, ini_PL, co_PL_lineAt, mn_PL_lineAt⟩
set_option maxRecDepth 20000 in
theorem fl_PL_93 : plFL "ProtectedLine" 93 "ProtectedLine$Line" "broken" "Z" := Or.inr ⟨"ProtectedLine", List.mem_of_getElem? (i := 4) rfl⟩
set_option maxRecDepth 20000 in
theorem ml_PL_97 : plCS "ProtectedLine" 97 y_PL_isPlace b_PL_isPlace 1 (some .boolean) 1 := ⟨Or.inl (mt 557 (by decide +kernel) rfl), st_PL_isPlace, ini_PL, co_PL_isPlace, mn_PL_isPlace⟩
set_option maxRecDepth 20000 in
theorem fl_PL_100 : plFL "ProtectedLine" 100 "ProtectedLine$Line" "harm" "[I" := Or.inr ⟨"ProtectedLine", List.mem_of_getElem? (i := 5) rfl⟩
set_option maxRecDepth 20000 in
theorem ml_PL_104 : plCV "ProtectedLine" 104 y_NA_owe b_NA_owe 2 (some .boolean) 1 := ⟨Or.inl (mt 564 (by decide +kernel) rfl), im_NA_owe, se_NA_owe, ini_NA, co_NA_owe, mn_NA_owe⟩
set_option maxRecDepth 20000 in
theorem fl_PL_107 : plFL "ProtectedLine" 107 "ProtectedLine$Switch" "order" "I" := Or.inr ⟨"ProtectedLine", List.mem_of_getElem? (i := 9) rfl⟩
set_option maxRecDepth 20000 in
theorem fl_PL_111 : plFL "ProtectedLine" 111 "ProtectedLine$StreamSource" "queued" "I" := Or.inr ⟨"ProtectedLine", List.mem_of_getElem? (i := 0) rfl⟩
set_option maxRecDepth 20000 in
theorem ml_PL_114 : plCV "ProtectedLine" 114 y_LN_latestByte b_LN_latestByte 2 (some .int) 1 := ⟨Or.inl (mt 580 (by decide +kernel) rfl), im_LN_latestByte, se_LN_latestByte, ini_LN, co_LN_latestByte, mn_LN_latestByte⟩
set_option maxRecDepth 20000 in
theorem fl_PL_117 : plFL "ProtectedLine" 117 "ProtectedLine$Line" "state" "I" := Or.inr ⟨"ProtectedLine", List.mem_of_getElem? (i := 6) rfl⟩
set_option maxRecDepth 20000 in
theorem fl_PL_120 : plFL "ProtectedLine" 120 "ProtectedLine$Line" "errorBits" "I" := Or.inr ⟨"ProtectedLine", List.mem_of_getElem? (i := 7) rfl⟩
set_option maxRecDepth 20000 in
theorem fl_PL_123 : plFL "ProtectedLine" 123 "ProtectedLine$Switch" "asked" "I" := Or.inr ⟨"ProtectedLine", List.mem_of_getElem? (i := 10) rfl⟩
set_option maxRecDepth 20000 in
theorem ml_PL_126 : plCV "ProtectedLine" 126 y_NA_bridgeOn b_NA_bridgeOn 2 (some .boolean) 0 := ⟨Or.inl (mt 600 (by decide +kernel) rfl), im_NA_bridgeOn, se_NA_bridgeOn, ini_NA, co_NA_bridgeOn, mn_NA_bridgeOn⟩
set_option maxRecDepth 20000 in
theorem fl_PL_130 : plFL "ProtectedLine" 130 "ProtectedLine$Switch" "chosen" "I" := Or.inr ⟨"ProtectedLine", List.mem_of_getElem? (i := 11) rfl⟩
set_option maxRecDepth 20000 in
theorem fl_PL_133 : plFL "ProtectedLine" 133 "ProtectedLine$PointerReader" "v" "I" := Or.inr ⟨"ProtectedLine", List.mem_of_getElem? (i := 15) rfl⟩
set_option maxRecDepth 20000 in
theorem fl_PL_136 : plFL "ProtectedLine" 136 "ProtectedLine$PointerReader" "errorBits" "I" := Or.inr ⟨"ProtectedLine", List.mem_of_getElem? (i := 16) rfl⟩
set_option maxRecDepth 20000 in
theorem fl_PL_137 : plFL "ProtectedLine" 137 "ProtectedLine$StreamReader" "state" "I" := Or.inr ⟨"ProtectedLine", List.mem_of_getElem? (i := 12) rfl⟩
set_option maxRecDepth 20000 in
theorem fl_PL_138 : plFL "ProtectedLine" 138 "ProtectedLine$StreamReader" "good" "I" := Or.inr ⟨"ProtectedLine", List.mem_of_getElem? (i := 13) rfl⟩
set_option maxRecDepth 20000 in
theorem fl_PL_141 : plFL "ProtectedLine" 141 "ProtectedLine$StreamReader" "bad" "I" := Or.inr ⟨"ProtectedLine", List.mem_of_getElem? (i := 14) rfl⟩
set_option maxRecDepth 20000 in
theorem ml_PL_144 : plCV "ProtectedLine" 144 y_SR_kept b_SR_kept 4 (some .int) 2 := ⟨Or.inl (mt 629 (by decide +kernel) rfl), im_SR_kept, se_SR_kept, ini_SR, co_SR_kept, mn_SR_kept⟩
set_option maxRecDepth 20000 in
theorem fl_PL_148 : plFL "ProtectedLine" 148 "ProtectedLine$NodeA" "heard" "LProtectedLine$Listener;" := Or.inr ⟨"ProtectedLine", List.mem_of_getElem? (i := 3) rfl⟩
set_option maxRecDepth 20000 in
theorem ml_PL_152 : plCV "ProtectedLine" 152 y_BL_arriving b_BL_arriving 2 (some .int) 1 := ⟨Or.inl (mt 350 (by decide +kernel) rfl), im_BL_arriving, se_BL_arriving, ini_BL, co_BL_arriving, mn_BL_arriving⟩
set_option maxRecDepth 20000 in
theorem ml_PL_156 : plCV "ProtectedLine" 156 y_LI_hear b_LI_hear 2 none 1 := ⟨Or.inl (mt 354 (by decide +kernel) rfl), im_LI_hear, se_LI_hear, ini_LI, co_LI_hear, mn_LI_hear⟩
set_option maxRecDepth 20000 in
theorem ml_PL_161 : plCV "ProtectedLine" 161 y_NA_transmit b_NA_transmit 5 none 2 := ⟨Or.inl (mt 358 (by decide +kernel) rfl), im_NA_transmit, se_NA_transmit, ini_NA, co_NA_transmit, mn_NA_transmit⟩
set_option maxRecDepth 20000 in
theorem ml_PL_165 : plCV "ProtectedLine" 165 y_LN_receive b_LN_receive 3 none 0 := ⟨Or.inl (mt 406 (by decide +kernel) rfl), im_LN_receive, se_LN_receive, ini_LN, co_LN_receive, mn_LN_receive⟩
set_option maxRecDepth 20000 in
theorem fl_PL_168 : plFL "ProtectedLine" 168 "ProtectedLine$Switch" "heard" "LProtectedLine$Listener;" := Or.inr ⟨"ProtectedLine", List.mem_of_getElem? (i := 8) rfl⟩
set_option maxRecDepth 20000 in
theorem ml_PL_169 : plCV "ProtectedLine" 169 y_LN_readable b_LN_readable 1 (some .boolean) 0 := ⟨Or.inl (mt 435 (by decide +kernel) rfl), im_LN_readable, se_LN_readable, ini_LN, co_LN_readable, mn_LN_readable⟩
set_option maxRecDepth 20000 in
theorem ml_PL_172 : plCV "ProtectedLine" 172 y_LN_plainAt b_LN_plainAt 2 (some .int) 1 := ⟨Or.inl (mt 436 (by decide +kernel) rfl), im_LN_plainAt, se_LN_plainAt, ini_LN, co_LN_plainAt, mn_LN_plainAt⟩
set_option maxRecDepth 20000 in
theorem ml_PL_175 : plCV "ProtectedLine" 175 y_LN_failed b_LN_failed 1 (some .boolean) 0 := ⟨Or.inl (mt 437 (by decide +kernel) rfl), im_LN_failed, se_LN_failed, ini_LN, co_LN_failed, mn_LN_failed⟩
set_option maxRecDepth 20000 in
theorem ml_PL_178 : plCV "ProtectedLine" 178 y_SW_decide b_SW_decide 5 none 2 := ⟨Or.inl (mt 441 (by decide +kernel) rfl), im_SW_decide, se_SW_decide, ini_SW, co_SW_decide, mn_SW_decide⟩
set_option maxRecDepth 20000 in
theorem ml_PL_182 : plCV "ProtectedLine" 182 y_PR_take b_PR_take 6 none 1 := ⟨Or.inl (mt 457 (by decide +kernel) rfl), im_PR_take, se_PR_take, ini_PR, co_PR_take, mn_PR_take⟩
set_option maxRecDepth 20000 in
theorem ml_PL_186 : plCV "ProtectedLine" 186 y_PR_gap b_PR_gap 1 none 0 := ⟨Or.inl (mt 534 (by decide +kernel) rfl), im_PR_gap, se_PR_gap, ini_PR, co_PR_gap, mn_PR_gap⟩
set_option maxRecDepth 20000 in
theorem ml_PL_189 : plCV "ProtectedLine" 189 y_SW_kByte b_SW_kByte 1 (some .int) 0 := ⟨Or.inl (mt 538 (by decide +kernel) rfl), im_SW_kByte, se_SW_kByte, ini_SW, co_SW_kByte, mn_SW_kByte⟩
set_option maxRecDepth 20000 in
theorem ml_PL_193 : plCV "ProtectedLine" 193 y_BL_launch b_BL_launch 2 none 1 := ⟨Or.inl (mt 542 (by decide +kernel) rfl), im_BL_launch, se_BL_launch, ini_BL, co_BL_launch, mn_BL_launch⟩
set_option maxRecDepth 20000 in
theorem nl_LAW_7 : Cond.classLink "ProtectedLineLaw" 7 "ProtectedLine" ∈ plWG ∧ Cond.instantiable "ProtectedLine" 8 ∈ plWG ∧ Cond.initialized "ProtectedLine" ∈ plWG := ⟨mt 16 (by decide +kernel) rfl, mt 17 (by decide +kernel) rfl, ini_PL⟩
set_option maxRecDepth 20000 in
theorem ml_LAW_9 : plCS "ProtectedLineLaw" 9 y_LAW_cell b_LAW_cell 2 (some .int) 2 := ⟨Or.inl (mt 633 (by decide +kernel) rfl), st_LAW_cell, ini_LAW, co_LAW_cell, mn_LAW_cell⟩
set_option maxRecDepth 20000 in
theorem ci_LAW_15 : plCI "ProtectedLineLaw" 15 y_PL_init b_PL_init 7 4 := ⟨Or.inl (mt 18 (by decide +kernel) rfl), im_PL_init, ini_PL, co_PL_init, rfl, mn_PL_init⟩
set_option maxRecDepth 20000 in
theorem nl_LAW_18 : Cond.classLink "ProtectedLineLaw" 18 "ProtectedLineModel" ∈ plWG ∧ Cond.instantiable "ProtectedLineModel" 59 ∈ plWG ∧ Cond.initialized "ProtectedLineModel" ∈ plWG := ⟨mt 636 (by decide +kernel) rfl, mt 637 (by decide +kernel) rfl, ini_RM⟩
set_option maxRecDepth 20000 in
theorem ci_LAW_20 : plCI "ProtectedLineLaw" 20 y_RM_init b_RM_init 11 4 := ⟨Or.inl (mt 638 (by decide +kernel) rfl), im_RM_init, ini_RM, co_RM_init, rfl, mn_RM_init⟩
set_option maxRecDepth 20000 in
theorem m_const_LAW_21 : Cond.constantLong "ProtectedLineLaw" 21 4294967295 ∈ plWG := mt 1016 (by decide +kernel) rfl
set_option maxRecDepth 20000 in
theorem ml_LAW_23 : plCV "ProtectedLineLaw" 23 y_PL_send b_PL_send 4 (some .boolean) 2 := ⟨Or.inl (mt 327 (by decide +kernel) rfl), im_PL_send, se_PL_send, ini_PL, co_PL_send, mn_PL_send⟩
set_option maxRecDepth 20000 in
theorem ml_LAW_27 : plCV "ProtectedLineLaw" 27 y_RM_send b_RM_send 5 (some .boolean) 2 := ⟨Or.inl (mt 821 (by decide +kernel) rfl), im_RM_send, se_RM_send, ini_RM, co_RM_send, mn_RM_send⟩
set_option maxRecDepth 20000 in
theorem ml_LAW_28 : plCV "ProtectedLineLaw" 28 y_PL_tick b_PL_tick 3 (some .boolean) 1 := ⟨Or.inl (mt 342 (by decide +kernel) rfl), im_PL_tick, se_PL_tick, ini_PL, co_PL_tick, mn_PL_tick⟩
set_option maxRecDepth 20000 in
theorem ml_LAW_32 : plCV "ProtectedLineLaw" 32 y_RM_tick b_RM_tick 3 (some .boolean) 1 := ⟨Or.inl (mt 848 (by decide +kernel) rfl), im_RM_tick, se_RM_tick, ini_RM, co_RM_tick, mn_RM_tick⟩
set_option maxRecDepth 20000 in
theorem ml_LAW_33 : plCV "ProtectedLineLaw" 33 y_PL_cut b_PL_cut 3 (some .boolean) 2 := ⟨Or.inl (mt 546 (by decide +kernel) rfl), im_PL_cut, se_PL_cut, ini_PL, co_PL_cut, mn_PL_cut⟩
set_option maxRecDepth 20000 in
theorem ml_LAW_37 : plCV "ProtectedLineLaw" 37 y_RM_cut b_RM_cut 3 (some .boolean) 2 := ⟨Or.inl (mt 826 (by decide +kernel) rfl), im_RM_cut, se_RM_cut, ini_RM, co_RM_cut, mn_RM_cut⟩
set_option maxRecDepth 20000 in
theorem ml_LAW_38 : plCV "ProtectedLineLaw" 38 y_PL_damage b_PL_damage 4 (some .boolean) 3 := ⟨Or.inl (mt 553 (by decide +kernel) rfl), im_PL_damage, se_PL_damage, ini_PL, co_PL_damage, mn_PL_damage⟩
set_option maxRecDepth 20000 in
theorem ml_LAW_42 : plCV "ProtectedLineLaw" 42 y_RM_damage b_RM_damage 4 (some .boolean) 3 := ⟨Or.inl (mt 833 (by decide +kernel) rfl), im_RM_damage, se_RM_damage, ini_RM, co_RM_damage, mn_RM_damage⟩
set_option maxRecDepth 20000 in
theorem ml_LAW_43 : plCV "ProtectedLineLaw" 43 y_PL_drift b_PL_drift 2 (some .boolean) 1 := ⟨Or.inl (mt 560 (by decide +kernel) rfl), im_PL_drift, se_PL_drift, ini_PL, co_PL_drift, mn_PL_drift⟩
set_option maxRecDepth 20000 in
theorem ml_LAW_46 : plCV "ProtectedLineLaw" 46 y_RM_drift b_RM_drift 2 (some .boolean) 1 := ⟨Or.inl (mt 840 (by decide +kernel) rfl), im_RM_drift, se_RM_drift, ini_RM, co_RM_drift, mn_RM_drift⟩
set_option maxRecDepth 20000 in
theorem ml_LAW_47 : plCV "ProtectedLineLaw" 47 y_PL_command b_PL_command 2 (some .boolean) 1 := ⟨Or.inl (mt 568 (by decide +kernel) rfl), im_PL_command, se_PL_command, ini_PL, co_PL_command, mn_PL_command⟩
set_option maxRecDepth 20000 in
theorem ml_LAW_50 : plCV "ProtectedLineLaw" 50 y_RM_command b_RM_command 2 (some .boolean) 1 := ⟨Or.inl (mt 844 (by decide +kernel) rfl), im_RM_command, se_RM_command, ini_RM, co_RM_command, mn_RM_command⟩
set_option maxRecDepth 20000 in
theorem ml_LAW_51 : plCV "ProtectedLineLaw" 51 y_PL_waiting b_PL_waiting 1 (some .int) 0 := ⟨Or.inl (mt 572 (by decide +kernel) rfl), im_PL_waiting, se_PL_waiting, ini_PL, co_PL_waiting, mn_PL_waiting⟩
set_option maxRecDepth 20000 in
theorem ml_LAW_55 : plCV "ProtectedLineLaw" 55 y_RM_waiting b_RM_waiting 1 (some .int) 0 := ⟨Or.inl (mt 964 (by decide +kernel) rfl), im_RM_waiting, se_RM_waiting, ini_RM, co_RM_waiting, mn_RM_waiting⟩
set_option maxRecDepth 20000 in
theorem ml_LAW_56 : plCV "ProtectedLineLaw" 56 y_PL_sent b_PL_sent 3 (some .int) 2 := ⟨Or.inl (mt 576 (by decide +kernel) rfl), im_PL_sent, se_PL_sent, ini_PL, co_PL_sent, mn_PL_sent⟩
set_option maxRecDepth 20000 in
theorem ml_LAW_60 : plCV "ProtectedLineLaw" 60 y_RM_sent b_RM_sent 3 (some .int) 2 := ⟨Or.inl (mt 968 (by decide +kernel) rfl), im_RM_sent, se_RM_sent, ini_RM, co_RM_sent, mn_RM_sent⟩
set_option maxRecDepth 20000 in
theorem ml_LAW_61 : plCV "ProtectedLineLaw" 61 y_PL_alignment b_PL_alignment 2 (some .int) 1 := ⟨Or.inl (mt 584 (by decide +kernel) rfl), im_PL_alignment, se_PL_alignment, ini_PL, co_PL_alignment, mn_PL_alignment⟩
set_option maxRecDepth 20000 in
theorem ml_LAW_65 : plCV "ProtectedLineLaw" 65 y_RM_alignment b_RM_alignment 2 (some .int) 1 := ⟨Or.inl (mt 972 (by decide +kernel) rfl), im_RM_alignment, se_RM_alignment, ini_RM, co_RM_alignment, mn_RM_alignment⟩
set_option maxRecDepth 20000 in
theorem ml_LAW_66 : plCV "ProtectedLineLaw" 66 y_PL_errors b_PL_errors 2 (some .int) 1 := ⟨Or.inl (mt 588 (by decide +kernel) rfl), im_PL_errors, se_PL_errors, ini_PL, co_PL_errors, mn_PL_errors⟩
set_option maxRecDepth 20000 in
theorem ml_LAW_69 : plCV "ProtectedLineLaw" 69 y_RM_errors b_RM_errors 2 (some .int) 1 := ⟨Or.inl (mt 976 (by decide +kernel) rfl), im_RM_errors, se_RM_errors, ini_RM, co_RM_errors, mn_RM_errors⟩
set_option maxRecDepth 20000 in
theorem ml_LAW_70 : plCV "ProtectedLineLaw" 70 y_PL_request b_PL_request 1 (some .int) 0 := ⟨Or.inl (mt 592 (by decide +kernel) rfl), im_PL_request, se_PL_request, ini_PL, co_PL_request, mn_PL_request⟩
set_option maxRecDepth 20000 in
theorem ml_LAW_73 : plCV "ProtectedLineLaw" 73 y_RM_request b_RM_request 1 (some .int) 0 := ⟨Or.inl (mt 980 (by decide +kernel) rfl), im_RM_request, se_RM_request, ini_RM, co_RM_request, mn_RM_request⟩
set_option maxRecDepth 20000 in
theorem ml_LAW_74 : plCV "ProtectedLineLaw" 74 y_PL_bridged b_PL_bridged 1 (some .boolean) 0 := ⟨Or.inl (mt 596 (by decide +kernel) rfl), im_PL_bridged, se_PL_bridged, ini_PL, co_PL_bridged, mn_PL_bridged⟩
set_option maxRecDepth 20000 in
theorem ml_LAW_78 : plCV "ProtectedLineLaw" 78 y_RM_bridged b_RM_bridged 1 (some .boolean) 0 := ⟨Or.inl (mt 984 (by decide +kernel) rfl), im_RM_bridged, se_RM_bridged, ini_RM, co_RM_bridged, mn_RM_bridged⟩
set_option maxRecDepth 20000 in
theorem ml_LAW_79 : plCV "ProtectedLineLaw" 79 y_PL_selected b_PL_selected 1 (some .int) 0 := ⟨Or.inl (mt 601 (by decide +kernel) rfl), im_PL_selected, se_PL_selected, ini_PL, co_PL_selected, mn_PL_selected⟩
set_option maxRecDepth 20000 in
theorem ml_LAW_82 : plCV "ProtectedLineLaw" 82 y_RM_selected b_RM_selected 1 (some .int) 0 := ⟨Or.inl (mt 988 (by decide +kernel) rfl), im_RM_selected, se_RM_selected, ini_RM, co_RM_selected, mn_RM_selected⟩
set_option maxRecDepth 20000 in
theorem ml_LAW_83 : plCV "ProtectedLineLaw" 83 y_PL_pointer b_PL_pointer 1 (some .int) 0 := ⟨Or.inl (mt 605 (by decide +kernel) rfl), im_PL_pointer, se_PL_pointer, ini_PL, co_PL_pointer, mn_PL_pointer⟩
set_option maxRecDepth 20000 in
theorem ml_LAW_86 : plCV "ProtectedLineLaw" 86 y_RM_pointer b_RM_pointer 1 (some .int) 0 := ⟨Or.inl (mt 992 (by decide +kernel) rfl), im_RM_pointer, se_RM_pointer, ini_RM, co_RM_pointer, mn_RM_pointer⟩
set_option maxRecDepth 20000 in
theorem ml_LAW_87 : plCV "ProtectedLineLaw" 87 y_PL_pathErrors b_PL_pathErrors 1 (some .int) 0 := ⟨Or.inl (mt 609 (by decide +kernel) rfl), im_PL_pathErrors, se_PL_pathErrors, ini_PL, co_PL_pathErrors, mn_PL_pathErrors⟩
set_option maxRecDepth 20000 in
theorem ml_LAW_90 : plCV "ProtectedLineLaw" 90 y_RM_pathErrors b_RM_pathErrors 1 (some .int) 0 := ⟨Or.inl (mt 996 (by decide +kernel) rfl), im_RM_pathErrors, se_RM_pathErrors, ini_RM, co_RM_pathErrors, mn_RM_pathErrors⟩
set_option maxRecDepth 20000 in
theorem ml_LAW_91 : plCV "ProtectedLineLaw" 91 y_PL_sync b_PL_sync 1 (some .int) 0 := ⟨Or.inl (mt 613 (by decide +kernel) rfl), im_PL_sync, se_PL_sync, ini_PL, co_PL_sync, mn_PL_sync⟩
set_option maxRecDepth 20000 in
theorem ml_LAW_94 : plCV "ProtectedLineLaw" 94 y_RM_sync b_RM_sync 1 (some .int) 0 := ⟨Or.inl (mt 1000 (by decide +kernel) rfl), im_RM_sync, se_RM_sync, ini_RM, co_RM_sync, mn_RM_sync⟩
set_option maxRecDepth 20000 in
theorem ml_LAW_95 : plCV "ProtectedLineLaw" 95 y_PL_delivered b_PL_delivered 1 (some .int) 0 := ⟨Or.inl (mt 617 (by decide +kernel) rfl), im_PL_delivered, se_PL_delivered, ini_PL, co_PL_delivered, mn_PL_delivered⟩
set_option maxRecDepth 20000 in
theorem ml_LAW_98 : plCV "ProtectedLineLaw" 98 y_RM_delivered b_RM_delivered 1 (some .int) 0 := ⟨Or.inl (mt 1004 (by decide +kernel) rfl), im_RM_delivered, se_RM_delivered, ini_RM, co_RM_delivered, mn_RM_delivered⟩
set_option maxRecDepth 20000 in
theorem ml_LAW_99 : plCV "ProtectedLineLaw" 99 y_PL_dropped b_PL_dropped 1 (some .int) 0 := ⟨Or.inl (mt 621 (by decide +kernel) rfl), im_PL_dropped, se_PL_dropped, ini_PL, co_PL_dropped, mn_PL_dropped⟩
set_option maxRecDepth 20000 in
theorem ml_LAW_102 : plCV "ProtectedLineLaw" 102 y_RM_dropped b_RM_dropped 1 (some .int) 0 := ⟨Or.inl (mt 1008 (by decide +kernel) rfl), im_RM_dropped, se_RM_dropped, ini_RM, co_RM_dropped, mn_RM_dropped⟩
set_option maxRecDepth 20000 in
theorem ml_LAW_103 : plCV "ProtectedLineLaw" 103 y_PL_got b_PL_got 3 (some .int) 2 := ⟨Or.inl (mt 625 (by decide +kernel) rfl), im_PL_got, se_PL_got, ini_PL, co_PL_got, mn_PL_got⟩
set_option maxRecDepth 20000 in
theorem ml_LAW_106 : plCV "ProtectedLineLaw" 106 y_RM_got b_RM_got 3 (some .int) 2 := ⟨Or.inl (mt 1012 (by decide +kernel) rfl), im_RM_got, se_RM_got, ini_RM, co_RM_got, mn_RM_got⟩
set_option maxRecDepth 20000 in
theorem oi_NA_3 : Cond.methodLink "ProtectedLine$NodeA" 3 objectInit ∈ plWG ∧ Cond.instanceMethod objectInit ∈ plWG ∧ Cond.code objectInit ⟨#[0xb1]⟩ 1 none ∈ plWG := ⟨mt 78 (by decide +kernel) rfl, mt 22 (by decide +kernel) rfl, mt 23 rfl rfl⟩
set_option maxRecDepth 20000 in
theorem nl_NA_9 : Cond.classLink "ProtectedLine$NodeA" 9 "ProtectedLine$Listener" ∈ plWG ∧ Cond.instantiable "ProtectedLine$Listener" 3 ∈ plWG ∧ Cond.initialized "ProtectedLine$Listener" ∈ plWG := ⟨mt 79 (by decide +kernel) rfl, mt 80 (by decide +kernel) rfl, ini_LI⟩
set_option maxRecDepth 20000 in
theorem ci_NA_11 : plCI "ProtectedLine$NodeA" 11 y_LI_init b_LI_init 1 0 := ⟨Or.inr ⟨"ProtectedLine", List.mem_of_getElem? (i := 1) rfl⟩, im_LI_init, ini_LI, co_LI_init, rfl, mn_LI_init⟩
set_option maxRecDepth 20000 in
theorem fw_NA_12 : Cond.fieldLink "ProtectedLine$NodeA" 12 "ProtectedLine$NodeA" "heard" "LProtectedLine$Listener;" ∈ plWG := mt 98 (by decide +kernel) rfl
set_option maxRecDepth 20000 in
theorem fl_NA_12 : plFL "ProtectedLine$NodeA" 12 "ProtectedLine$NodeA" "heard" "LProtectedLine$Listener;" := Or.inl fw_NA_12
set_option maxRecDepth 20000 in
theorem fw_NA_18 : Cond.fieldLink "ProtectedLine$NodeA" 18 "ProtectedLine$NodeA" "content" "[I" ∈ plWG := mt 100 (by decide +kernel) rfl
set_option maxRecDepth 20000 in
theorem fl_NA_18 : plFL "ProtectedLine$NodeA" 18 "ProtectedLine$NodeA" "content" "[I" := Or.inl fw_NA_18
set_option maxRecDepth 20000 in
theorem fw_NA_22 : Cond.fieldLink "ProtectedLine$NodeA" 22 "ProtectedLine$NodeA" "containers" "LProtectedLine$ContainerSource;" ∈ plWG := mt 97 (by decide +kernel) rfl
set_option maxRecDepth 20000 in
theorem fl_NA_22 : plFL "ProtectedLine$NodeA" 22 "ProtectedLine$NodeA" "containers" "LProtectedLine$ContainerSource;" := Or.inl fw_NA_22
set_option maxRecDepth 20000 in
theorem fw_NA_26 : Cond.fieldLink "ProtectedLine$NodeA" 26 "ProtectedLine$NodeA" "debt" "I" ∈ plWG := mt 102 (by decide +kernel) rfl
set_option maxRecDepth 20000 in
theorem fl_NA_26 : plFL "ProtectedLine$NodeA" 26 "ProtectedLine$NodeA" "debt" "I" := Or.inl fw_NA_26
set_option maxRecDepth 20000 in
theorem fl_NA_30 : plFL "ProtectedLine$NodeA" 30 "ProtectedLine$Listener" "accepted" "I" := Or.inr ⟨"ProtectedLine", List.mem_of_getElem? (i := 2) rfl⟩
set_option maxRecDepth 20000 in
theorem ml_NA_33 : plCV "ProtectedLine$NodeA" 33 y_NA_justification b_NA_justification 2 (some .int) 0 := ⟨Or.inl (mt 362 (by decide +kernel) rfl), im_NA_justification, se_NA_justification, ini_NA, co_NA_justification, mn_NA_justification⟩
set_option maxRecDepth 20000 in
theorem ml_NA_37 : plCV "ProtectedLine$NodeA" 37 y_NA_fill b_NA_fill 4 none 1 := ⟨Or.inl (mt 366 (by decide +kernel) rfl), im_NA_fill, se_NA_fill, ini_NA, co_NA_fill, mn_NA_fill⟩
set_option maxRecDepth 20000 in
theorem ml_NA_41 : plCV "ProtectedLine$NodeA" 41 y_NA_bridgeOn b_NA_bridgeOn 2 (some .boolean) 0 := ⟨Or.inl (mt 388 (by decide +kernel) rfl), im_NA_bridgeOn, se_NA_bridgeOn, ini_NA, co_NA_bridgeOn, mn_NA_bridgeOn⟩
set_option maxRecDepth 20000 in
theorem ml_NA_45 : plCV "ProtectedLine$NodeA" 45 y_LN_launch b_LN_launch 5 none 2 := ⟨Or.inl (mt 392 (by decide +kernel) rfl), im_LN_launch, se_LN_launch, ini_LN, co_LN_launch, mn_LN_launch⟩
set_option maxRecDepth 20000 in
theorem fl_NA_51 : Cond.fieldLink "ProtectedLine$NodeA" 51 "ProtectedLine$NodeA" "EMPTY" "[I" ∈ plWG := mt 404 (by decide +kernel) rfl
set_option maxRecDepth 20000 in
theorem fw_NA_54 : Cond.fieldLink "ProtectedLine$NodeA" 54 "ProtectedLine$NodeA" "rest" "I" ∈ plWG := mt 103 (by decide +kernel) rfl
set_option maxRecDepth 20000 in
theorem fl_NA_54 : plFL "ProtectedLine$NodeA" 54 "ProtectedLine$NodeA" "rest" "I" := Or.inl fw_NA_54
set_option maxRecDepth 20000 in
theorem fw_NA_59 : Cond.fieldLink "ProtectedLine$NodeA" 59 "ProtectedLine$NodeA" "p" "I" ∈ plWG := mt 101 (by decide +kernel) rfl
set_option maxRecDepth 20000 in
theorem fl_NA_59 : plFL "ProtectedLine$NodeA" 59 "ProtectedLine$NodeA" "p" "I" := Or.inl fw_NA_59
set_option maxRecDepth 20000 in
theorem ml_NA_62 : plCS "ProtectedLine$NodeA" 62 y_CO_pointerByte b_CO_pointerByte 1 (some .int) 1 := ⟨Or.inl (mt 370 (by decide +kernel) rfl), st_CO_pointerByte, ini_CO, co_CO_pointerByte, mn_CO_pointerByte⟩
set_option maxRecDepth 20000 in
theorem ml_NA_66 : plCV "ProtectedLine$NodeA" 66 y_CS_nextByte b_CS_nextByte 2 (some .int) 0 := ⟨Or.inl (mt 373 (by decide +kernel) rfl), im_CS_nextByte, se_CS_nextByte, ini_CS, co_CS_nextByte, mn_CS_nextByte⟩
set_option maxRecDepth 20000 in
theorem oi_BL_3 : Cond.methodLink "ProtectedLine$BackLine" 3 objectInit ∈ plWG ∧ Cond.instanceMethod objectInit ∈ plWG ∧ Cond.code objectInit ⟨#[0xb1]⟩ 1 none ∈ plWG := ⟨mt 172 (by decide +kernel) rfl, mt 22 (by decide +kernel) rfl, mt 23 rfl rfl⟩
set_option maxRecDepth 20000 in
theorem fw_BL_11 : Cond.fieldLink "ProtectedLine$BackLine" 11 "ProtectedLine$BackLine" "underWay" "[I" ∈ plWG := mt 174 (by decide +kernel) rfl
set_option maxRecDepth 20000 in
theorem fl_BL_11 : plFL "ProtectedLine$BackLine" 11 "ProtectedLine$BackLine" "underWay" "[I" := Or.inl fw_BL_11
set_option maxRecDepth 20000 in
theorem fw_BL_15 : Cond.fieldLink "ProtectedLine$BackLine" 15 "ProtectedLine$BackLine" "delay" "I" ∈ plWG := mt 173 (by decide +kernel) rfl
set_option maxRecDepth 20000 in
theorem fl_BL_15 : plFL "ProtectedLine$BackLine" 15 "ProtectedLine$BackLine" "delay" "I" := Or.inl fw_BL_15
set_option maxRecDepth 20000 in
theorem fw_BL_19 : Cond.fieldLink "ProtectedLine$BackLine" 19 "ProtectedLine$BackLine" "launched" "I" ∈ plWG := mt 175 (by decide +kernel) rfl
set_option maxRecDepth 20000 in
theorem fl_BL_19 : plFL "ProtectedLine$BackLine" 19 "ProtectedLine$BackLine" "launched" "I" := Or.inl fw_BL_19
set_option maxRecDepth 20000 in
theorem oi_SR_3 : Cond.methodLink "ProtectedLine$StreamReader" 3 objectInit ∈ plWG ∧ Cond.instanceMethod objectInit ∈ plWG ∧ Cond.code objectInit ⟨#[0xb1]⟩ 1 none ∈ plWG := ⟨mt 225 (by decide +kernel) rfl, mt 22 (by decide +kernel) rfl, mt 23 rfl rfl⟩
set_option maxRecDepth 20000 in
theorem fw_SR_11 : Cond.fieldLink "ProtectedLine$StreamReader" 11 "ProtectedLine$StreamReader" "state" "I" ∈ plWG := mt 226 (by decide +kernel) rfl
set_option maxRecDepth 20000 in
theorem fl_SR_11 : plFL "ProtectedLine$StreamReader" 11 "ProtectedLine$StreamReader" "state" "I" := Or.inl fw_SR_11
set_option maxRecDepth 20000 in
theorem fw_SR_17 : Cond.fieldLink "ProtectedLine$StreamReader" 17 "ProtectedLine$StreamReader" "frame" "[I" ∈ plWG := mt 234 (by decide +kernel) rfl
set_option maxRecDepth 20000 in
theorem fl_SR_17 : plFL "ProtectedLine$StreamReader" 17 "ProtectedLine$StreamReader" "frame" "[I" := Or.inl fw_SR_17
set_option maxRecDepth 20000 in
theorem fw_SR_21 : Cond.fieldLink "ProtectedLine$StreamReader" 21 "ProtectedLine$StreamReader" "sizes" "[I" ∈ plWG := mt 239 (by decide +kernel) rfl
set_option maxRecDepth 20000 in
theorem fl_SR_21 : plFL "ProtectedLine$StreamReader" 21 "ProtectedLine$StreamReader" "sizes" "[I" := Or.inl fw_SR_21
set_option maxRecDepth 20000 in
theorem fw_SR_24 : Cond.fieldLink "ProtectedLine$StreamReader" 24 "ProtectedLine$StreamReader" "contents" "[I" ∈ plWG := mt 240 (by decide +kernel) rfl
set_option maxRecDepth 20000 in
theorem fl_SR_24 : plFL "ProtectedLine$StreamReader" 24 "ProtectedLine$StreamReader" "contents" "[I" := Or.inl fw_SR_24
set_option maxRecDepth 20000 in
theorem fw_SR_27 : Cond.fieldLink "ProtectedLine$StreamReader" 27 "ProtectedLine$StreamReader" "half" "Z" ∈ plWG := mt 228 (by decide +kernel) rfl
set_option maxRecDepth 20000 in
theorem fl_SR_27 : plFL "ProtectedLine$StreamReader" 27 "ProtectedLine$StreamReader" "half" "Z" := Or.inl fw_SR_27
set_option maxRecDepth 20000 in
theorem fw_SR_31 : Cond.fieldLink "ProtectedLine$StreamReader" 31 "ProtectedLine$StreamReader" "length" "I" ∈ plWG := mt 230 (by decide +kernel) rfl
set_option maxRecDepth 20000 in
theorem fl_SR_31 : plFL "ProtectedLine$StreamReader" 31 "ProtectedLine$StreamReader" "length" "I" := Or.inl fw_SR_31
set_option maxRecDepth 20000 in
theorem fw_SR_34 : Cond.fieldLink "ProtectedLine$StreamReader" 34 "ProtectedLine$StreamReader" "done" "I" ∈ plWG := mt 231 (by decide +kernel) rfl
set_option maxRecDepth 20000 in
theorem fl_SR_34 : plFL "ProtectedLine$StreamReader" 34 "ProtectedLine$StreamReader" "done" "I" := Or.inl fw_SR_34
set_option maxRecDepth 20000 in
theorem ml_SR_37 : plCV "ProtectedLine$StreamReader" 37 y_SR_takeFrameByte b_SR_takeFrameByte 3 none 1 := ⟨Or.inl (mt 508 (by decide +kernel) rfl), im_SR_takeFrameByte, se_SR_takeFrameByte, ini_SR, co_SR_takeFrameByte, mn_SR_takeFrameByte⟩
set_option maxRecDepth 20000 in
theorem ml_SR_41 : plCV "ProtectedLine$StreamReader" 41 y_SR_takeHeader b_SR_takeHeader 4 none 1 := ⟨Or.inl (mt 521 (by decide +kernel) rfl), im_SR_takeHeader, se_SR_takeHeader, ini_SR, co_SR_takeHeader, mn_SR_takeHeader⟩
set_option maxRecDepth 20000 in
theorem fw_SR_44 : Cond.fieldLink "ProtectedLine$StreamReader" 44 "ProtectedLine$StreamReader" "first" "I" ∈ plWG := mt 229 (by decide +kernel) rfl
set_option maxRecDepth 20000 in
theorem fl_SR_44 : plFL "ProtectedLine$StreamReader" 44 "ProtectedLine$StreamReader" "first" "I" := Or.inl fw_SR_44
set_option maxRecDepth 20000 in
theorem ml_SR_47 : plCS "ProtectedLine$StreamReader" 47 y_CO_lengthRepaired b_CO_lengthRepaired 6 (some .int) 2 := ⟨Or.inl (mt 525 (by decide +kernel) rfl), st_CO_lengthRepaired, ini_CO, co_CO_lengthRepaired, mn_CO_lengthRepaired⟩
set_option maxRecDepth 20000 in
theorem ml_SR_51 : plCS "ProtectedLine$StreamReader" 51 y_CO_lengthIn b_CO_lengthIn 3 (some .int) 2 := ⟨Or.inl (mt 530 (by decide +kernel) rfl), st_CO_lengthIn, ini_CO, co_CO_lengthIn, mn_CO_lengthIn⟩
set_option maxRecDepth 20000 in
theorem fw_SR_54 : Cond.fieldLink "ProtectedLine$StreamReader" 54 "ProtectedLine$StreamReader" "check" "I" ∈ plWG := mt 233 (by decide +kernel) rfl
set_option maxRecDepth 20000 in
theorem fl_SR_54 : plFL "ProtectedLine$StreamReader" 54 "ProtectedLine$StreamReader" "check" "I" := Or.inl fw_SR_54
set_option maxRecDepth 20000 in
theorem ml_SR_57 : plCV "ProtectedLine$StreamReader" 57 y_SR_hunt b_SR_hunt 1 none 0 := ⟨Or.inl (mt 533 (by decide +kernel) rfl), im_SR_hunt, se_SR_hunt, ini_SR, co_SR_hunt, mn_SR_hunt⟩
set_option maxRecDepth 20000 in
theorem fw_SR_60 : Cond.fieldLink "ProtectedLine$StreamReader" 60 "ProtectedLine$StreamReader" "before" "I" ∈ plWG := mt 232 (by decide +kernel) rfl
set_option maxRecDepth 20000 in
theorem fl_SR_60 : plFL "ProtectedLine$StreamReader" 60 "ProtectedLine$StreamReader" "before" "I" := Or.inl fw_SR_60
set_option maxRecDepth 20000 in
theorem ml_SR_63 : plCV "ProtectedLine$StreamReader" 63 y_SR_endFrame b_SR_endFrame 2 none 1 := ⟨Or.inl (mt 512 (by decide +kernel) rfl), im_SR_endFrame, se_SR_endFrame, ini_SR, co_SR_endFrame, mn_SR_endFrame⟩
set_option maxRecDepth 20000 in
theorem ml_SR_66 : plCS "ProtectedLine$StreamReader" 66 y_CO_hash b_CO_hash 3 (some .int) 1 := ⟨Or.inl (mt 520 (by decide +kernel) rfl), st_CO_hash, ini_CO, co_CO_hash, mn_CO_hash⟩
set_option maxRecDepth 20000 in
theorem fw_SR_70 : Cond.fieldLink "ProtectedLine$StreamReader" 70 "ProtectedLine$StreamReader" "good" "I" ∈ plWG := mt 235 (by decide +kernel) rfl
set_option maxRecDepth 20000 in
theorem fl_SR_70 : plFL "ProtectedLine$StreamReader" 70 "ProtectedLine$StreamReader" "good" "I" := Or.inl fw_SR_70
set_option maxRecDepth 20000 in
theorem ml_SR_73 : plCS "ProtectedLine$StreamReader" 73 y_SR_slotOf b_SR_slotOf 1 (some .int) 1 := ⟨Or.inl (mt 516 (by decide +kernel) rfl), st_SR_slotOf, ini_SR, co_SR_slotOf, mn_SR_slotOf⟩
set_option maxRecDepth 20000 in
theorem ml_SR_76 : Cond.methodLink "ProtectedLine$StreamReader" 76 arraycopyName ∈ plWG ∧ Cond.native arraycopyName ∈ plWG ∧ Cond.static arraycopyName ∈ plWG ∧ Cond.initialized "java/lang/System" ∈ plWG := ⟨mt 519 (by decide +kernel) rfl, mt 387 (by decide +kernel) rfl, mt 386 (by decide +kernel) rfl, ini_System⟩
set_option maxRecDepth 20000 in
theorem fw_SR_82 : Cond.fieldLink "ProtectedLine$StreamReader" 82 "ProtectedLine$StreamReader" "bad" "I" ∈ plWG := mt 237 (by decide +kernel) rfl
set_option maxRecDepth 20000 in
theorem fl_SR_82 : plFL "ProtectedLine$StreamReader" 82 "ProtectedLine$StreamReader" "bad" "I" := Or.inl fw_SR_82
set_option maxRecDepth 20000 in
theorem oi_SS_3 : Cond.methodLink "ProtectedLine$StreamSource" 3 objectInit ∈ plWG ∧ Cond.instanceMethod objectInit ∈ plWG ∧ Cond.code objectInit ⟨#[0xb1]⟩ 1 none ∈ plWG := ⟨mt 29 (by decide +kernel) rfl, mt 22 (by decide +kernel) rfl, mt 23 rfl rfl⟩
set_option maxRecDepth 20000 in
theorem fw_SS_11 : Cond.fieldLink "ProtectedLine$StreamSource" 11 "ProtectedLine$StreamSource" "ready" "[I" ∈ plWG := mt 30 (by decide +kernel) rfl
set_option maxRecDepth 20000 in
theorem fl_SS_11 : plFL "ProtectedLine$StreamSource" 11 "ProtectedLine$StreamSource" "ready" "[I" := Or.inl fw_SS_11
set_option maxRecDepth 20000 in
theorem fw_SS_15 : Cond.fieldLink "ProtectedLine$StreamSource" 15 "ProtectedLine$StreamSource" "lengths" "[I" ∈ plWG := mt 31 (by decide +kernel) rfl
set_option maxRecDepth 20000 in
theorem fl_SS_15 : plFL "ProtectedLine$StreamSource" 15 "ProtectedLine$StreamSource" "lengths" "[I" := Or.inl fw_SS_15
set_option maxRecDepth 20000 in
theorem fw_SS_18 : Cond.fieldLink "ProtectedLine$StreamSource" 18 "ProtectedLine$StreamSource" "current" "[I" ∈ plWG := mt 36 (by decide +kernel) rfl
set_option maxRecDepth 20000 in
theorem fl_SS_18 : plFL "ProtectedLine$StreamSource" 18 "ProtectedLine$StreamSource" "current" "[I" := Or.inl fw_SS_18
set_option maxRecDepth 20000 in
theorem fw_SS_21 : Cond.fieldLink "ProtectedLine$StreamSource" 21 "ProtectedLine$StreamSource" "queued" "I" ∈ plWG := mt 33 (by decide +kernel) rfl
set_option maxRecDepth 20000 in
theorem fl_SS_21 : plFL "ProtectedLine$StreamSource" 21 "ProtectedLine$StreamSource" "queued" "I" := Or.inl fw_SS_21
set_option maxRecDepth 20000 in
theorem fw_SS_25 : Cond.fieldLink "ProtectedLine$StreamSource" 25 "ProtectedLine$StreamSource" "oldest" "I" ∈ plWG := mt 32 (by decide +kernel) rfl
set_option maxRecDepth 20000 in
theorem fl_SS_25 : plFL "ProtectedLine$StreamSource" 25 "ProtectedLine$StreamSource" "oldest" "I" := Or.inl fw_SS_25
set_option maxRecDepth 20000 in
theorem ml_SS_28 : plCV "ProtectedLine$StreamSource" 28 y_SS_makeReady b_SS_makeReady 8 none 3 := ⟨Or.inl (mt 335 (by decide +kernel) rfl), im_SS_makeReady, se_SS_makeReady, ini_SS, co_SS_makeReady, mn_SS_makeReady⟩
set_option maxRecDepth 20000 in
theorem ml_SS_32 : plCS "ProtectedLine$StreamSource" 32 y_CO_hash b_CO_hash 3 (some .int) 1 := ⟨Or.inl (mt 339 (by decide +kernel) rfl), st_CO_hash, ini_CO, co_CO_hash, mn_CO_hash⟩
set_option maxRecDepth 20000 in
theorem fw_SS_36 : Cond.fieldLink "ProtectedLine$StreamSource" 36 "ProtectedLine$StreamSource" "before" "I" ∈ plWG := mt 35 (by decide +kernel) rfl
set_option maxRecDepth 20000 in
theorem fl_SS_36 : plFL "ProtectedLine$StreamSource" 36 "ProtectedLine$StreamSource" "before" "I" := Or.inl fw_SS_36
set_option maxRecDepth 20000 in
theorem fw_SS_39 : Cond.fieldLink "ProtectedLine$StreamSource" 39 "ProtectedLine$StreamSource" "position" "I" ∈ plWG := mt 38 (by decide +kernel) rfl
set_option maxRecDepth 20000 in
theorem fl_SS_39 : plFL "ProtectedLine$StreamSource" 39 "ProtectedLine$StreamSource" "position" "I" := Or.inl fw_SS_39
set_option maxRecDepth 20000 in
theorem fw_SS_42 : Cond.fieldLink "ProtectedLine$StreamSource" 42 "ProtectedLine$StreamSource" "length" "I" ∈ plWG := mt 37 (by decide +kernel) rfl
set_option maxRecDepth 20000 in
theorem fl_SS_42 : plFL "ProtectedLine$StreamSource" 42 "ProtectedLine$StreamSource" "length" "I" := Or.inl fw_SS_42
set_option maxRecDepth 20000 in
theorem ml_SS_45 : plCV "ProtectedLine$StreamSource" 45 y_SS_begin b_SS_begin 1 none 0 := ⟨Or.inl (mt 381 (by decide +kernel) rfl), im_SS_begin, se_SS_begin, ini_SS, co_SS_begin, mn_SS_begin⟩
set_option maxRecDepth 20000 in
theorem ml_SS_48 : Cond.methodLink "ProtectedLine$StreamSource" 48 arraycopyName ∈ plWG ∧ Cond.native arraycopyName ∈ plWG ∧ Cond.static arraycopyName ∈ plWG ∧ Cond.initialized "java/lang/System" ∈ plWG := ⟨mt 385 (by decide +kernel) rfl, mt 387 (by decide +kernel) rfl, mt 386 (by decide +kernel) rfl, ini_System⟩
