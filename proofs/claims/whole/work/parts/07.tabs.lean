theorem mem_T {i : Nat} {w : Cond} (h : lw_tbl[i]? = some w) (hg : goodWord w = true) : w ∈ mj_T := List.mem_filter.mpr ⟨List.mem_of_getElem? h, hg⟩
abbrev dd_X0_init : mj_D := (cX0_init, RX0, 1, none, 1, true)
abbrev dd_X0_empty : mj_D := (cX0_empty, RX0, 1, none, 0, false)
abbrev dd_X0_copyFrom : mj_D := (cX0_copyFrom, RX0, 2, none, 1, false)
abbrev dd_X0_hasCpu : mj_D := (cX0_hasCpu, RX0, 2, (some FieldType.boolean), 0, false)
abbrev dd_X0_hasVector : mj_D := (cX0_hasVector, RX0, 2, (some FieldType.boolean), 0, false)
abbrev dd_X0_hasDevice : mj_D := (cX0_hasDevice, RX0, 2, (some FieldType.boolean), 0, false)
abbrev dd_X0_hasLine : mj_D := (cX0_hasLine, RX0, 3, (some FieldType.boolean), 1, false)
abbrev dd_X0_allCpus : mj_D := (cX0_allCpus, RX0, 1, (some FieldType.int), 0, false)
abbrev dd_X0_allVectors : mj_D := (cX0_allVectors, RX0, 1, (some FieldType.int), 0, false)
abbrev dd_X0_deviceNamed : mj_D := (cX0_deviceNamed, RX0, 4, (some FieldType.int), 0, false)
abbrev dd_X0_beginsLike : mj_D := (cX0_beginsLike, RX0, 6, (some FieldType.boolean), 1, false)
abbrev dd_X0_queueCpus : mj_D := (cX0_queueCpus, RX0, 10, (some FieldType.int), 1, false)
abbrev dd_X1_init : mj_D := (cX1_init, RX1, 2, none, 2, true)
abbrev dd_X1_read : mj_D := (cX1_read, RX1, 2, (some FieldType.boolean), 6, false)
abbrev dd_X1_readLine : mj_D := (cX1_readLine, RX1, 1, (some FieldType.boolean), 5, false)
abbrev dd_X1_readCpus : mj_D := (cX1_readCpus, RX1, 1, (some FieldType.boolean), 3, false)
abbrev dd_X1_readVectors : mj_D := (cX1_readVectors, RX1, 1, (some FieldType.boolean), 3, false)
abbrev dd_X1_readSize : mj_D := (cX1_readSize, RX1, 4, (some FieldType.boolean), 2, false)
abbrev dd_X1_readKept : mj_D := (cX1_readKept, RX1, 1, (some FieldType.boolean), 3, false)
abbrev dd_X1_readOff : mj_D := (cX1_readOff, RX1, 1, (some FieldType.boolean), 3, false)
abbrev dd_X1_readDevice : mj_D := (cX1_readDevice, RX1, 2, (some FieldType.boolean), 4, false)
abbrev dd_X1_readWants : mj_D := (cX1_readWants, RX1, 2, (some FieldType.boolean), 3, false)
abbrev dd_X1_readLines : mj_D := (cX1_readLines, RX1, 2, (some FieldType.boolean), 2, false)
abbrev dd_X1_readOn : mj_D := (cX1_readOn, RX1, 2, (some FieldType.boolean), 3, false)
abbrev dd_X2_init : mj_D := (cX2_init, RX2, 3, none, 4, true)
abbrev dd_X2_draft : mj_D := (cX2_draft, RX2, 1, (some (FieldType.object "VectorDeal$State")), 3, false)
abbrev dd_X2_keep : mj_D := (cX2_keep, RX2, 3, none, 0, false)
abbrev dd_X2_takeBack : mj_D := (cX2_takeBack, RX2, 1, (some FieldType.boolean), 1, false)
abbrev dd_X2_doAgain : mj_D := (cX2_doAgain, RX2, 1, (some FieldType.boolean), 1, false)
abbrev dd_X2_exchange : mj_D := (cX2_exchange, RX2, 3, none, 0, false)
abbrev dd_X2_forget : mj_D := (cX2_forget, RX2, 1, none, 0, false)
abbrev dd_X3_init : mj_D := (cX3_init, RX3, 3, none, 1, true)
abbrev dd_X3_read : mj_D := (cX3_read, RX3, 2, (some FieldType.boolean), 6, false)
abbrev dd_X3_readOrder : mj_D := (cX3_readOrder, RX3, 2, (some FieldType.boolean), 5, false)
abbrev dd_X3_readRest : mj_D := (cX3_readRest, RX3, 2, (some FieldType.boolean), 4, false)
abbrev dd_X3_readName : mj_D := (cX3_readName, RX3, 2, (some FieldType.boolean), 2, false)
abbrev dd_X3_readNumber : mj_D := (cX3_readNumber, RX3, 4, (some FieldType.boolean), 2, false)
abbrev dd_X3_readTo : mj_D := (cX3_readTo, RX3, 2, (some FieldType.boolean), 3, false)
abbrev dd_X4_init : mj_D := (cX4_init, RX4, 2, none, 1, true)
abbrev dd_X4_empty : mj_D := (cX4_empty, RX4, 2, none, 1, false)
abbrev dd_X4_copyFrom : mj_D := (cX4_copyFrom, RX4, 3, none, 1, false)
abbrev dd_X4_isOnline : mj_D := (cX4_isOnline, RX4, 2, (some FieldType.boolean), 0, false)
abbrev dd_X4_howMany : mj_D := (cX4_howMany, RX4, 3, (some FieldType.int), 1, false)
abbrev dd_X4_loadOf : mj_D := (cX4_loadOf, RX4, 2, (some FieldType.int), 1, false)
abbrev dd_X4_freeOnline : mj_D := (cX4_freeOnline, RX4, 3, (some FieldType.int), 2, false)
abbrev dd_X4_kindAt : mj_D := (cX4_kindAt, RX4, 5, (some FieldType.int), 0, false)
abbrev dd_X4_put : mj_D := (cX4_put, RX4, 7, none, 0, false)
abbrev dd_X4_isPending : mj_D := (cX4_isPending, RX4, 2, (some FieldType.boolean), 0, false)
abbrev dd_X4_pend : mj_D := (cX4_pend, RX4, 2, none, 0, false)
abbrev dd_X4_unpend : mj_D := (cX4_unpend, RX4, 3, (some FieldType.boolean), 1, false)
abbrev dd_X4_greatestPending : mj_D := (cX4_greatestPending, RX4, 3, (some FieldType.int), 0, false)
abbrev dd_X4_isFreeBlock : mj_D := (cX4_isFreeBlock, RX4, 5, (some FieldType.boolean), 0, false)
abbrev dd_X4_firstBlock : mj_D := (cX4_firstBlock, RX4, 4, (some FieldType.int), 1, false)
abbrev dd_X4_countBlocks : mj_D := (cX4_countBlocks, RX4, 5, (some FieldType.int), 1, false)
abbrev dd_X4_greatestBlock : mj_D := (cX4_greatestBlock, RX4, 3, (some FieldType.int), 2, false)
abbrev dd_X4_leastLoaded : mj_D := (cX4_leastLoaded, RX4, 7, (some FieldType.int), 1, false)
abbrev dd_X4_deal : mj_D := (cX4_deal, RX4, 5, (some FieldType.int), 2, false)
abbrev dd_X4_reservedPlace : mj_D := (cX4_reservedPlace, RX4, 5, (some FieldType.int), 0, false)
abbrev dd_X5_init : mj_D := (cX5_init, RX5, 2, none, 3, true)
abbrev dd_X5_empty : mj_D := (cX5_empty, RX5, 2, none, 2, false)
abbrev dd_X5_copyFrom : mj_D := (cX5_copyFrom, RX5, 3, none, 2, false)
abbrev dd_X5_isStarted : mj_D := (cX5_isStarted, RX5, 2, (some FieldType.boolean), 0, false)
abbrev dd_X5_isPromised : mj_D := (cX5_isPromised, RX5, 2, (some FieldType.boolean), 0, false)
abbrev dd_X5_isManaged : mj_D := (cX5_isManaged, RX5, 2, (some FieldType.boolean), 0, false)
abbrev dd_X5_promisedVectors : mj_D := (cX5_promisedVectors, RX5, 3, (some FieldType.int), 1, false)
abbrev dd_X5_unheard : mj_D := (cX5_unheard, RX5, 3, (some FieldType.int), 1, false)
abbrev dd_X5_hold : mj_D := (cX5_hold, RX5, 3, none, 1, false)
abbrev dd_X5_release : mj_D := (cX5_release, RX5, 4, none, 1, false)
abbrev dd_X5_releaseOld : mj_D := (cX5_releaseOld, RX5, 2, none, 2, false)
abbrev dd_X5_pendAt : mj_D := (cX5_pendAt, RX5, 3, (some FieldType.boolean), 1, false)
abbrev dd_X5_begin : mj_D := (cX5_begin, RX5, 3, (some FieldType.int), 4, false)
abbrev dd_X5_beginDealt : mj_D := (cX5_beginDealt, RX5, 6, (some FieldType.int), 3, false)
abbrev dd_X5_beginQueues : mj_D := (cX5_beginQueues, RX5, 6, (some FieldType.int), 3, false)
abbrev dd_X5_queuesAt : mj_D := (cX5_queuesAt, RX5, 5, (some FieldType.int), 2, false)
abbrev dd_X5_reserve : mj_D := (cX5_reserve, RX5, 6, none, 2, false)
abbrev dd_X5_leastLoadedPlace : mj_D := (cX5_leastLoadedPlace, RX5, 5, (some FieldType.int), 2, false)
abbrev dd_X5_halt : mj_D := (cX5_halt, RX5, 7, (some FieldType.int), 2, false)
abbrev dd_X5_forgetLine : mj_D := (cX5_forgetLine, RX5, 3, (some FieldType.boolean), 0, false)
abbrev dd_X5_promise : mj_D := (cX5_promise, RX5, 2, (some FieldType.int), 3, false)
abbrev dd_X5_signal : mj_D := (cX5_signal, RX5, 6, (some FieldType.int), 2, false)
abbrev dd_X5_pass : mj_D := (cX5_pass, RX5, 4, (some FieldType.int), 5, false)
abbrev dd_X5_passOne : mj_D := (cX5_passOne, RX5, 4, (some FieldType.int), 4, false)
abbrev dd_X5_deliver : mj_D := (cX5_deliver, RX5, 4, none, 2, false)
abbrev dd_X5_releaseDrained : mj_D := (cX5_releaseDrained, RX5, 2, none, 3, false)
abbrev dd_X5_shift : mj_D := (cX5_shift, RX5, 10, (some FieldType.int), 3, false)
abbrev dd_X5_hasOld : mj_D := (cX5_hasOld, RX5, 4, (some FieldType.boolean), 0, false)
abbrev dd_X5_replace : mj_D := (cX5_replace, RX5, 3, none, 2, false)
abbrev dd_X5_leave : mj_D := (cX5_leave, RX5, 3, (some FieldType.int), 5, false)
abbrev dd_X5_isAt : mj_D := (cX5_isAt, RX5, 2, (some FieldType.boolean), 0, false)
abbrev dd_X5_bringOldAway : mj_D := (cX5_bringOldAway, RX5, 4, none, 3, false)
abbrev dd_X5_bringDealtAway : mj_D := (cX5_bringDealtAway, RX5, 7, (some FieldType.boolean), 4, false)
abbrev dd_X5_bringQueuesAway : mj_D := (cX5_bringQueuesAway, RX5, 5, none, 4, false)
abbrev dd_X5_bringQueueAway : mj_D := (cX5_bringQueueAway, RX5, 3, none, 3, false)
abbrev dd_X5_carry : mj_D := (cX5_carry, RX5, 4, none, 2, false)
abbrev dd_X5_comeBack : mj_D := (cX5_comeBack, RX5, 4, (some FieldType.int), 3, false)
abbrev dd_X5_openQueue : mj_D := (cX5_openQueue, RX5, 4, none, 2, false)
abbrev dd_X6_init : mj_D := (cX6_init, RX6, 2, none, 1, true)
abbrev dd_X6_blow : mj_D := (cX6_blow, RX6, 7, none, 6, false)
abbrev dd_X6_nextSeed : mj_D := (cX6_nextSeed, RX6, 1, (some FieldType.int), 0, false)
abbrev dd_X6_startedLines : mj_D := (cX6_startedLines, RX6, 4, (some FieldType.int), 1, false)
abbrev dd_X6_strike : mj_D := (cX6_strike, RX6, 6, none, 3, false)
abbrev dd_X7_init : mj_D := (cX7_init, RX7, 2, none, 1, true)
abbrev dd_X7_roomFor : mj_D := (cX7_roomFor, RX7, 5, (some FieldType.int), 3, false)
abbrev dd_X7_loadGap : mj_D := (cX7_loadGap, RX7, 5, (some FieldType.int), 2, false)
abbrev dd_X7_ticksUntilQuiet : mj_D := (cX7_ticksUntilQuiet, RX7, 4, (some FieldType.int), 1, false)
abbrev dd_X7_heldLines : mj_D := (cX7_heldLines, RX7, 4, (some FieldType.int), 2, false)
abbrev dd_X7_seekBlock : mj_D := (cX7_seekBlock, RX7, 6, none, 2, false)
abbrev dd_X7_costOfBlock : mj_D := (cX7_costOfBlock, RX7, 7, (some FieldType.int), 1, false)
abbrev dd_X7_canGo : mj_D := (cX7_canGo, RX7, 3, (some FieldType.boolean), 0, false)
abbrev dd_X7_nearestGroup : mj_D := (cX7_nearestGroup, RX7, 5, (some FieldType.int), 3, false)
abbrev dd_X7_wrongVectors : mj_D := (cX7_wrongVectors, RX7, 5, (some FieldType.int), 3, false)
abbrev dd_X7_isWrong : mj_D := (cX7_isWrong, RX7, 9, (some FieldType.boolean), 2, false)
abbrev dd_X7_wrongLines : mj_D := (cX7_wrongLines, RX7, 4, (some FieldType.int), 2, false)
abbrev dd_X7_isAstray : mj_D := (cX7_isAstray, RX7, 4, (some FieldType.boolean), 1, false)
abbrev dd_X8_init : mj_D := (cX8_init, RX8, 1, none, 1, true)
abbrev dd_X8_empty : mj_D := (cX8_empty, RX8, 1, none, 1, false)
abbrev dd_X8_copyFrom : mj_D := (cX8_copyFrom, RX8, 2, none, 1, false)
abbrev dd_X8_note : mj_D := (cX8_note, RX8, 4, none, 0, false)
abbrev dd_X8_kept : mj_D := (cX8_kept, RX8, 1, (some FieldType.int), 1, false)
abbrev dd_X8_latest : mj_D := (cX8_latest, RX8, 2, (some FieldType.int), 1, false)
abbrev dd_X8_latestId : mj_D := (cX8_latestId, RX8, 2, (some FieldType.int), 2, false)
abbrev dd_X8_latestPlace : mj_D := (cX8_latestPlace, RX8, 2, (some FieldType.int), 2, false)
abbrev dd_X8_latestByOld : mj_D := (cX8_latestByOld, RX8, 2, (some FieldType.int), 2, false)
abbrev dd_X8_sum : mj_D := (cX8_sum, RX8, 6, (some FieldType.int), 0, false)
abbrev dd_X9_init : mj_D := (cX9_init, RX9, 5, none, 5, true)
abbrev dd_X9_packed : mj_D := (cX9_packed, RX9, 3, (some FieldType.long), 0, false)
abbrev dd_X9_open : mj_D := (cX9_open, RX9, 4, none, 3, false)
abbrev dd_X9_split : mj_D := (cX9_split, RX9, 2, (some FieldType.int), 2, false)
abbrev dd_X9_splitWord : mj_D := (cX9_splitWord, RX9, 5, none, 1, false)
abbrev dd_X9_splitNumber : mj_D := (cX9_splitNumber, RX9, 5, none, 1, false)
abbrev dd_X9_advance : mj_D := (cX9_advance, RX9, 1, none, 1, false)
abbrev dd_X9_keywordOf : mj_D := (cX9_keywordOf, RX9, 4, (some FieldType.int), 0, false)
abbrev dd_X9_blame : mj_D := (cX9_blame, RX9, 2, (some FieldType.boolean), 0, false)
abbrev dd_X9_blameToken : mj_D := (cX9_blameToken, RX9, 1, (some FieldType.boolean), 0, false)
abbrev dd_X9_fitsName : mj_D := (cX9_fitsName, RX9, 2, (some FieldType.boolean), 1, false)
abbrev dd_X9_fitsNumber : mj_D := (cX9_fitsNumber, RX9, 3, (some FieldType.boolean), 1, false)
abbrev dd_X9_takeWord : mj_D := (cX9_takeWord, RX9, 2, (some FieldType.boolean), 2, false)
abbrev dd_X9_takeSign : mj_D := (cX9_takeSign, RX9, 1, (some FieldType.boolean), 2, false)
abbrev dd_X9_takeSet : mj_D := (cX9_takeSet, RX9, 4, (some FieldType.boolean), 2, false)
abbrev dd_X9_isBlank : mj_D := (cX9_isBlank, RX9, 1, (some FieldType.boolean), 0, false)
abbrev dd_X9_isLetter : mj_D := (cX9_isLetter, RX9, 1, (some FieldType.boolean), 0, false)
abbrev dd_X9_isDigit : mj_D := (cX9_isDigit, RX9, 1, (some FieldType.boolean), 0, false)
abbrev dd_X10_init : mj_D := (cX10_init, RX10, 2, none, 6, true)
abbrev dd_X10_feed : mj_D := (cX10_feed, RX10, 6, (some FieldType.int), 1, false)
abbrev dd_X10_appendBytes : mj_D := (cX10_appendBytes, RX10, 3, none, 0, false)
abbrev dd_X10_end : mj_D := (cX10_end, RX10, 2, (some FieldType.int), 0, false)
abbrev dd_X10_board : mj_D := (cX10_board, RX10, 2, (some FieldType.int), 7, false)
abbrev dd_X10_orders : mj_D := (cX10_orders, RX10, 5, (some FieldType.int), 7, false)
abbrev dd_X10_perform : mj_D := (cX10_perform, RX10, 5, (some FieldType.int), 6, false)
abbrev dd_X10_fault : mj_D := (cX10_fault, RX10, 2, (some FieldType.int), 0, false)
abbrev dd_X10_refused : mj_D := (cX10_refused, RX10, 1, (some FieldType.int), 0, false)
abbrev dd_X10_start : mj_D := (cX10_start, RX10, 2, (some FieldType.int), 5, false)
abbrev dd_X10_keepIfDone : mj_D := (cX10_keepIfDone, RX10, 2, (some FieldType.int), 1, false)
abbrev dd_X10_stop : mj_D := (cX10_stop, RX10, 2, (some FieldType.int), 4, false)
abbrev dd_X10_keepIfAny : mj_D := (cX10_keepIfAny, RX10, 2, (some FieldType.int), 1, false)
abbrev dd_X10_claim : mj_D := (cX10_claim, RX10, 2, (some FieldType.int), 4, false)
abbrev dd_X10_raise : mj_D := (cX10_raise, RX10, 4, (some FieldType.int), 4, false)
abbrev dd_X10_tick : mj_D := (cX10_tick, RX10, 2, (some FieldType.int), 6, false)
abbrev dd_X10_move : mj_D := (cX10_move, RX10, 4, (some FieldType.int), 4, false)
abbrev dd_X10_unplug : mj_D := (cX10_unplug, RX10, 2, (some FieldType.int), 6, false)
abbrev dd_X10_plug : mj_D := (cX10_plug, RX10, 2, (some FieldType.int), 4, false)
abbrev dd_X10_undo : mj_D := (cX10_undo, RX10, 1, (some FieldType.boolean), 2, false)
abbrev dd_X10_redo : mj_D := (cX10_redo, RX10, 1, (some FieldType.boolean), 2, false)
abbrev dd_X10_cpu : mj_D := (cX10_cpu, RX10, 4, (some FieldType.int), 3, false)
abbrev dd_X10_vector : mj_D := (cX10_vector, RX10, 7, (some FieldType.int), 1, false)
abbrev dd_X10_device : mj_D := (cX10_device, RX10, 4, (some FieldType.int), 1, false)
abbrev dd_X10_line : mj_D := (cX10_line, RX10, 6, (some FieldType.int), 2, false)
abbrev dd_X10_cpuOf : mj_D := (cX10_cpuOf, RX10, 1, (some FieldType.int), 0, false)
abbrev dd_X10_vectorOf : mj_D := (cX10_vectorOf, RX10, 1, (some FieldType.int), 0, false)
abbrev dd_X10_spread : mj_D := (cX10_spread, RX10, 3, (some FieldType.int), 2, false)
abbrev dd_X10_room : mj_D := (cX10_room, RX10, 2, (some FieldType.int), 4, false)
abbrev dd_X10_isGroupSize : mj_D := (cX10_isGroupSize, RX10, 1, (some FieldType.boolean), 0, false)
abbrev dd_X10_balance : mj_D := (cX10_balance, RX10, 1, (some FieldType.int), 3, false)
abbrev dd_X10_clear : mj_D := (cX10_clear, RX10, 3, (some FieldType.int), 3, false)
abbrev dd_X10_without : mj_D := (cX10_without, RX10, 4, (some FieldType.int), 6, false)
abbrev dd_X10_storm : mj_D := (cX10_storm, RX10, 4, (some FieldType.int), 7, false)
abbrev dd_X10_quiet : mj_D := (cX10_quiet, RX10, 1, (some FieldType.int), 2, false)
abbrev dd_X10_nearest : mj_D := (cX10_nearest, RX10, 1, (some FieldType.int), 4, false)
abbrev dd_X10_log : mj_D := (cX10_log, RX10, 6, (some FieldType.int), 3, false)
abbrev dd_X10_alike : mj_D := (cX10_alike, RX10, 6, (some FieldType.int), 3, false)
abbrev dd_X10_law : mj_D := (cX10_law, RX10, 1, (some FieldType.int), 4, false)
abbrev dd_X10_image : mj_D := (cX10_image, RX10, 2, (some FieldType.int), 3, false)
abbrev dd_X10_back : mj_D := (cX10_back, RX10, 2, (some FieldType.int), 3, false)
abbrev dd_X10_about : mj_D := (cX10_about, RX10, 3, (some FieldType.int), 3, false)
abbrev dd_X10_aboutCounts : mj_D := (cX10_aboutCounts, RX10, 2, (some FieldType.int), 1, false)
abbrev dd_X11_init : mj_D := (cX11_init, RX11, 1, none, 2, true)
abbrev dd_X11_isIn : mj_D := (cX11_isIn, RX11, 3, (some FieldType.boolean), 0, false)
abbrev dd_X11_truth : mj_D := (cX11_truth, RX11, 1, (some FieldType.int), 0, false)
abbrev dd_X11_greater : mj_D := (cX11_greater, RX11, 2, (some FieldType.int), 0, false)
abbrev dd_X11_lesser : mj_D := (cX11_lesser, RX11, 2, (some FieldType.int), 0, false)
abbrev dd_X11_isOf : mj_D := (cX11_isOf, RX11, 2, (some FieldType.boolean), 0, false)
abbrev dd_X11_feed : mj_D := (cX11_feed, RX11, 6, (some FieldType.int), 1, false)
abbrev dd_X11_four : mj_D := (cX11_four, RX11, 3, none, 0, false)
abbrev dd_X11_end : mj_D := (cX11_end, RX11, 2, (some FieldType.int), 1, false)
abbrev dd_X11_here : mj_D := (cX11_here, RX11, 2, (some FieldType.int), 0, false)
abbrev dd_X11_isLetter : mj_D := (cX11_isLetter, RX11, 1, (some FieldType.boolean), 0, false)
abbrev dd_X11_isDigit : mj_D := (cX11_isDigit, RX11, 1, (some FieldType.boolean), 0, false)
abbrev dd_X11_goOn : mj_D := (cX11_goOn, RX11, 2, none, 1, false)
abbrev dd_X11_wrong : mj_D := (cX11_wrong, RX11, 2, none, 0, false)
abbrev dd_X11_isGood : mj_D := (cX11_isGood, RX11, 1, (some FieldType.boolean), 0, false)
abbrev dd_X11_isWord : mj_D := (cX11_isWord, RX11, 3, (some FieldType.boolean), 0, false)
abbrev dd_X11_orderHere : mj_D := (cX11_orderHere, RX11, 1, (some FieldType.int), 1, false)
abbrev dd_X11_isOwn : mj_D := (cX11_isOwn, RX11, 1, (some FieldType.boolean), 2, false)
abbrev dd_X11_numberHere : mj_D := (cX11_numberHere, RX11, 3, (some FieldType.int), 1, false)
abbrev dd_X11_numberIn : mj_D := (cX11_numberIn, RX11, 4, (some FieldType.int), 2, false)
abbrev dd_X11_nameHere : mj_D := (cX11_nameHere, RX11, 1, (some FieldType.long), 3, false)
abbrev dd_X11_setOf : mj_D := (cX11_setOf, RX11, 6, (some FieldType.int), 2, false)
abbrev dd_X11_begins : mj_D := (cX11_begins, RX11, 1, none, 0, false)
abbrev dd_X11_cpusLine : mj_D := (cX11_cpusLine, RX11, 1, none, 3, false)
abbrev dd_X11_vectorsLine : mj_D := (cX11_vectorsLine, RX11, 1, none, 3, false)
abbrev dd_X11_deviceLine : mj_D := (cX11_deviceLine, RX11, 7, none, 4, false)
abbrev dd_X11_line : mj_D := (cX11_line, RX11, 1, none, 5, false)
abbrev dd_X11_takesOver : mj_D := (cX11_takesOver, RX11, 2, none, 1, false)
abbrev dd_X11_beginsText : mj_D := (cX11_beginsText, RX11, 1, none, 2, false)
abbrev dd_X11_endsText : mj_D := (cX11_endsText, RX11, 1, (some FieldType.boolean), 0, false)
abbrev dd_X11_board : mj_D := (cX11_board, RX11, 1, (some FieldType.int), 6, false)
abbrev dd_X11_fault : mj_D := (cX11_fault, RX11, 2, (some FieldType.int), 0, false)
abbrev dd_X11_spot : mj_D := (cX11_spot, RX11, 2, (some FieldType.int), 0, false)
abbrev dd_X11_lineAt : mj_D := (cX11_lineAt, RX11, 2, (some FieldType.int), 0, false)
abbrev dd_X11_isCpu : mj_D := (cX11_isCpu, RX11, 2, (some FieldType.boolean), 1, false)
abbrev dd_X11_isDevice : mj_D := (cX11_isDevice, RX11, 2, (some FieldType.boolean), 1, false)
abbrev dd_X11_isStarted : mj_D := (cX11_isStarted, RX11, 2, (some FieldType.boolean), 0, false)
abbrev dd_X11_isLine : mj_D := (cX11_isLine, RX11, 3, (some FieldType.boolean), 2, false)
abbrev dd_X11_isOnline : mj_D := (cX11_isOnline, RX11, 2, (some FieldType.boolean), 0, false)
abbrev dd_X11_manyOf : mj_D := (cX11_manyOf, RX11, 5, (some FieldType.int), 1, false)
abbrev dd_X11_loadOf : mj_D := (cX11_loadOf, RX11, 2, (some FieldType.int), 2, false)
abbrev dd_X11_pendingOf : mj_D := (cX11_pendingOf, RX11, 4, (some FieldType.int), 1, false)
abbrev dd_X11_freeOnline : mj_D := (cX11_freeOnline, RX11, 3, (some FieldType.int), 2, false)
abbrev dd_X11_promised : mj_D := (cX11_promised, RX11, 3, (some FieldType.int), 0, false)
abbrev dd_X11_online : mj_D := (cX11_online, RX11, 3, (some FieldType.int), 0, false)
abbrev dd_X11_allPending : mj_D := (cX11_allPending, RX11, 3, (some FieldType.int), 2, false)
abbrev dd_X11_heldLines : mj_D := (cX11_heldLines, RX11, 3, (some FieldType.int), 2, false)
abbrev dd_X11_blockOf : mj_D := (cX11_blockOf, RX11, 6, (some FieldType.int), 1, false)
abbrev dd_X11_dealt : mj_D := (cX11_dealt, RX11, 5, (some FieldType.int), 3, false)
abbrev dd_X11_sets : mj_D := (cX11_sets, RX11, 7, none, 1, false)
abbrev dd_X11_holds : mj_D := (cX11_holds, RX11, 5, none, 2, false)
abbrev dd_X11_noOld : mj_D := (cX11_noOld, RX11, 3, none, 1, false)
abbrev dd_X11_hasOld : mj_D := (cX11_hasOld, RX11, 3, (some FieldType.boolean), 1, false)
abbrev dd_X11_leaves : mj_D := (cX11_leaves, RX11, 5, none, 2, false)
abbrev dd_X11_merges : mj_D := (cX11_merges, RX11, 2, none, 0, false)
abbrev dd_X11_pends : mj_D := (cX11_pends, RX11, 5, (some FieldType.int), 1, false)
abbrev dd_X11_reservedAt : mj_D := (cX11_reservedAt, RX11, 5, (some FieldType.int), 1, false)
abbrev dd_X11_setMany : mj_D := (cX11_setMany, RX11, 4, (some FieldType.int), 0, false)
abbrev dd_X11_spreadOf : mj_D := (cX11_spreadOf, RX11, 8, (some FieldType.int), 1, false)
abbrev dd_X11_leastOf : mj_D := (cX11_leastOf, RX11, 4, (some FieldType.int), 3, false)
abbrev dd_X11_putsAside : mj_D := (cX11_putsAside, RX11, 2, none, 0, false)
abbrev dd_X11_comesBack : mj_D := (cX11_comesBack, RX11, 2, none, 0, false)
abbrev dd_X11_startsDealt : mj_D := (cX11_startsDealt, RX11, 5, (some FieldType.int), 4, false)
abbrev dd_X11_startsQueues : mj_D := (cX11_startsQueues, RX11, 5, (some FieldType.int), 4, false)
abbrev dd_X11_starts : mj_D := (cX11_starts, RX11, 3, (some FieldType.int), 5, false)
abbrev dd_X11_stops : mj_D := (cX11_stops, RX11, 5, (some FieldType.int), 2, false)
abbrev dd_X11_claims : mj_D := (cX11_claims, RX11, 2, (some FieldType.int), 3, false)
abbrev dd_X11_raises : mj_D := (cX11_raises, RX11, 5, (some FieldType.int), 2, false)
abbrev dd_X11_logs : mj_D := (cX11_logs, RX11, 7, none, 1, false)
abbrev dd_X11_handles : mj_D := (cX11_handles, RX11, 7, none, 2, false)
abbrev dd_X11_drains : mj_D := (cX11_drains, RX11, 4, none, 3, false)
abbrev dd_X11_ticks : mj_D := (cX11_ticks, RX11, 2, none, 4, false)
abbrev dd_X11_moves : mj_D := (cX11_moves, RX11, 6, none, 3, false)
abbrev dd_X11_hasAnyOld : mj_D := (cX11_hasAnyOld, RX11, 5, (some FieldType.boolean), 2, false)
abbrev dd_X11_movesTo : mj_D := (cX11_movesTo, RX11, 8, (some FieldType.int), 4, false)
abbrev dd_X11_oldLeaves : mj_D := (cX11_oldLeaves, RX11, 8, none, 3, false)
abbrev dd_X11_isBrought : mj_D := (cX11_isBrought, RX11, 8, (some FieldType.boolean), 4, false)
abbrev dd_X11_queueLeaves : mj_D := (cX11_queueLeaves, RX11, 10, none, 4, false)
abbrev dd_X11_isCleared : mj_D := (cX11_isCleared, RX11, 4, (some FieldType.boolean), 5, false)
abbrev dd_X11_unplugs : mj_D := (cX11_unplugs, RX11, 4, (some FieldType.int), 6, false)
abbrev dd_X11_plugs : mj_D := (cX11_plugs, RX11, 5, (some FieldType.int), 3, false)
abbrev dd_X11_begin : mj_D := (cX11_begin, RX11, 2, none, 0, false)
abbrev dd_X11_keeps : mj_D := (cX11_keeps, RX11, 2, none, 0, false)
abbrev dd_X11_exchanges : mj_D := (cX11_exchanges, RX11, 4, none, 0, false)
abbrev dd_X11_undo : mj_D := (cX11_undo, RX11, 1, (some FieldType.boolean), 1, false)
abbrev dd_X11_redo : mj_D := (cX11_redo, RX11, 1, (some FieldType.boolean), 1, false)
abbrev dd_X11_kept : mj_D := (cX11_kept, RX11, 2, (some FieldType.int), 1, false)
abbrev dd_X11_start : mj_D := (cX11_start, RX11, 2, (some FieldType.int), 6, false)
abbrev dd_X11_stop : mj_D := (cX11_stop, RX11, 3, (some FieldType.int), 3, false)
abbrev dd_X11_claim : mj_D := (cX11_claim, RX11, 2, (some FieldType.int), 4, false)
abbrev dd_X11_raise : mj_D := (cX11_raise, RX11, 5, (some FieldType.int), 3, false)
abbrev dd_X11_tick : mj_D := (cX11_tick, RX11, 3, (some FieldType.int), 5, false)
abbrev dd_X11_move : mj_D := (cX11_move, RX11, 4, (some FieldType.int), 5, false)
abbrev dd_X11_unplug : mj_D := (cX11_unplug, RX11, 2, (some FieldType.int), 7, false)
abbrev dd_X11_plug : mj_D := (cX11_plug, RX11, 2, (some FieldType.int), 4, false)
abbrev dd_X11_knownDevice : mj_D := (cX11_knownDevice, RX11, 5, (some FieldType.int), 4, false)
abbrev dd_X11_readOrder : mj_D := (cX11_readOrder, RX11, 3, none, 5, false)
abbrev dd_X11_doesTicks : mj_D := (cX11_doesTicks, RX11, 3, (some FieldType.int), 5, false)
abbrev dd_X11_stopsOr : mj_D := (cX11_stopsOr, RX11, 3, (some FieldType.int), 3, false)
abbrev dd_X11_raisesOr : mj_D := (cX11_raisesOr, RX11, 5, (some FieldType.int), 3, false)
abbrev dd_X11_does : mj_D := (cX11_does, RX11, 4, (some FieldType.int), 7, false)
abbrev dd_X11_orders : mj_D := (cX11_orders, RX11, 2, (some FieldType.int), 8, false)
abbrev dd_X11_refused : mj_D := (cX11_refused, RX11, 1, (some FieldType.int), 0, false)
abbrev dd_X11_greatestBlock : mj_D := (cX11_greatestBlock, RX11, 2, (some FieldType.int), 2, false)
abbrev dd_X11_cpu : mj_D := (cX11_cpu, RX11, 3, (some FieldType.int), 3, false)
abbrev dd_X11_vector : mj_D := (cX11_vector, RX11, 4, (some FieldType.int), 2, false)
abbrev dd_X11_device : mj_D := (cX11_device, RX11, 3, (some FieldType.int), 2, false)
abbrev dd_X11_line_ : mj_D := (cX11_line_, RX11, 4, (some FieldType.int), 3, false)
abbrev dd_X11_spread : mj_D := (cX11_spread, RX11, 3, (some FieldType.int), 2, false)
abbrev dd_X11_room : mj_D := (cX11_room, RX11, 7, (some FieldType.int), 4, false)
abbrev dd_X11_balance : mj_D := (cX11_balance, RX11, 4, (some FieldType.int), 3, false)
abbrev dd_X11_mustGo : mj_D := (cX11_mustGo, RX11, 7, (some FieldType.int), 2, false)
abbrev dd_X11_laysClear : mj_D := (cX11_laysClear, RX11, 5, (some FieldType.boolean), 3, false)
abbrev dd_X11_clear : mj_D := (cX11_clear, RX11, 3, (some FieldType.int), 4, false)
abbrev dd_X11_nearest : mj_D := (cX11_nearest, RX11, 4, (some FieldType.int), 4, false)
abbrev dd_X11_triesNow : mj_D := (cX11_triesNow, RX11, 2, none, 0, false)
abbrev dd_X11_endsTry : mj_D := (cX11_endsTry, RX11, 2, none, 0, false)
abbrev dd_X11_without : mj_D := (cX11_without, RX11, 6, (some FieldType.int), 7, false)
abbrev dd_X11_startedLines : mj_D := (cX11_startedLines, RX11, 3, (some FieldType.int), 1, false)
abbrev dd_X11_raisesAt : mj_D := (cX11_raisesAt, RX11, 5, none, 3, false)
abbrev dd_X11_storm : mj_D := (cX11_storm, RX11, 10, (some FieldType.int), 5, false)
abbrev dd_X11_quiet : mj_D := (cX11_quiet, RX11, 3, (some FieldType.int), 2, false)
abbrev dd_X11_log : mj_D := (cX11_log, RX11, 3, (some FieldType.int), 1, false)
abbrev dd_X11_isAlike : mj_D := (cX11_isAlike, RX11, 4, (some FieldType.boolean), 0, false)
abbrev dd_X11_alike : mj_D := (cX11_alike, RX11, 6, (some FieldType.int), 2, false)
abbrev dd_X11_law : mj_D := (cX11_law, RX11, 1, (some FieldType.int), 0, false)
abbrev dd_X11_image : mj_D := (cX11_image, RX11, 3, (some FieldType.int), 3, false)
abbrev dd_X11_back : mj_D := (cX11_back, RX11, 3, (some FieldType.int), 3, false)
abbrev dd_X11_about : mj_D := (cX11_about, RX11, 2, (some FieldType.int), 3, false)
abbrev dd_J6_bitCount_0f7a4 : mj_D := (cJ6_bitCount_0f7a4, RJ6, 1, (some FieldType.int), 0, false)
abbrev dd_J9_floorMod_7cf53 : mj_D := (cJ9_floorMod_7cf53, RJ9, 3, (some FieldType.int), 0, false)
abbrev dd_J9_max_7cf53 : mj_D := (cJ9_max_7cf53, RJ9, 2, (some FieldType.int), 0, false)
abbrev dd_J9_min_7cf53 : mj_D := (cJ9_min_7cf53, RJ9, 2, (some FieldType.int), 0, false)
abbrev dd_J0_length_8abf5 : mj_D := (cJ0_length_8abf5, RJ0, 1, (some FieldType.int), 1, false)
abbrev dd_J0_charAt_5068e : mj_D := (cJ0_charAt_5068e, RJ0, 2, (some FieldType.char), 4, false)
abbrev dd_J0_coder_7d493 : mj_D := (cJ0_coder_7d493, RJ0, 1, (some FieldType.byte), 0, false)
abbrev dd_J0_isLatin1_aae02 : mj_D := (cJ0_isLatin1_aae02, RJ0, 1, (some FieldType.boolean), 0, false)
abbrev dd_J0_checkIndex_df160 : mj_D := (cJ0_checkIndex_df160, RJ0, 2, none, 1, false)
abbrev dd_J1_charAt_3b067 : mj_D := (cJ1_charAt_3b067, RJ1, 2, (some FieldType.char), 2, false)
abbrev dd_J2_getChar_3b067 : mj_D := (cJ2_getChar_3b067, RJ2, 2, (some FieldType.char), 1, false)
abbrev dd_J2_length_9d52b : mj_D := (cJ2_length_9d52b, RJ2, 1, (some FieldType.int), 0, false)
abbrev dd_J2_charAt_3b067 : mj_D := (cJ2_charAt_3b067, RJ2, 2, (some FieldType.char), 3, false)
abbrev dd_J2_checkIndex_2214a : mj_D := (cJ2_checkIndex_2214a, RJ2, 2, none, 2, false)
abbrev dd_J7_fill_53178 : mj_D := (cJ7_fill_53178, RJ7, 4, none, 0, false)
abbrev dd_J3_checkIndex_8e157 : mj_D := (cJ3_checkIndex_8e157, RJ3, 3, (some FieldType.int), 0, false)
abbrev dd_L_law : mj_D := (cL_law, RL, 4, some .boolean, 11, false)
theorem yi_X10_init : mj_yI yX10_init dd_X10_init 0 := ⟨mem_T (i := 163) (by decide +kernel) rfl, mem_T (i := 139) (by decide +kernel) rfl, Nat.le_of_ble_eq_true rfl, ⟨⟨by decide, by decide⟩, by decide +kernel⟩, mem_T (i := 162) (by decide +kernel) rfl, rfl, rfl⟩
theorem yv_X10_about : mj_yV yX10_about dd_X10_about 10 1 := ⟨mem_T (i := 1401) (by decide +kernel) rfl, mem_T (i := 139) (by decide +kernel) rfl, Nat.le_of_ble_eq_true rfl, ⟨⟨by decide, by decide⟩, by decide +kernel⟩, mem_T (i := 1399) (by decide +kernel) rfl, mem_T (i := 1400) (by decide +kernel) rfl, ⟨_, rfl, rfl⟩⟩
theorem ys_X10_aboutCounts : mj_yS yX10_aboutCounts dd_X10_aboutCounts 2 := ⟨mem_T (i := 1406) (by decide +kernel) rfl, mem_T (i := 139) (by decide +kernel) rfl, Nat.le_of_ble_eq_true rfl, ⟨⟨by decide, by decide⟩, by decide +kernel⟩, mem_T (i := 1405) (by decide +kernel) rfl⟩
theorem yv_X10_alike : mj_yV yX10_alike dd_X10_alike 10 2 := ⟨mem_T (i := 1358) (by decide +kernel) rfl, mem_T (i := 139) (by decide +kernel) rfl, Nat.le_of_ble_eq_true rfl, ⟨⟨by decide, by decide⟩, by decide +kernel⟩, mem_T (i := 1356) (by decide +kernel) rfl, mem_T (i := 1357) (by decide +kernel) rfl, ⟨_, rfl, rfl⟩⟩
theorem yv_X10_appendBytes : mj_yV yX10_appendBytes dd_X10_appendBytes 10 1 := ⟨mem_T (i := 688) (by decide +kernel) rfl, mem_T (i := 139) (by decide +kernel) rfl, Nat.le_of_ble_eq_true rfl, ⟨⟨by decide, by decide⟩, by decide +kernel⟩, mem_T (i := 687) (by decide +kernel) rfl, mem_T (i := 1) (by decide +kernel) rfl, ⟨_, rfl, rfl⟩⟩
theorem yv_X10_back : mj_yV yX10_back dd_X10_back 10 1 := ⟨mem_T (i := 1397) (by decide +kernel) rfl, mem_T (i := 139) (by decide +kernel) rfl, Nat.le_of_ble_eq_true rfl, ⟨⟨by decide, by decide⟩, by decide +kernel⟩, mem_T (i := 1395) (by decide +kernel) rfl, mem_T (i := 1396) (by decide +kernel) rfl, ⟨_, rfl, rfl⟩⟩
theorem yv_X10_balance : mj_yV yX10_balance dd_X10_balance 10 0 := ⟨mem_T (i := 1252) (by decide +kernel) rfl, mem_T (i := 139) (by decide +kernel) rfl, Nat.le_of_ble_eq_true rfl, ⟨⟨by decide, by decide⟩, by decide +kernel⟩, mem_T (i := 1250) (by decide +kernel) rfl, mem_T (i := 1251) (by decide +kernel) rfl, ⟨_, rfl, rfl⟩⟩
theorem yv_X10_board : mj_yV yX10_board dd_X10_board 10 0 := ⟨mem_T (i := 696) (by decide +kernel) rfl, mem_T (i := 139) (by decide +kernel) rfl, Nat.le_of_ble_eq_true rfl, ⟨⟨by decide, by decide⟩, by decide +kernel⟩, mem_T (i := 694) (by decide +kernel) rfl, mem_T (i := 695) (by decide +kernel) rfl, ⟨_, rfl, rfl⟩⟩
theorem yv_X10_claim : mj_yV yX10_claim dd_X10_claim 10 1 := ⟨mem_T (i := 1136) (by decide +kernel) rfl, mem_T (i := 139) (by decide +kernel) rfl, Nat.le_of_ble_eq_true rfl, ⟨⟨by decide, by decide⟩, by decide +kernel⟩, mem_T (i := 1134) (by decide +kernel) rfl, mem_T (i := 1135) (by decide +kernel) rfl, ⟨_, rfl, rfl⟩⟩
theorem yv_X10_clear : mj_yV yX10_clear dd_X10_clear 10 2 := ⟨mem_T (i := 1261) (by decide +kernel) rfl, mem_T (i := 139) (by decide +kernel) rfl, Nat.le_of_ble_eq_true rfl, ⟨⟨by decide, by decide⟩, by decide +kernel⟩, mem_T (i := 1259) (by decide +kernel) rfl, mem_T (i := 1260) (by decide +kernel) rfl, ⟨_, rfl, rfl⟩⟩
theorem yv_X10_cpu : mj_yV yX10_cpu dd_X10_cpu 10 2 := ⟨mem_T (i := 1185) (by decide +kernel) rfl, mem_T (i := 139) (by decide +kernel) rfl, Nat.le_of_ble_eq_true rfl, ⟨⟨by decide, by decide⟩, by decide +kernel⟩, mem_T (i := 1183) (by decide +kernel) rfl, mem_T (i := 1184) (by decide +kernel) rfl, ⟨_, rfl, rfl⟩⟩
theorem ys_X10_cpuOf : mj_yS yX10_cpuOf dd_X10_cpuOf 1 := ⟨mem_T (i := 1222) (by decide +kernel) rfl, mem_T (i := 139) (by decide +kernel) rfl, Nat.le_of_ble_eq_true rfl, ⟨⟨by decide, by decide⟩, by decide +kernel⟩, mem_T (i := 1221) (by decide +kernel) rfl⟩
theorem yv_X10_device : mj_yV yX10_device dd_X10_device 10 2 := ⟨mem_T (i := 1213) (by decide +kernel) rfl, mem_T (i := 139) (by decide +kernel) rfl, Nat.le_of_ble_eq_true rfl, ⟨⟨by decide, by decide⟩, by decide +kernel⟩, mem_T (i := 1211) (by decide +kernel) rfl, mem_T (i := 1212) (by decide +kernel) rfl, ⟨_, rfl, rfl⟩⟩
theorem yv_X10_end : mj_yV yX10_end dd_X10_end 10 1 := ⟨mem_T (i := 692) (by decide +kernel) rfl, mem_T (i := 139) (by decide +kernel) rfl, Nat.le_of_ble_eq_true rfl, ⟨⟨by decide, by decide⟩, by decide +kernel⟩, mem_T (i := 690) (by decide +kernel) rfl, mem_T (i := 691) (by decide +kernel) rfl, ⟨_, rfl, rfl⟩⟩
theorem yv_X10_fault : mj_yV yX10_fault dd_X10_fault 10 1 := ⟨mem_T (i := 1111) (by decide +kernel) rfl, mem_T (i := 139) (by decide +kernel) rfl, Nat.le_of_ble_eq_true rfl, ⟨⟨by decide, by decide⟩, by decide +kernel⟩, mem_T (i := 1109) (by decide +kernel) rfl, mem_T (i := 1110) (by decide +kernel) rfl, ⟨_, rfl, rfl⟩⟩
theorem yv_X10_feed : mj_yV yX10_feed dd_X10_feed 10 5 := ⟨mem_T (i := 684) (by decide +kernel) rfl, mem_T (i := 139) (by decide +kernel) rfl, Nat.le_of_ble_eq_true rfl, ⟨⟨by decide, by decide⟩, by decide +kernel⟩, mem_T (i := 682) (by decide +kernel) rfl, mem_T (i := 683) (by decide +kernel) rfl, ⟨_, rfl, rfl⟩⟩
theorem yv_X10_image : mj_yV yX10_image dd_X10_image 10 1 := ⟨mem_T (i := 1388) (by decide +kernel) rfl, mem_T (i := 139) (by decide +kernel) rfl, Nat.le_of_ble_eq_true rfl, ⟨⟨by decide, by decide⟩, by decide +kernel⟩, mem_T (i := 1386) (by decide +kernel) rfl, mem_T (i := 1387) (by decide +kernel) rfl, ⟨_, rfl, rfl⟩⟩
theorem ys_X10_isGroupSize : mj_yS yX10_isGroupSize dd_X10_isGroupSize 1 := ⟨mem_T (i := 809) (by decide +kernel) rfl, mem_T (i := 139) (by decide +kernel) rfl, Nat.le_of_ble_eq_true rfl, ⟨⟨by decide, by decide⟩, by decide +kernel⟩, mem_T (i := 808) (by decide +kernel) rfl⟩
theorem yv_X10_keepIfAny : mj_yV yX10_keepIfAny dd_X10_keepIfAny 10 1 := ⟨mem_T (i := 1132) (by decide +kernel) rfl, mem_T (i := 139) (by decide +kernel) rfl, Nat.le_of_ble_eq_true rfl, ⟨⟨by decide, by decide⟩, by decide +kernel⟩, mem_T (i := 1131) (by decide +kernel) rfl, mem_T (i := 45) (by decide +kernel) rfl, ⟨_, rfl, rfl⟩⟩
theorem yv_X10_keepIfDone : mj_yV yX10_keepIfDone dd_X10_keepIfDone 10 1 := ⟨mem_T (i := 1124) (by decide +kernel) rfl, mem_T (i := 139) (by decide +kernel) rfl, Nat.le_of_ble_eq_true rfl, ⟨⟨by decide, by decide⟩, by decide +kernel⟩, mem_T (i := 1123) (by decide +kernel) rfl, mem_T (i := 44) (by decide +kernel) rfl, ⟨_, rfl, rfl⟩⟩
theorem yv_X10_law : mj_yV yX10_law dd_X10_law 10 0 := ⟨mem_T (i := 1367) (by decide +kernel) rfl, mem_T (i := 139) (by decide +kernel) rfl, Nat.le_of_ble_eq_true rfl, ⟨⟨by decide, by decide⟩, by decide +kernel⟩, mem_T (i := 1365) (by decide +kernel) rfl, mem_T (i := 1366) (by decide +kernel) rfl, ⟨_, rfl, rfl⟩⟩
theorem yv_X10_line : mj_yV yX10_line dd_X10_line 10 3 := ⟨mem_T (i := 1219) (by decide +kernel) rfl, mem_T (i := 139) (by decide +kernel) rfl, Nat.le_of_ble_eq_true rfl, ⟨⟨by decide, by decide⟩, by decide +kernel⟩, mem_T (i := 1217) (by decide +kernel) rfl, mem_T (i := 1218) (by decide +kernel) rfl, ⟨_, rfl, rfl⟩⟩
theorem yv_X10_log : mj_yV yX10_log dd_X10_log 10 2 := ⟨mem_T (i := 1330) (by decide +kernel) rfl, mem_T (i := 139) (by decide +kernel) rfl, Nat.le_of_ble_eq_true rfl, ⟨⟨by decide, by decide⟩, by decide +kernel⟩, mem_T (i := 1328) (by decide +kernel) rfl, mem_T (i := 1329) (by decide +kernel) rfl, ⟨_, rfl, rfl⟩⟩
theorem yv_X10_move : mj_yV yX10_move dd_X10_move 10 3 := ⟨mem_T (i := 1149) (by decide +kernel) rfl, mem_T (i := 139) (by decide +kernel) rfl, Nat.le_of_ble_eq_true rfl, ⟨⟨by decide, by decide⟩, by decide +kernel⟩, mem_T (i := 1147) (by decide +kernel) rfl, mem_T (i := 1148) (by decide +kernel) rfl, ⟨_, rfl, rfl⟩⟩
theorem yv_X10_nearest : mj_yV yX10_nearest dd_X10_nearest 10 0 := ⟨mem_T (i := 1320) (by decide +kernel) rfl, mem_T (i := 139) (by decide +kernel) rfl, Nat.le_of_ble_eq_true rfl, ⟨⟨by decide, by decide⟩, by decide +kernel⟩, mem_T (i := 1318) (by decide +kernel) rfl, mem_T (i := 1319) (by decide +kernel) rfl, ⟨_, rfl, rfl⟩⟩
theorem yv_X10_orders : mj_yV yX10_orders dd_X10_orders 10 0 := ⟨mem_T (i := 831) (by decide +kernel) rfl, mem_T (i := 139) (by decide +kernel) rfl, Nat.le_of_ble_eq_true rfl, ⟨⟨by decide, by decide⟩, by decide +kernel⟩, mem_T (i := 829) (by decide +kernel) rfl, mem_T (i := 830) (by decide +kernel) rfl, ⟨_, rfl, rfl⟩⟩
theorem yv_X10_perform : mj_yV yX10_perform dd_X10_perform 10 2 := ⟨mem_T (i := 891) (by decide +kernel) rfl, mem_T (i := 139) (by decide +kernel) rfl, Nat.le_of_ble_eq_true rfl, ⟨⟨by decide, by decide⟩, by decide +kernel⟩, mem_T (i := 890) (by decide +kernel) rfl, mem_T (i := 21) (by decide +kernel) rfl, ⟨_, rfl, rfl⟩⟩
theorem yv_X10_plug : mj_yV yX10_plug dd_X10_plug 10 1 := ⟨mem_T (i := 1161) (by decide +kernel) rfl, mem_T (i := 139) (by decide +kernel) rfl, Nat.le_of_ble_eq_true rfl, ⟨⟨by decide, by decide⟩, by decide +kernel⟩, mem_T (i := 1159) (by decide +kernel) rfl, mem_T (i := 1160) (by decide +kernel) rfl, ⟨_, rfl, rfl⟩⟩
theorem yv_X10_quiet : mj_yV yX10_quiet dd_X10_quiet 10 0 := ⟨mem_T (i := 1311) (by decide +kernel) rfl, mem_T (i := 139) (by decide +kernel) rfl, Nat.le_of_ble_eq_true rfl, ⟨⟨by decide, by decide⟩, by decide +kernel⟩, mem_T (i := 1309) (by decide +kernel) rfl, mem_T (i := 1310) (by decide +kernel) rfl, ⟨_, rfl, rfl⟩⟩
theorem yv_X10_raise : mj_yV yX10_raise dd_X10_raise 10 3 := ⟨mem_T (i := 1140) (by decide +kernel) rfl, mem_T (i := 139) (by decide +kernel) rfl, Nat.le_of_ble_eq_true rfl, ⟨⟨by decide, by decide⟩, by decide +kernel⟩, mem_T (i := 1138) (by decide +kernel) rfl, mem_T (i := 1139) (by decide +kernel) rfl, ⟨_, rfl, rfl⟩⟩
theorem yv_X10_redo : mj_yV yX10_redo dd_X10_redo 10 0 := ⟨mem_T (i := 1177) (by decide +kernel) rfl, mem_T (i := 139) (by decide +kernel) rfl, Nat.le_of_ble_eq_true rfl, ⟨⟨by decide, by decide⟩, by decide +kernel⟩, mem_T (i := 1175) (by decide +kernel) rfl, mem_T (i := 1176) (by decide +kernel) rfl, ⟨_, rfl, rfl⟩⟩
theorem yv_X10_refused : mj_yV yX10_refused dd_X10_refused 10 0 := ⟨mem_T (i := 1115) (by decide +kernel) rfl, mem_T (i := 139) (by decide +kernel) rfl, Nat.le_of_ble_eq_true rfl, ⟨⟨by decide, by decide⟩, by decide +kernel⟩, mem_T (i := 1113) (by decide +kernel) rfl, mem_T (i := 1114) (by decide +kernel) rfl, ⟨_, rfl, rfl⟩⟩
theorem yv_X10_room : mj_yV yX10_room dd_X10_room 10 1 := ⟨mem_T (i := 1234) (by decide +kernel) rfl, mem_T (i := 139) (by decide +kernel) rfl, Nat.le_of_ble_eq_true rfl, ⟨⟨by decide, by decide⟩, by decide +kernel⟩, mem_T (i := 1232) (by decide +kernel) rfl, mem_T (i := 1233) (by decide +kernel) rfl, ⟨_, rfl, rfl⟩⟩
theorem yv_X10_spread : mj_yV yX10_spread dd_X10_spread 10 2 := ⟨mem_T (i := 1229) (by decide +kernel) rfl, mem_T (i := 139) (by decide +kernel) rfl, Nat.le_of_ble_eq_true rfl, ⟨⟨by decide, by decide⟩, by decide +kernel⟩, mem_T (i := 1227) (by decide +kernel) rfl, mem_T (i := 1228) (by decide +kernel) rfl, ⟨_, rfl, rfl⟩⟩
theorem yv_X10_start : mj_yV yX10_start dd_X10_start 10 1 := ⟨mem_T (i := 1119) (by decide +kernel) rfl, mem_T (i := 139) (by decide +kernel) rfl, Nat.le_of_ble_eq_true rfl, ⟨⟨by decide, by decide⟩, by decide +kernel⟩, mem_T (i := 1117) (by decide +kernel) rfl, mem_T (i := 1118) (by decide +kernel) rfl, ⟨_, rfl, rfl⟩⟩
theorem yv_X10_stop : mj_yV yX10_stop dd_X10_stop 10 1 := ⟨mem_T (i := 1128) (by decide +kernel) rfl, mem_T (i := 139) (by decide +kernel) rfl, Nat.le_of_ble_eq_true rfl, ⟨⟨by decide, by decide⟩, by decide +kernel⟩, mem_T (i := 1126) (by decide +kernel) rfl, mem_T (i := 1127) (by decide +kernel) rfl, ⟨_, rfl, rfl⟩⟩
theorem yv_X10_storm : mj_yV yX10_storm dd_X10_storm 10 3 := ⟨mem_T (i := 1282) (by decide +kernel) rfl, mem_T (i := 139) (by decide +kernel) rfl, Nat.le_of_ble_eq_true rfl, ⟨⟨by decide, by decide⟩, by decide +kernel⟩, mem_T (i := 1280) (by decide +kernel) rfl, mem_T (i := 1281) (by decide +kernel) rfl, ⟨_, rfl, rfl⟩⟩
theorem yv_X10_tick : mj_yV yX10_tick dd_X10_tick 10 1 := ⟨mem_T (i := 1145) (by decide +kernel) rfl, mem_T (i := 139) (by decide +kernel) rfl, Nat.le_of_ble_eq_true rfl, ⟨⟨by decide, by decide⟩, by decide +kernel⟩, mem_T (i := 1143) (by decide +kernel) rfl, mem_T (i := 1144) (by decide +kernel) rfl, ⟨_, rfl, rfl⟩⟩
theorem yv_X10_undo : mj_yV yX10_undo dd_X10_undo 10 0 := ⟨mem_T (i := 1165) (by decide +kernel) rfl, mem_T (i := 139) (by decide +kernel) rfl, Nat.le_of_ble_eq_true rfl, ⟨⟨by decide, by decide⟩, by decide +kernel⟩, mem_T (i := 1163) (by decide +kernel) rfl, mem_T (i := 1164) (by decide +kernel) rfl, ⟨_, rfl, rfl⟩⟩
theorem yv_X10_unplug : mj_yV yX10_unplug dd_X10_unplug 10 1 := ⟨mem_T (i := 1153) (by decide +kernel) rfl, mem_T (i := 139) (by decide +kernel) rfl, Nat.le_of_ble_eq_true rfl, ⟨⟨by decide, by decide⟩, by decide +kernel⟩, mem_T (i := 1151) (by decide +kernel) rfl, mem_T (i := 1152) (by decide +kernel) rfl, ⟨_, rfl, rfl⟩⟩
theorem yv_X10_vector : mj_yV yX10_vector dd_X10_vector 10 3 := ⟨mem_T (i := 1200) (by decide +kernel) rfl, mem_T (i := 139) (by decide +kernel) rfl, Nat.le_of_ble_eq_true rfl, ⟨⟨by decide, by decide⟩, by decide +kernel⟩, mem_T (i := 1198) (by decide +kernel) rfl, mem_T (i := 1199) (by decide +kernel) rfl, ⟨_, rfl, rfl⟩⟩
theorem ys_X10_vectorOf : mj_yS yX10_vectorOf dd_X10_vectorOf 1 := ⟨mem_T (i := 1225) (by decide +kernel) rfl, mem_T (i := 139) (by decide +kernel) rfl, Nat.le_of_ble_eq_true rfl, ⟨⟨by decide, by decide⟩, by decide +kernel⟩, mem_T (i := 1224) (by decide +kernel) rfl⟩
theorem yv_X10_without : mj_yV yX10_without dd_X10_without 10 2 := ⟨mem_T (i := 1278) (by decide +kernel) rfl, mem_T (i := 139) (by decide +kernel) rfl, Nat.le_of_ble_eq_true rfl, ⟨⟨by decide, by decide⟩, by decide +kernel⟩, mem_T (i := 1276) (by decide +kernel) rfl, mem_T (i := 1277) (by decide +kernel) rfl, ⟨_, rfl, rfl⟩⟩
theorem yi_X0_init : mj_yI yX0_init dd_X0_init 0 := ⟨mem_T (i := 173) (by decide +kernel) rfl, mem_T (i := 140) (by decide +kernel) rfl, Nat.le_of_ble_eq_true rfl, ⟨⟨by decide, by decide⟩, by decide +kernel⟩, mem_T (i := 172) (by decide +kernel) rfl, rfl, rfl⟩
theorem yv_X0_allCpus : mj_yV yX0_allCpus dd_X0_allCpus 0 0 := ⟨mem_T (i := 531) (by decide +kernel) rfl, mem_T (i := 140) (by decide +kernel) rfl, Nat.le_of_ble_eq_true rfl, ⟨⟨by decide, by decide⟩, by decide +kernel⟩, mem_T (i := 529) (by decide +kernel) rfl, mem_T (i := 530) (by decide +kernel) rfl, ⟨_, rfl, rfl⟩⟩
theorem yv_X0_allVectors : mj_yV yX0_allVectors dd_X0_allVectors 0 0 := ⟨mem_T (i := 524) (by decide +kernel) rfl, mem_T (i := 140) (by decide +kernel) rfl, Nat.le_of_ble_eq_true rfl, ⟨⟨by decide, by decide⟩, by decide +kernel⟩, mem_T (i := 522) (by decide +kernel) rfl, mem_T (i := 523) (by decide +kernel) rfl, ⟨_, rfl, rfl⟩⟩
theorem yv_X0_beginsLike : mj_yV yX0_beginsLike dd_X0_beginsLike 0 3 := ⟨mem_T (i := 1362) (by decide +kernel) rfl, mem_T (i := 140) (by decide +kernel) rfl, Nat.le_of_ble_eq_true rfl, ⟨⟨by decide, by decide⟩, by decide +kernel⟩, mem_T (i := 1360) (by decide +kernel) rfl, mem_T (i := 1361) (by decide +kernel) rfl, ⟨_, rfl, rfl⟩⟩
theorem yv_X0_copyFrom : mj_yV yX0_copyFrom dd_X0_copyFrom 0 1 := ⟨mem_T (i := 819) (by decide +kernel) rfl, mem_T (i := 140) (by decide +kernel) rfl, Nat.le_of_ble_eq_true rfl, ⟨⟨by decide, by decide⟩, by decide +kernel⟩, mem_T (i := 817) (by decide +kernel) rfl, mem_T (i := 818) (by decide +kernel) rfl, ⟨_, rfl, rfl⟩⟩
theorem yv_X0_deviceNamed : mj_yV yX0_deviceNamed dd_X0_deviceNamed 0 1 := ⟨mem_T (i := 798) (by decide +kernel) rfl, mem_T (i := 140) (by decide +kernel) rfl, Nat.le_of_ble_eq_true rfl, ⟨⟨by decide, by decide⟩, by decide +kernel⟩, mem_T (i := 796) (by decide +kernel) rfl, mem_T (i := 797) (by decide +kernel) rfl, ⟨_, rfl, rfl⟩⟩
theorem yv_X0_empty : mj_yV yX0_empty dd_X0_empty 0 0 := ⟨mem_T (i := 178) (by decide +kernel) rfl, mem_T (i := 140) (by decide +kernel) rfl, Nat.le_of_ble_eq_true rfl, ⟨⟨by decide, by decide⟩, by decide +kernel⟩, mem_T (i := 176) (by decide +kernel) rfl, mem_T (i := 177) (by decide +kernel) rfl, ⟨_, rfl, rfl⟩⟩
theorem yv_X0_hasCpu : mj_yV yX0_hasCpu dd_X0_hasCpu 0 1 := ⟨mem_T (i := 1157) (by decide +kernel) rfl, mem_T (i := 140) (by decide +kernel) rfl, Nat.le_of_ble_eq_true rfl, ⟨⟨by decide, by decide⟩, by decide +kernel⟩, mem_T (i := 1155) (by decide +kernel) rfl, mem_T (i := 1156) (by decide +kernel) rfl, ⟨_, rfl, rfl⟩⟩
theorem yv_X0_hasDevice : mj_yV yX0_hasDevice dd_X0_hasDevice 0 1 := ⟨mem_T (i := 1018) (by decide +kernel) rfl, mem_T (i := 140) (by decide +kernel) rfl, Nat.le_of_ble_eq_true rfl, ⟨⟨by decide, by decide⟩, by decide +kernel⟩, mem_T (i := 1016) (by decide +kernel) rfl, mem_T (i := 1017) (by decide +kernel) rfl, ⟨_, rfl, rfl⟩⟩
theorem yv_X0_hasLine : mj_yV yX0_hasLine dd_X0_hasLine 0 2 := ⟨mem_T (i := 1014) (by decide +kernel) rfl, mem_T (i := 140) (by decide +kernel) rfl, Nat.le_of_ble_eq_true rfl, ⟨⟨by decide, by decide⟩, by decide +kernel⟩, mem_T (i := 1012) (by decide +kernel) rfl, mem_T (i := 1013) (by decide +kernel) rfl, ⟨_, rfl, rfl⟩⟩
theorem yv_X0_hasVector : mj_yV yX0_hasVector dd_X0_hasVector 0 1 := ⟨mem_T (i := 1204) (by decide +kernel) rfl, mem_T (i := 140) (by decide +kernel) rfl, Nat.le_of_ble_eq_true rfl, ⟨⟨by decide, by decide⟩, by decide +kernel⟩, mem_T (i := 1202) (by decide +kernel) rfl, mem_T (i := 1203) (by decide +kernel) rfl, ⟨_, rfl, rfl⟩⟩
theorem yv_X0_queueCpus : mj_yV yX0_queueCpus dd_X0_queueCpus 0 2 := ⟨mem_T (i := 915) (by decide +kernel) rfl, mem_T (i := 140) (by decide +kernel) rfl, Nat.le_of_ble_eq_true rfl, ⟨⟨by decide, by decide⟩, by decide +kernel⟩, mem_T (i := 913) (by decide +kernel) rfl, mem_T (i := 914) (by decide +kernel) rfl, ⟨_, rfl, rfl⟩⟩
theorem yi_X1_init : mj_yI yX1_init dd_X1_init 1 := ⟨mem_T (i := 378) (by decide +kernel) rfl, mem_T (i := 146) (by decide +kernel) rfl, Nat.le_of_ble_eq_true rfl, ⟨⟨by decide, by decide⟩, by decide +kernel⟩, mem_T (i := 377) (by decide +kernel) rfl, rfl, rfl⟩
theorem yv_X1_read : mj_yV yX1_read dd_X1_read 1 0 := ⟨mem_T (i := 739) (by decide +kernel) rfl, mem_T (i := 146) (by decide +kernel) rfl, Nat.le_of_ble_eq_true rfl, ⟨⟨by decide, by decide⟩, by decide +kernel⟩, mem_T (i := 737) (by decide +kernel) rfl, mem_T (i := 738) (by decide +kernel) rfl, ⟨_, rfl, rfl⟩⟩
theorem yv_X1_readCpus : mj_yV yX1_readCpus dd_X1_readCpus 1 0 := ⟨mem_T (i := 748) (by decide +kernel) rfl, mem_T (i := 146) (by decide +kernel) rfl, Nat.le_of_ble_eq_true rfl, ⟨⟨by decide, by decide⟩, by decide +kernel⟩, mem_T (i := 747) (by decide +kernel) rfl, mem_T (i := 7) (by decide +kernel) rfl, ⟨_, rfl, rfl⟩⟩
theorem yv_X1_readDevice : mj_yV yX1_readDevice dd_X1_readDevice 1 0 := ⟨mem_T (i := 790) (by decide +kernel) rfl, mem_T (i := 146) (by decide +kernel) rfl, Nat.le_of_ble_eq_true rfl, ⟨⟨by decide, by decide⟩, by decide +kernel⟩, mem_T (i := 789) (by decide +kernel) rfl, mem_T (i := 12) (by decide +kernel) rfl, ⟨_, rfl, rfl⟩⟩
theorem yv_X1_readKept : mj_yV yX1_readKept dd_X1_readKept 1 0 := ⟨mem_T (i := 778) (by decide +kernel) rfl, mem_T (i := 146) (by decide +kernel) rfl, Nat.le_of_ble_eq_true rfl, ⟨⟨by decide, by decide⟩, by decide +kernel⟩, mem_T (i := 777) (by decide +kernel) rfl, mem_T (i := 10) (by decide +kernel) rfl, ⟨_, rfl, rfl⟩⟩
theorem yv_X1_readLine : mj_yV yX1_readLine dd_X1_readLine 1 0 := ⟨mem_T (i := 744) (by decide +kernel) rfl, mem_T (i := 146) (by decide +kernel) rfl, Nat.le_of_ble_eq_true rfl, ⟨⟨by decide, by decide⟩, by decide +kernel⟩, mem_T (i := 743) (by decide +kernel) rfl, mem_T (i := 6) (by decide +kernel) rfl, ⟨_, rfl, rfl⟩⟩
theorem yv_X1_readLines : mj_yV yX1_readLines dd_X1_readLines 1 1 := ⟨mem_T (i := 806) (by decide +kernel) rfl, mem_T (i := 146) (by decide +kernel) rfl, Nat.le_of_ble_eq_true rfl, ⟨⟨by decide, by decide⟩, by decide +kernel⟩, mem_T (i := 805) (by decide +kernel) rfl, mem_T (i := 14) (by decide +kernel) rfl, ⟨_, rfl, rfl⟩⟩
theorem yv_X1_readOff : mj_yV yX1_readOff dd_X1_readOff 1 0 := ⟨mem_T (i := 786) (by decide +kernel) rfl, mem_T (i := 146) (by decide +kernel) rfl, Nat.le_of_ble_eq_true rfl, ⟨⟨by decide, by decide⟩, by decide +kernel⟩, mem_T (i := 785) (by decide +kernel) rfl, mem_T (i := 11) (by decide +kernel) rfl, ⟨_, rfl, rfl⟩⟩
theorem yv_X1_readOn : mj_yV yX1_readOn dd_X1_readOn 1 1 := ⟨mem_T (i := 814) (by decide +kernel) rfl, mem_T (i := 146) (by decide +kernel) rfl, Nat.le_of_ble_eq_true rfl, ⟨⟨by decide, by decide⟩, by decide +kernel⟩, mem_T (i := 813) (by decide +kernel) rfl, mem_T (i := 15) (by decide +kernel) rfl, ⟨_, rfl, rfl⟩⟩
theorem yv_X1_readSize : mj_yV yX1_readSize dd_X1_readSize 1 3 := ⟨mem_T (i := 752) (by decide +kernel) rfl, mem_T (i := 146) (by decide +kernel) rfl, Nat.le_of_ble_eq_true rfl, ⟨⟨by decide, by decide⟩, by decide +kernel⟩, mem_T (i := 751) (by decide +kernel) rfl, mem_T (i := 8) (by decide +kernel) rfl, ⟨_, rfl, rfl⟩⟩
theorem yv_X1_readVectors : mj_yV yX1_readVectors dd_X1_readVectors 1 0 := ⟨mem_T (i := 774) (by decide +kernel) rfl, mem_T (i := 146) (by decide +kernel) rfl, Nat.le_of_ble_eq_true rfl, ⟨⟨by decide, by decide⟩, by decide +kernel⟩, mem_T (i := 773) (by decide +kernel) rfl, mem_T (i := 9) (by decide +kernel) rfl, ⟨_, rfl, rfl⟩⟩
theorem yv_X1_readWants : mj_yV yX1_readWants dd_X1_readWants 1 1 := ⟨mem_T (i := 802) (by decide +kernel) rfl, mem_T (i := 146) (by decide +kernel) rfl, Nat.le_of_ble_eq_true rfl, ⟨⟨by decide, by decide⟩, by decide +kernel⟩, mem_T (i := 801) (by decide +kernel) rfl, mem_T (i := 13) (by decide +kernel) rfl, ⟨_, rfl, rfl⟩⟩
theorem yi_X2_init : mj_yI yX2_init dd_X2_init 1 := ⟨mem_T (i := 436) (by decide +kernel) rfl, mem_T (i := 148) (by decide +kernel) rfl, Nat.le_of_ble_eq_true rfl, ⟨⟨by decide, by decide⟩, by decide +kernel⟩, mem_T (i := 435) (by decide +kernel) rfl, rfl, rfl⟩
theorem yv_X2_doAgain : mj_yV yX2_doAgain dd_X2_doAgain 2 0 := ⟨mem_T (i := 1181) (by decide +kernel) rfl, mem_T (i := 148) (by decide +kernel) rfl, Nat.le_of_ble_eq_true rfl, ⟨⟨by decide, by decide⟩, by decide +kernel⟩, mem_T (i := 1179) (by decide +kernel) rfl, mem_T (i := 1180) (by decide +kernel) rfl, ⟨_, rfl, rfl⟩⟩
theorem yv_X2_draft : mj_yV yX2_draft dd_X2_draft 2 0 := ⟨mem_T (i := 871) (by decide +kernel) rfl, mem_T (i := 148) (by decide +kernel) rfl, Nat.le_of_ble_eq_true rfl, ⟨⟨by decide, by decide⟩, by decide +kernel⟩, mem_T (i := 869) (by decide +kernel) rfl, mem_T (i := 870) (by decide +kernel) rfl, ⟨_, rfl, rfl⟩⟩
theorem yv_X2_exchange : mj_yV yX2_exchange dd_X2_exchange 2 1 := ⟨mem_T (i := 1173) (by decide +kernel) rfl, mem_T (i := 148) (by decide +kernel) rfl, Nat.le_of_ble_eq_true rfl, ⟨⟨by decide, by decide⟩, by decide +kernel⟩, mem_T (i := 1172) (by decide +kernel) rfl, mem_T (i := 46) (by decide +kernel) rfl, ⟨_, rfl, rfl⟩⟩
theorem yv_X2_forget : mj_yV yX2_forget dd_X2_forget 2 0 := ⟨mem_T (i := 827) (by decide +kernel) rfl, mem_T (i := 148) (by decide +kernel) rfl, Nat.le_of_ble_eq_true rfl, ⟨⟨by decide, by decide⟩, by decide +kernel⟩, mem_T (i := 825) (by decide +kernel) rfl, mem_T (i := 826) (by decide +kernel) rfl, ⟨_, rfl, rfl⟩⟩
theorem yv_X2_keep : mj_yV yX2_keep dd_X2_keep 2 0 := ⟨mem_T (i := 1107) (by decide +kernel) rfl, mem_T (i := 148) (by decide +kernel) rfl, Nat.le_of_ble_eq_true rfl, ⟨⟨by decide, by decide⟩, by decide +kernel⟩, mem_T (i := 1105) (by decide +kernel) rfl, mem_T (i := 1106) (by decide +kernel) rfl, ⟨_, rfl, rfl⟩⟩
theorem yv_X2_takeBack : mj_yV yX2_takeBack dd_X2_takeBack 2 0 := ⟨mem_T (i := 1169) (by decide +kernel) rfl, mem_T (i := 148) (by decide +kernel) rfl, Nat.le_of_ble_eq_true rfl, ⟨⟨by decide, by decide⟩, by decide +kernel⟩, mem_T (i := 1167) (by decide +kernel) rfl, mem_T (i := 1168) (by decide +kernel) rfl, ⟨_, rfl, rfl⟩⟩
theorem yi_X3_init : mj_yI yX3_init dd_X3_init 2 := ⟨mem_T (i := 403) (by decide +kernel) rfl, mem_T (i := 147) (by decide +kernel) rfl, Nat.le_of_ble_eq_true rfl, ⟨⟨by decide, by decide⟩, by decide +kernel⟩, mem_T (i := 402) (by decide +kernel) rfl, rfl, rfl⟩
theorem yv_X3_read : mj_yV yX3_read dd_X3_read 3 0 := ⟨mem_T (i := 835) (by decide +kernel) rfl, mem_T (i := 147) (by decide +kernel) rfl, Nat.le_of_ble_eq_true rfl, ⟨⟨by decide, by decide⟩, by decide +kernel⟩, mem_T (i := 833) (by decide +kernel) rfl, mem_T (i := 834) (by decide +kernel) rfl, ⟨_, rfl, rfl⟩⟩
theorem yv_X3_readName : mj_yV yX3_readName dd_X3_readName 3 1 := ⟨mem_T (i := 847) (by decide +kernel) rfl, mem_T (i := 147) (by decide +kernel) rfl, Nat.le_of_ble_eq_true rfl, ⟨⟨by decide, by decide⟩, by decide +kernel⟩, mem_T (i := 846) (by decide +kernel) rfl, mem_T (i := 18) (by decide +kernel) rfl, ⟨_, rfl, rfl⟩⟩
theorem yv_X3_readNumber : mj_yV yX3_readNumber dd_X3_readNumber 3 3 := ⟨mem_T (i := 855) (by decide +kernel) rfl, mem_T (i := 147) (by decide +kernel) rfl, Nat.le_of_ble_eq_true rfl, ⟨⟨by decide, by decide⟩, by decide +kernel⟩, mem_T (i := 854) (by decide +kernel) rfl, mem_T (i := 19) (by decide +kernel) rfl, ⟨_, rfl, rfl⟩⟩
theorem yv_X3_readOrder : mj_yV yX3_readOrder dd_X3_readOrder 3 1 := ⟨mem_T (i := 839) (by decide +kernel) rfl, mem_T (i := 147) (by decide +kernel) rfl, Nat.le_of_ble_eq_true rfl, ⟨⟨by decide, by decide⟩, by decide +kernel⟩, mem_T (i := 838) (by decide +kernel) rfl, mem_T (i := 16) (by decide +kernel) rfl, ⟨_, rfl, rfl⟩⟩
theorem yv_X3_readRest : mj_yV yX3_readRest dd_X3_readRest 3 1 := ⟨mem_T (i := 843) (by decide +kernel) rfl, mem_T (i := 147) (by decide +kernel) rfl, Nat.le_of_ble_eq_true rfl, ⟨⟨by decide, by decide⟩, by decide +kernel⟩, mem_T (i := 842) (by decide +kernel) rfl, mem_T (i := 17) (by decide +kernel) rfl, ⟨_, rfl, rfl⟩⟩
theorem yv_X3_readTo : mj_yV yX3_readTo dd_X3_readTo 3 1 := ⟨mem_T (i := 860) (by decide +kernel) rfl, mem_T (i := 147) (by decide +kernel) rfl, Nat.le_of_ble_eq_true rfl, ⟨⟨by decide, by decide⟩, by decide +kernel⟩, mem_T (i := 859) (by decide +kernel) rfl, mem_T (i := 20) (by decide +kernel) rfl, ⟨_, rfl, rfl⟩⟩
theorem yi_X4_init : mj_yI yX4_init dd_X4_init 1 := ⟨mem_T (i := 484) (by decide +kernel) rfl, mem_T (i := 151) (by decide +kernel) rfl, Nat.le_of_ble_eq_true rfl, ⟨⟨by decide, by decide⟩, by decide +kernel⟩, mem_T (i := 483) (by decide +kernel) rfl, rfl, rfl⟩
theorem yv_X4_copyFrom : mj_yV yX4_copyFrom dd_X4_copyFrom 4 1 := ⟨mem_T (i := 879) (by decide +kernel) rfl, mem_T (i := 151) (by decide +kernel) rfl, Nat.le_of_ble_eq_true rfl, ⟨⟨by decide, by decide⟩, by decide +kernel⟩, mem_T (i := 877) (by decide +kernel) rfl, mem_T (i := 878) (by decide +kernel) rfl, ⟨_, rfl, rfl⟩⟩
theorem yv_X4_countBlocks : mj_yV yX4_countBlocks dd_X4_countBlocks 4 2 := ⟨mem_T (i := 1244) (by decide +kernel) rfl, mem_T (i := 151) (by decide +kernel) rfl, Nat.le_of_ble_eq_true rfl, ⟨⟨by decide, by decide⟩, by decide +kernel⟩, mem_T (i := 1242) (by decide +kernel) rfl, mem_T (i := 1243) (by decide +kernel) rfl, ⟨_, rfl, rfl⟩⟩
theorem yv_X4_deal : mj_yV yX4_deal dd_X4_deal 4 2 := ⟨mem_T (i := 988) (by decide +kernel) rfl, mem_T (i := 151) (by decide +kernel) rfl, Nat.le_of_ble_eq_true rfl, ⟨⟨by decide, by decide⟩, by decide +kernel⟩, mem_T (i := 986) (by decide +kernel) rfl, mem_T (i := 987) (by decide +kernel) rfl, ⟨_, rfl, rfl⟩⟩
theorem yv_X4_empty : mj_yV yX4_empty dd_X4_empty 4 0 := ⟨mem_T (i := 520) (by decide +kernel) rfl, mem_T (i := 151) (by decide +kernel) rfl, Nat.le_of_ble_eq_true rfl, ⟨⟨by decide, by decide⟩, by decide +kernel⟩, mem_T (i := 518) (by decide +kernel) rfl, mem_T (i := 519) (by decide +kernel) rfl, ⟨_, rfl, rfl⟩⟩
theorem yv_X4_firstBlock : mj_yV yX4_firstBlock dd_X4_firstBlock 4 2 := ⟨mem_T (i := 952) (by decide +kernel) rfl, mem_T (i := 151) (by decide +kernel) rfl, Nat.le_of_ble_eq_true rfl, ⟨⟨by decide, by decide⟩, by decide +kernel⟩, mem_T (i := 950) (by decide +kernel) rfl, mem_T (i := 951) (by decide +kernel) rfl, ⟨_, rfl, rfl⟩⟩
theorem yv_X4_freeOnline : mj_yV yX4_freeOnline dd_X4_freeOnline 4 0 := ⟨mem_T (i := 934) (by decide +kernel) rfl, mem_T (i := 151) (by decide +kernel) rfl, Nat.le_of_ble_eq_true rfl, ⟨⟨by decide, by decide⟩, by decide +kernel⟩, mem_T (i := 932) (by decide +kernel) rfl, mem_T (i := 933) (by decide +kernel) rfl, ⟨_, rfl, rfl⟩⟩
theorem yv_X4_greatestBlock : mj_yV yX4_greatestBlock dd_X4_greatestBlock 4 1 := ⟨mem_T (i := 1196) (by decide +kernel) rfl, mem_T (i := 151) (by decide +kernel) rfl, Nat.le_of_ble_eq_true rfl, ⟨⟨by decide, by decide⟩, by decide +kernel⟩, mem_T (i := 1194) (by decide +kernel) rfl, mem_T (i := 1195) (by decide +kernel) rfl, ⟨_, rfl, rfl⟩⟩
theorem yv_X4_greatestPending : mj_yV yX4_greatestPending dd_X4_greatestPending 4 1 := ⟨mem_T (i := 1051) (by decide +kernel) rfl, mem_T (i := 151) (by decide +kernel) rfl, Nat.le_of_ble_eq_true rfl, ⟨⟨by decide, by decide⟩, by decide +kernel⟩, mem_T (i := 1049) (by decide +kernel) rfl, mem_T (i := 1050) (by decide +kernel) rfl, ⟨_, rfl, rfl⟩⟩
theorem yv_X4_howMany : mj_yV yX4_howMany dd_X4_howMany 4 2 := ⟨mem_T (i := 925) (by decide +kernel) rfl, mem_T (i := 151) (by decide +kernel) rfl, Nat.le_of_ble_eq_true rfl, ⟨⟨by decide, by decide⟩, by decide +kernel⟩, mem_T (i := 923) (by decide +kernel) rfl, mem_T (i := 924) (by decide +kernel) rfl, ⟨_, rfl, rfl⟩⟩
theorem yv_X4_isFreeBlock : mj_yV yX4_isFreeBlock dd_X4_isFreeBlock 4 3 := ⟨mem_T (i := 956) (by decide +kernel) rfl, mem_T (i := 151) (by decide +kernel) rfl, Nat.le_of_ble_eq_true rfl, ⟨⟨by decide, by decide⟩, by decide +kernel⟩, mem_T (i := 955) (by decide +kernel) rfl, mem_T (i := 26) (by decide +kernel) rfl, ⟨_, rfl, rfl⟩⟩
theorem yv_X4_isOnline : mj_yV yX4_isOnline dd_X4_isOnline 4 1 := ⟨mem_T (i := 930) (by decide +kernel) rfl, mem_T (i := 151) (by decide +kernel) rfl, Nat.le_of_ble_eq_true rfl, ⟨⟨by decide, by decide⟩, by decide +kernel⟩, mem_T (i := 928) (by decide +kernel) rfl, mem_T (i := 929) (by decide +kernel) rfl, ⟨_, rfl, rfl⟩⟩
theorem yv_X4_isPending : mj_yV yX4_isPending dd_X4_isPending 4 1 := ⟨mem_T (i := 1002) (by decide +kernel) rfl, mem_T (i := 151) (by decide +kernel) rfl, Nat.le_of_ble_eq_true rfl, ⟨⟨by decide, by decide⟩, by decide +kernel⟩, mem_T (i := 1000) (by decide +kernel) rfl, mem_T (i := 1001) (by decide +kernel) rfl, ⟨_, rfl, rfl⟩⟩
theorem yv_X4_kindAt : mj_yV yX4_kindAt dd_X4_kindAt 4 1 := ⟨mem_T (i := 1208) (by decide +kernel) rfl, mem_T (i := 151) (by decide +kernel) rfl, Nat.le_of_ble_eq_true rfl, ⟨⟨by decide, by decide⟩, by decide +kernel⟩, mem_T (i := 1206) (by decide +kernel) rfl, mem_T (i := 1207) (by decide +kernel) rfl, ⟨_, rfl, rfl⟩⟩
theorem yv_X4_leastLoaded : mj_yV yX4_leastLoaded dd_X4_leastLoaded 4 1 := ⟨mem_T (i := 969) (by decide +kernel) rfl, mem_T (i := 151) (by decide +kernel) rfl, Nat.le_of_ble_eq_true rfl, ⟨⟨by decide, by decide⟩, by decide +kernel⟩, mem_T (i := 967) (by decide +kernel) rfl, mem_T (i := 968) (by decide +kernel) rfl, ⟨_, rfl, rfl⟩⟩
theorem yv_X4_loadOf : mj_yV yX4_loadOf dd_X4_loadOf 4 1 := ⟨mem_T (i := 1189) (by decide +kernel) rfl, mem_T (i := 151) (by decide +kernel) rfl, Nat.le_of_ble_eq_true rfl, ⟨⟨by decide, by decide⟩, by decide +kernel⟩, mem_T (i := 1187) (by decide +kernel) rfl, mem_T (i := 1188) (by decide +kernel) rfl, ⟨_, rfl, rfl⟩⟩
theorem yv_X4_pend : mj_yV yX4_pend dd_X4_pend 4 1 := ⟨mem_T (i := 1027) (by decide +kernel) rfl, mem_T (i := 151) (by decide +kernel) rfl, Nat.le_of_ble_eq_true rfl, ⟨⟨by decide, by decide⟩, by decide +kernel⟩, mem_T (i := 1025) (by decide +kernel) rfl, mem_T (i := 1026) (by decide +kernel) rfl, ⟨_, rfl, rfl⟩⟩
theorem yv_X4_put : mj_yV yX4_put dd_X4_put 4 3 := ⟨mem_T (i := 960) (by decide +kernel) rfl, mem_T (i := 151) (by decide +kernel) rfl, Nat.le_of_ble_eq_true rfl, ⟨⟨by decide, by decide⟩, by decide +kernel⟩, mem_T (i := 958) (by decide +kernel) rfl, mem_T (i := 959) (by decide +kernel) rfl, ⟨_, rfl, rfl⟩⟩
theorem yv_X4_reservedPlace : mj_yV yX4_reservedPlace dd_X4_reservedPlace 4 2 := ⟨mem_T (i := 976) (by decide +kernel) rfl, mem_T (i := 151) (by decide +kernel) rfl, Nat.le_of_ble_eq_true rfl, ⟨⟨by decide, by decide⟩, by decide +kernel⟩, mem_T (i := 974) (by decide +kernel) rfl, mem_T (i := 975) (by decide +kernel) rfl, ⟨_, rfl, rfl⟩⟩
theorem yv_X4_unpend : mj_yV yX4_unpend dd_X4_unpend 4 1 := ⟨mem_T (i := 998) (by decide +kernel) rfl, mem_T (i := 151) (by decide +kernel) rfl, Nat.le_of_ble_eq_true rfl, ⟨⟨by decide, by decide⟩, by decide +kernel⟩, mem_T (i := 996) (by decide +kernel) rfl, mem_T (i := 997) (by decide +kernel) rfl, ⟨_, rfl, rfl⟩⟩
theorem yi_X5_init : mj_yI yX5_init dd_X5_init 1 := ⟨mem_T (i := 442) (by decide +kernel) rfl, mem_T (i := 149) (by decide +kernel) rfl, Nat.le_of_ble_eq_true rfl, ⟨⟨by decide, by decide⟩, by decide +kernel⟩, mem_T (i := 441) (by decide +kernel) rfl, rfl, rfl⟩
theorem yv_X5_begin : mj_yV yX5_begin dd_X5_begin 5 1 := ⟨mem_T (i := 895) (by decide +kernel) rfl, mem_T (i := 149) (by decide +kernel) rfl, Nat.le_of_ble_eq_true rfl, ⟨⟨by decide, by decide⟩, by decide +kernel⟩, mem_T (i := 893) (by decide +kernel) rfl, mem_T (i := 894) (by decide +kernel) rfl, ⟨_, rfl, rfl⟩⟩
theorem yv_X5_beginDealt : mj_yV yX5_beginDealt dd_X5_beginDealt 5 1 := ⟨mem_T (i := 984) (by decide +kernel) rfl, mem_T (i := 149) (by decide +kernel) rfl, Nat.le_of_ble_eq_true rfl, ⟨⟨by decide, by decide⟩, by decide +kernel⟩, mem_T (i := 983) (by decide +kernel) rfl, mem_T (i := 29) (by decide +kernel) rfl, ⟨_, rfl, rfl⟩⟩
theorem yv_X5_beginQueues : mj_yV yX5_beginQueues dd_X5_beginQueues 5 1 := ⟨mem_T (i := 907) (by decide +kernel) rfl, mem_T (i := 149) (by decide +kernel) rfl, Nat.le_of_ble_eq_true rfl, ⟨⟨by decide, by decide⟩, by decide +kernel⟩, mem_T (i := 906) (by decide +kernel) rfl, mem_T (i := 23) (by decide +kernel) rfl, ⟨_, rfl, rfl⟩⟩
theorem yv_X5_bringDealtAway : mj_yV yX5_bringDealtAway dd_X5_bringDealtAway 5 2 := ⟨mem_T (i := 1103) (by decide +kernel) rfl, mem_T (i := 149) (by decide +kernel) rfl, Nat.le_of_ble_eq_true rfl, ⟨⟨by decide, by decide⟩, by decide +kernel⟩, mem_T (i := 1102) (by decide +kernel) rfl, mem_T (i := 43) (by decide +kernel) rfl, ⟨_, rfl, rfl⟩⟩
theorem yv_X5_bringOldAway : mj_yV yX5_bringOldAway dd_X5_bringOldAway 5 2 := ⟨mem_T (i := 1091) (by decide +kernel) rfl, mem_T (i := 149) (by decide +kernel) rfl, Nat.le_of_ble_eq_true rfl, ⟨⟨by decide, by decide⟩, by decide +kernel⟩, mem_T (i := 1090) (by decide +kernel) rfl, mem_T (i := 40) (by decide +kernel) rfl, ⟨_, rfl, rfl⟩⟩
theorem yv_X5_bringQueueAway : mj_yV yX5_bringQueueAway dd_X5_bringQueueAway 5 1 := ⟨mem_T (i := 1095) (by decide +kernel) rfl, mem_T (i := 149) (by decide +kernel) rfl, Nat.le_of_ble_eq_true rfl, ⟨⟨by decide, by decide⟩, by decide +kernel⟩, mem_T (i := 1094) (by decide +kernel) rfl, mem_T (i := 41) (by decide +kernel) rfl, ⟨_, rfl, rfl⟩⟩
theorem yv_X5_bringQueuesAway : mj_yV yX5_bringQueuesAway dd_X5_bringQueuesAway 5 2 := ⟨mem_T (i := 1087) (by decide +kernel) rfl, mem_T (i := 149) (by decide +kernel) rfl, Nat.le_of_ble_eq_true rfl, ⟨⟨by decide, by decide⟩, by decide +kernel⟩, mem_T (i := 1086) (by decide +kernel) rfl, mem_T (i := 39) (by decide +kernel) rfl, ⟨_, rfl, rfl⟩⟩
theorem yv_X5_carry : mj_yV yX5_carry dd_X5_carry 5 2 := ⟨mem_T (i := 1099) (by decide +kernel) rfl, mem_T (i := 149) (by decide +kernel) rfl, Nat.le_of_ble_eq_true rfl, ⟨⟨by decide, by decide⟩, by decide +kernel⟩, mem_T (i := 1098) (by decide +kernel) rfl, mem_T (i := 42) (by decide +kernel) rfl, ⟨_, rfl, rfl⟩⟩
theorem yv_X5_comeBack : mj_yV yX5_comeBack dd_X5_comeBack 5 1 := ⟨mem_T (i := 1075) (by decide +kernel) rfl, mem_T (i := 149) (by decide +kernel) rfl, Nat.le_of_ble_eq_true rfl, ⟨⟨by decide, by decide⟩, by decide +kernel⟩, mem_T (i := 1073) (by decide +kernel) rfl, mem_T (i := 1074) (by decide +kernel) rfl, ⟨_, rfl, rfl⟩⟩
theorem yv_X5_copyFrom : mj_yV yX5_copyFrom dd_X5_copyFrom 5 1 := ⟨mem_T (i := 875) (by decide +kernel) rfl, mem_T (i := 149) (by decide +kernel) rfl, Nat.le_of_ble_eq_true rfl, ⟨⟨by decide, by decide⟩, by decide +kernel⟩, mem_T (i := 873) (by decide +kernel) rfl, mem_T (i := 874) (by decide +kernel) rfl, ⟨_, rfl, rfl⟩⟩
theorem yv_X5_deliver : mj_yV yX5_deliver dd_X5_deliver 5 1 := ⟨mem_T (i := 1055) (by decide +kernel) rfl, mem_T (i := 149) (by decide +kernel) rfl, Nat.le_of_ble_eq_true rfl, ⟨⟨by decide, by decide⟩, by decide +kernel⟩, mem_T (i := 1054) (by decide +kernel) rfl, mem_T (i := 34) (by decide +kernel) rfl, ⟨_, rfl, rfl⟩⟩
theorem yv_X5_empty : mj_yV yX5_empty dd_X5_empty 5 0 := ⟨mem_T (i := 516) (by decide +kernel) rfl, mem_T (i := 149) (by decide +kernel) rfl, Nat.le_of_ble_eq_true rfl, ⟨⟨by decide, by decide⟩, by decide +kernel⟩, mem_T (i := 514) (by decide +kernel) rfl, mem_T (i := 515) (by decide +kernel) rfl, ⟨_, rfl, rfl⟩⟩
theorem yv_X5_forgetLine : mj_yV yX5_forgetLine dd_X5_forgetLine 5 1 := ⟨mem_T (i := 540) (by decide +kernel) rfl, mem_T (i := 149) (by decide +kernel) rfl, Nat.le_of_ble_eq_true rfl, ⟨⟨by decide, by decide⟩, by decide +kernel⟩, mem_T (i := 539) (by decide +kernel) rfl, mem_T (i := 0) (by decide +kernel) rfl, ⟨_, rfl, rfl⟩⟩
theorem yv_X5_halt : mj_yV yX5_halt dd_X5_halt 5 1 := ⟨mem_T (i := 994) (by decide +kernel) rfl, mem_T (i := 149) (by decide +kernel) rfl, Nat.le_of_ble_eq_true rfl, ⟨⟨by decide, by decide⟩, by decide +kernel⟩, mem_T (i := 992) (by decide +kernel) rfl, mem_T (i := 993) (by decide +kernel) rfl, ⟨_, rfl, rfl⟩⟩
theorem yv_X5_hasOld : mj_yV yX5_hasOld dd_X5_hasOld 5 2 := ⟨mem_T (i := 1035) (by decide +kernel) rfl, mem_T (i := 149) (by decide +kernel) rfl, Nat.le_of_ble_eq_true rfl, ⟨⟨by decide, by decide⟩, by decide +kernel⟩, mem_T (i := 1034) (by decide +kernel) rfl, mem_T (i := 31) (by decide +kernel) rfl, ⟨_, rfl, rfl⟩⟩
theorem yv_X5_hold : mj_yV yX5_hold dd_X5_hold 5 2 := ⟨mem_T (i := 980) (by decide +kernel) rfl, mem_T (i := 149) (by decide +kernel) rfl, Nat.le_of_ble_eq_true rfl, ⟨⟨by decide, by decide⟩, by decide +kernel⟩, mem_T (i := 979) (by decide +kernel) rfl, mem_T (i := 28) (by decide +kernel) rfl, ⟨_, rfl, rfl⟩⟩
theorem ys_X5_isAt : mj_yS yX5_isAt dd_X5_isAt 2 := ⟨mem_T (i := 972) (by decide +kernel) rfl, mem_T (i := 149) (by decide +kernel) rfl, Nat.le_of_ble_eq_true rfl, ⟨⟨by decide, by decide⟩, by decide +kernel⟩, mem_T (i := 971) (by decide +kernel) rfl⟩
theorem yv_X5_isManaged : mj_yV yX5_isManaged dd_X5_isManaged 5 1 := ⟨mem_T (i := 903) (by decide +kernel) rfl, mem_T (i := 149) (by decide +kernel) rfl, Nat.le_of_ble_eq_true rfl, ⟨⟨by decide, by decide⟩, by decide +kernel⟩, mem_T (i := 902) (by decide +kernel) rfl, mem_T (i := 22) (by decide +kernel) rfl, ⟨_, rfl, rfl⟩⟩
theorem yv_X5_isPromised : mj_yV yX5_isPromised dd_X5_isPromised 5 1 := ⟨mem_T (i := 944) (by decide +kernel) rfl, mem_T (i := 149) (by decide +kernel) rfl, Nat.le_of_ble_eq_true rfl, ⟨⟨by decide, by decide⟩, by decide +kernel⟩, mem_T (i := 942) (by decide +kernel) rfl, mem_T (i := 943) (by decide +kernel) rfl, ⟨_, rfl, rfl⟩⟩
theorem yv_X5_isStarted : mj_yV yX5_isStarted dd_X5_isStarted 5 1 := ⟨mem_T (i := 899) (by decide +kernel) rfl, mem_T (i := 149) (by decide +kernel) rfl, Nat.le_of_ble_eq_true rfl, ⟨⟨by decide, by decide⟩, by decide +kernel⟩, mem_T (i := 897) (by decide +kernel) rfl, mem_T (i := 898) (by decide +kernel) rfl, ⟨_, rfl, rfl⟩⟩
theorem yv_X5_leastLoadedPlace : mj_yV yX5_leastLoadedPlace dd_X5_leastLoadedPlace 5 2 := ⟨mem_T (i := 965) (by decide +kernel) rfl, mem_T (i := 149) (by decide +kernel) rfl, Nat.le_of_ble_eq_true rfl, ⟨⟨by decide, by decide⟩, by decide +kernel⟩, mem_T (i := 964) (by decide +kernel) rfl, mem_T (i := 27) (by decide +kernel) rfl, ⟨_, rfl, rfl⟩⟩
theorem yv_X5_leave : mj_yV yX5_leave dd_X5_leave 5 1 := ⟨mem_T (i := 1083) (by decide +kernel) rfl, mem_T (i := 149) (by decide +kernel) rfl, Nat.le_of_ble_eq_true rfl, ⟨⟨by decide, by decide⟩, by decide +kernel⟩, mem_T (i := 1081) (by decide +kernel) rfl, mem_T (i := 1082) (by decide +kernel) rfl, ⟨_, rfl, rfl⟩⟩
theorem yv_X5_openQueue : mj_yV yX5_openQueue dd_X5_openQueue 5 2 := ⟨mem_T (i := 1079) (by decide +kernel) rfl, mem_T (i := 149) (by decide +kernel) rfl, Nat.le_of_ble_eq_true rfl, ⟨⟨by decide, by decide⟩, by decide +kernel⟩, mem_T (i := 1078) (by decide +kernel) rfl, mem_T (i := 38) (by decide +kernel) rfl, ⟨_, rfl, rfl⟩⟩
theorem yv_X5_pass : mj_yV yX5_pass dd_X5_pass 5 1 := ⟨mem_T (i := 1043) (by decide +kernel) rfl, mem_T (i := 149) (by decide +kernel) rfl, Nat.le_of_ble_eq_true rfl, ⟨⟨by decide, by decide⟩, by decide +kernel⟩, mem_T (i := 1041) (by decide +kernel) rfl, mem_T (i := 1042) (by decide +kernel) rfl, ⟨_, rfl, rfl⟩⟩
theorem yv_X5_passOne : mj_yV yX5_passOne dd_X5_passOne 5 0 := ⟨mem_T (i := 1047) (by decide +kernel) rfl, mem_T (i := 149) (by decide +kernel) rfl, Nat.le_of_ble_eq_true rfl, ⟨⟨by decide, by decide⟩, by decide +kernel⟩, mem_T (i := 1046) (by decide +kernel) rfl, mem_T (i := 33) (by decide +kernel) rfl, ⟨_, rfl, rfl⟩⟩
theorem yv_X5_pendAt : mj_yV yX5_pendAt dd_X5_pendAt 5 2 := ⟨mem_T (i := 1022) (by decide +kernel) rfl, mem_T (i := 149) (by decide +kernel) rfl, Nat.le_of_ble_eq_true rfl, ⟨⟨by decide, by decide⟩, by decide +kernel⟩, mem_T (i := 1021) (by decide +kernel) rfl, mem_T (i := 30) (by decide +kernel) rfl, ⟨_, rfl, rfl⟩⟩
theorem yv_X5_promise : mj_yV yX5_promise dd_X5_promise 5 1 := ⟨mem_T (i := 1006) (by decide +kernel) rfl, mem_T (i := 149) (by decide +kernel) rfl, Nat.le_of_ble_eq_true rfl, ⟨⟨by decide, by decide⟩, by decide +kernel⟩, mem_T (i := 1004) (by decide +kernel) rfl, mem_T (i := 1005) (by decide +kernel) rfl, ⟨_, rfl, rfl⟩⟩
theorem yv_X5_promisedVectors : mj_yV yX5_promisedVectors dd_X5_promisedVectors 5 0 := ⟨mem_T (i := 940) (by decide +kernel) rfl, mem_T (i := 149) (by decide +kernel) rfl, Nat.le_of_ble_eq_true rfl, ⟨⟨by decide, by decide⟩, by decide +kernel⟩, mem_T (i := 938) (by decide +kernel) rfl, mem_T (i := 939) (by decide +kernel) rfl, ⟨_, rfl, rfl⟩⟩
theorem yv_X5_queuesAt : mj_yV yX5_queuesAt dd_X5_queuesAt 5 2 := ⟨mem_T (i := 911) (by decide +kernel) rfl, mem_T (i := 149) (by decide +kernel) rfl, Nat.le_of_ble_eq_true rfl, ⟨⟨by decide, by decide⟩, by decide +kernel⟩, mem_T (i := 910) (by decide +kernel) rfl, mem_T (i := 24) (by decide +kernel) rfl, ⟨_, rfl, rfl⟩⟩
theorem yv_X5_release : mj_yV yX5_release dd_X5_release 5 2 := ⟨mem_T (i := 1071) (by decide +kernel) rfl, mem_T (i := 149) (by decide +kernel) rfl, Nat.le_of_ble_eq_true rfl, ⟨⟨by decide, by decide⟩, by decide +kernel⟩, mem_T (i := 1070) (by decide +kernel) rfl, mem_T (i := 37) (by decide +kernel) rfl, ⟨_, rfl, rfl⟩⟩
theorem yv_X5_releaseDrained : mj_yV yX5_releaseDrained dd_X5_releaseDrained 5 0 := ⟨mem_T (i := 1063) (by decide +kernel) rfl, mem_T (i := 149) (by decide +kernel) rfl, Nat.le_of_ble_eq_true rfl, ⟨⟨by decide, by decide⟩, by decide +kernel⟩, mem_T (i := 1062) (by decide +kernel) rfl, mem_T (i := 35) (by decide +kernel) rfl, ⟨_, rfl, rfl⟩⟩
theorem yv_X5_releaseOld : mj_yV yX5_releaseOld dd_X5_releaseOld 5 1 := ⟨mem_T (i := 1067) (by decide +kernel) rfl, mem_T (i := 149) (by decide +kernel) rfl, Nat.le_of_ble_eq_true rfl, ⟨⟨by decide, by decide⟩, by decide +kernel⟩, mem_T (i := 1066) (by decide +kernel) rfl, mem_T (i := 36) (by decide +kernel) rfl, ⟨_, rfl, rfl⟩⟩
theorem yv_X5_replace : mj_yV yX5_replace dd_X5_replace 5 2 := ⟨mem_T (i := 1039) (by decide +kernel) rfl, mem_T (i := 149) (by decide +kernel) rfl, Nat.le_of_ble_eq_true rfl, ⟨⟨by decide, by decide⟩, by decide +kernel⟩, mem_T (i := 1038) (by decide +kernel) rfl, mem_T (i := 32) (by decide +kernel) rfl, ⟨_, rfl, rfl⟩⟩
theorem yv_X5_reserve : mj_yV yX5_reserve dd_X5_reserve 5 2 := ⟨mem_T (i := 948) (by decide +kernel) rfl, mem_T (i := 149) (by decide +kernel) rfl, Nat.le_of_ble_eq_true rfl, ⟨⟨by decide, by decide⟩, by decide +kernel⟩, mem_T (i := 947) (by decide +kernel) rfl, mem_T (i := 25) (by decide +kernel) rfl, ⟨_, rfl, rfl⟩⟩
theorem yv_X5_shift : mj_yV yX5_shift dd_X5_shift 5 3 := ⟨mem_T (i := 1031) (by decide +kernel) rfl, mem_T (i := 149) (by decide +kernel) rfl, Nat.le_of_ble_eq_true rfl, ⟨⟨by decide, by decide⟩, by decide +kernel⟩, mem_T (i := 1029) (by decide +kernel) rfl, mem_T (i := 1030) (by decide +kernel) rfl, ⟨_, rfl, rfl⟩⟩
theorem yv_X5_signal : mj_yV yX5_signal dd_X5_signal 5 3 := ⟨mem_T (i := 1010) (by decide +kernel) rfl, mem_T (i := 149) (by decide +kernel) rfl, Nat.le_of_ble_eq_true rfl, ⟨⟨by decide, by decide⟩, by decide +kernel⟩, mem_T (i := 1008) (by decide +kernel) rfl, mem_T (i := 1009) (by decide +kernel) rfl, ⟨_, rfl, rfl⟩⟩
theorem yv_X5_unheard : mj_yV yX5_unheard dd_X5_unheard 5 0 := ⟨mem_T (i := 1304) (by decide +kernel) rfl, mem_T (i := 149) (by decide +kernel) rfl, Nat.le_of_ble_eq_true rfl, ⟨⟨by decide, by decide⟩, by decide +kernel⟩, mem_T (i := 1302) (by decide +kernel) rfl, mem_T (i := 1303) (by decide +kernel) rfl, ⟨_, rfl, rfl⟩⟩
theorem yi_X6_init : mj_yI yX6_init dd_X6_init 1 := ⟨mem_T (i := 623) (by decide +kernel) rfl, mem_T (i := 154) (by decide +kernel) rfl, Nat.le_of_ble_eq_true rfl, ⟨⟨by decide, by decide⟩, by decide +kernel⟩, mem_T (i := 622) (by decide +kernel) rfl, rfl, rfl⟩
theorem yv_X6_blow : mj_yV yX6_blow dd_X6_blow 6 3 := ⟨mem_T (i := 1286) (by decide +kernel) rfl, mem_T (i := 154) (by decide +kernel) rfl, Nat.le_of_ble_eq_true rfl, ⟨⟨by decide, by decide⟩, by decide +kernel⟩, mem_T (i := 1284) (by decide +kernel) rfl, mem_T (i := 1285) (by decide +kernel) rfl, ⟨_, rfl, rfl⟩⟩
theorem ys_X6_nextSeed : mj_yS yX6_nextSeed dd_X6_nextSeed 1 := ⟨mem_T (i := 1294) (by decide +kernel) rfl, mem_T (i := 154) (by decide +kernel) rfl, Nat.le_of_ble_eq_true rfl, ⟨⟨by decide, by decide⟩, by decide +kernel⟩, mem_T (i := 1293) (by decide +kernel) rfl⟩
theorem yv_X6_startedLines : mj_yV yX6_startedLines dd_X6_startedLines 6 1 := ⟨mem_T (i := 1290) (by decide +kernel) rfl, mem_T (i := 154) (by decide +kernel) rfl, Nat.le_of_ble_eq_true rfl, ⟨⟨by decide, by decide⟩, by decide +kernel⟩, mem_T (i := 1289) (by decide +kernel) rfl, mem_T (i := 49) (by decide +kernel) rfl, ⟨_, rfl, rfl⟩⟩
theorem yv_X6_strike : mj_yV yX6_strike dd_X6_strike 6 2 := ⟨mem_T (i := 1299) (by decide +kernel) rfl, mem_T (i := 154) (by decide +kernel) rfl, Nat.le_of_ble_eq_true rfl, ⟨⟨by decide, by decide⟩, by decide +kernel⟩, mem_T (i := 1298) (by decide +kernel) rfl, mem_T (i := 50) (by decide +kernel) rfl, ⟨_, rfl, rfl⟩⟩
theorem yi_X7_init : mj_yI yX7_init dd_X7_init 1 := ⟨mem_T (i := 605) (by decide +kernel) rfl, mem_T (i := 153) (by decide +kernel) rfl, Nat.le_of_ble_eq_true rfl, ⟨⟨by decide, by decide⟩, by decide +kernel⟩, mem_T (i := 604) (by decide +kernel) rfl, rfl, rfl⟩
theorem yv_X7_canGo : mj_yV yX7_canGo dd_X7_canGo 7 2 := ⟨mem_T (i := 1274) (by decide +kernel) rfl, mem_T (i := 153) (by decide +kernel) rfl, Nat.le_of_ble_eq_true rfl, ⟨⟨by decide, by decide⟩, by decide +kernel⟩, mem_T (i := 1273) (by decide +kernel) rfl, mem_T (i := 48) (by decide +kernel) rfl, ⟨_, rfl, rfl⟩⟩
theorem yv_X7_costOfBlock : mj_yV yX7_costOfBlock dd_X7_costOfBlock 7 3 := ⟨mem_T (i := 1269) (by decide +kernel) rfl, mem_T (i := 153) (by decide +kernel) rfl, Nat.le_of_ble_eq_true rfl, ⟨⟨by decide, by decide⟩, by decide +kernel⟩, mem_T (i := 1268) (by decide +kernel) rfl, mem_T (i := 47) (by decide +kernel) rfl, ⟨_, rfl, rfl⟩⟩
theorem yv_X7_heldLines : mj_yV yX7_heldLines dd_X7_heldLines 7 1 := ⟨mem_T (i := 1392) (by decide +kernel) rfl, mem_T (i := 153) (by decide +kernel) rfl, Nat.le_of_ble_eq_true rfl, ⟨⟨by decide, by decide⟩, by decide +kernel⟩, mem_T (i := 1390) (by decide +kernel) rfl, mem_T (i := 1391) (by decide +kernel) rfl, ⟨_, rfl, rfl⟩⟩
theorem ys_X7_isAstray : mj_yS yX7_isAstray dd_X7_isAstray 4 := ⟨mem_T (i := 1384) (by decide +kernel) rfl, mem_T (i := 153) (by decide +kernel) rfl, Nat.le_of_ble_eq_true rfl, ⟨⟨by decide, by decide⟩, by decide +kernel⟩, mem_T (i := 1383) (by decide +kernel) rfl⟩
theorem yv_X7_isWrong : mj_yV yX7_isWrong dd_X7_isWrong 7 3 := ⟨mem_T (i := 1375) (by decide +kernel) rfl, mem_T (i := 153) (by decide +kernel) rfl, Nat.le_of_ble_eq_true rfl, ⟨⟨by decide, by decide⟩, by decide +kernel⟩, mem_T (i := 1374) (by decide +kernel) rfl, mem_T (i := 52) (by decide +kernel) rfl, ⟨_, rfl, rfl⟩⟩
theorem yv_X7_loadGap : mj_yV yX7_loadGap dd_X7_loadGap 7 1 := ⟨mem_T (i := 1256) (by decide +kernel) rfl, mem_T (i := 153) (by decide +kernel) rfl, Nat.le_of_ble_eq_true rfl, ⟨⟨by decide, by decide⟩, by decide +kernel⟩, mem_T (i := 1254) (by decide +kernel) rfl, mem_T (i := 1255) (by decide +kernel) rfl, ⟨_, rfl, rfl⟩⟩
theorem yv_X7_nearestGroup : mj_yV yX7_nearestGroup dd_X7_nearestGroup 7 1 := ⟨mem_T (i := 1324) (by decide +kernel) rfl, mem_T (i := 153) (by decide +kernel) rfl, Nat.le_of_ble_eq_true rfl, ⟨⟨by decide, by decide⟩, by decide +kernel⟩, mem_T (i := 1322) (by decide +kernel) rfl, mem_T (i := 1323) (by decide +kernel) rfl, ⟨_, rfl, rfl⟩⟩
theorem yv_X7_roomFor : mj_yV yX7_roomFor dd_X7_roomFor 7 2 := ⟨mem_T (i := 1239) (by decide +kernel) rfl, mem_T (i := 153) (by decide +kernel) rfl, Nat.le_of_ble_eq_true rfl, ⟨⟨by decide, by decide⟩, by decide +kernel⟩, mem_T (i := 1237) (by decide +kernel) rfl, mem_T (i := 1238) (by decide +kernel) rfl, ⟨_, rfl, rfl⟩⟩
theorem yv_X7_seekBlock : mj_yV yX7_seekBlock dd_X7_seekBlock 7 2 := ⟨mem_T (i := 1265) (by decide +kernel) rfl, mem_T (i := 153) (by decide +kernel) rfl, Nat.le_of_ble_eq_true rfl, ⟨⟨by decide, by decide⟩, by decide +kernel⟩, mem_T (i := 1263) (by decide +kernel) rfl, mem_T (i := 1264) (by decide +kernel) rfl, ⟨_, rfl, rfl⟩⟩
theorem yv_X7_ticksUntilQuiet : mj_yV yX7_ticksUntilQuiet dd_X7_ticksUntilQuiet 7 1 := ⟨mem_T (i := 1315) (by decide +kernel) rfl, mem_T (i := 153) (by decide +kernel) rfl, Nat.le_of_ble_eq_true rfl, ⟨⟨by decide, by decide⟩, by decide +kernel⟩, mem_T (i := 1313) (by decide +kernel) rfl, mem_T (i := 1314) (by decide +kernel) rfl, ⟨_, rfl, rfl⟩⟩
theorem yv_X7_wrongLines : mj_yV yX7_wrongLines dd_X7_wrongLines 7 1 := ⟨mem_T (i := 1381) (by decide +kernel) rfl, mem_T (i := 153) (by decide +kernel) rfl, Nat.le_of_ble_eq_true rfl, ⟨⟨by decide, by decide⟩, by decide +kernel⟩, mem_T (i := 1379) (by decide +kernel) rfl, mem_T (i := 1380) (by decide +kernel) rfl, ⟨_, rfl, rfl⟩⟩
theorem yv_X7_wrongVectors : mj_yV yX7_wrongVectors dd_X7_wrongVectors 7 1 := ⟨mem_T (i := 1371) (by decide +kernel) rfl, mem_T (i := 153) (by decide +kernel) rfl, Nat.le_of_ble_eq_true rfl, ⟨⟨by decide, by decide⟩, by decide +kernel⟩, mem_T (i := 1369) (by decide +kernel) rfl, mem_T (i := 1370) (by decide +kernel) rfl, ⟨_, rfl, rfl⟩⟩
theorem yi_X8_init : mj_yI yX8_init dd_X8_init 0 := ⟨mem_T (i := 448) (by decide +kernel) rfl, mem_T (i := 150) (by decide +kernel) rfl, Nat.le_of_ble_eq_true rfl, ⟨⟨by decide, by decide⟩, by decide +kernel⟩, mem_T (i := 447) (by decide +kernel) rfl, rfl, rfl⟩
theorem yv_X8_copyFrom : mj_yV yX8_copyFrom dd_X8_copyFrom 8 1 := ⟨mem_T (i := 884) (by decide +kernel) rfl, mem_T (i := 150) (by decide +kernel) rfl, Nat.le_of_ble_eq_true rfl, ⟨⟨by decide, by decide⟩, by decide +kernel⟩, mem_T (i := 882) (by decide +kernel) rfl, mem_T (i := 883) (by decide +kernel) rfl, ⟨_, rfl, rfl⟩⟩
theorem yv_X8_empty : mj_yV yX8_empty dd_X8_empty 8 0 := ⟨mem_T (i := 535) (by decide +kernel) rfl, mem_T (i := 150) (by decide +kernel) rfl, Nat.le_of_ble_eq_true rfl, ⟨⟨by decide, by decide⟩, by decide +kernel⟩, mem_T (i := 533) (by decide +kernel) rfl, mem_T (i := 534) (by decide +kernel) rfl, ⟨_, rfl, rfl⟩⟩
theorem yv_X8_kept : mj_yV yX8_kept dd_X8_kept 8 0 := ⟨mem_T (i := 1334) (by decide +kernel) rfl, mem_T (i := 150) (by decide +kernel) rfl, Nat.le_of_ble_eq_true rfl, ⟨⟨by decide, by decide⟩, by decide +kernel⟩, mem_T (i := 1332) (by decide +kernel) rfl, mem_T (i := 1333) (by decide +kernel) rfl, ⟨_, rfl, rfl⟩⟩
theorem yv_X8_latest : mj_yV yX8_latest dd_X8_latest 8 1 := ⟨mem_T (i := 1343) (by decide +kernel) rfl, mem_T (i := 150) (by decide +kernel) rfl, Nat.le_of_ble_eq_true rfl, ⟨⟨by decide, by decide⟩, by decide +kernel⟩, mem_T (i := 1342) (by decide +kernel) rfl, mem_T (i := 51) (by decide +kernel) rfl, ⟨_, rfl, rfl⟩⟩
theorem yv_X8_latestByOld : mj_yV yX8_latestByOld dd_X8_latestByOld 8 1 := ⟨mem_T (i := 1354) (by decide +kernel) rfl, mem_T (i := 150) (by decide +kernel) rfl, Nat.le_of_ble_eq_true rfl, ⟨⟨by decide, by decide⟩, by decide +kernel⟩, mem_T (i := 1352) (by decide +kernel) rfl, mem_T (i := 1353) (by decide +kernel) rfl, ⟨_, rfl, rfl⟩⟩
theorem yv_X8_latestId : mj_yV yX8_latestId dd_X8_latestId 8 1 := ⟨mem_T (i := 1339) (by decide +kernel) rfl, mem_T (i := 150) (by decide +kernel) rfl, Nat.le_of_ble_eq_true rfl, ⟨⟨by decide, by decide⟩, by decide +kernel⟩, mem_T (i := 1337) (by decide +kernel) rfl, mem_T (i := 1338) (by decide +kernel) rfl, ⟨_, rfl, rfl⟩⟩
theorem yv_X8_latestPlace : mj_yV yX8_latestPlace dd_X8_latestPlace 8 1 := ⟨mem_T (i := 1350) (by decide +kernel) rfl, mem_T (i := 150) (by decide +kernel) rfl, Nat.le_of_ble_eq_true rfl, ⟨⟨by decide, by decide⟩, by decide +kernel⟩, mem_T (i := 1348) (by decide +kernel) rfl, mem_T (i := 1349) (by decide +kernel) rfl, ⟨_, rfl, rfl⟩⟩
theorem yv_X8_note : mj_yV yX8_note dd_X8_note 8 3 := ⟨mem_T (i := 1059) (by decide +kernel) rfl, mem_T (i := 150) (by decide +kernel) rfl, Nat.le_of_ble_eq_true rfl, ⟨⟨by decide, by decide⟩, by decide +kernel⟩, mem_T (i := 1057) (by decide +kernel) rfl, mem_T (i := 1058) (by decide +kernel) rfl, ⟨_, rfl, rfl⟩⟩
theorem ys_X8_sum : mj_yS yX8_sum dd_X8_sum 1 := ⟨mem_T (i := 1409) (by decide +kernel) rfl, mem_T (i := 150) (by decide +kernel) rfl, Nat.le_of_ble_eq_true rfl, ⟨⟨by decide, by decide⟩, by decide +kernel⟩, mem_T (i := 1408) (by decide +kernel) rfl⟩
theorem yi_X9_init : mj_yI yX9_init dd_X9_init 1 := ⟨mem_T (i := 252) (by decide +kernel) rfl, mem_T (i := 141) (by decide +kernel) rfl, Nat.le_of_ble_eq_true rfl, ⟨⟨by decide, by decide⟩, by decide +kernel⟩, mem_T (i := 251) (by decide +kernel) rfl, rfl, rfl⟩
theorem yv_X9_advance : mj_yV yX9_advance dd_X9_advance 9 0 := ⟨mem_T (i := 731) (by decide +kernel) rfl, mem_T (i := 141) (by decide +kernel) rfl, Nat.le_of_ble_eq_true rfl, ⟨⟨by decide, by decide⟩, by decide +kernel⟩, mem_T (i := 729) (by decide +kernel) rfl, mem_T (i := 730) (by decide +kernel) rfl, ⟨_, rfl, rfl⟩⟩
theorem yv_X9_blame : mj_yV yX9_blame dd_X9_blame 9 1 := ⟨mem_T (i := 756) (by decide +kernel) rfl, mem_T (i := 141) (by decide +kernel) rfl, Nat.le_of_ble_eq_true rfl, ⟨⟨by decide, by decide⟩, by decide +kernel⟩, mem_T (i := 754) (by decide +kernel) rfl, mem_T (i := 755) (by decide +kernel) rfl, ⟨_, rfl, rfl⟩⟩
theorem yv_X9_blameToken : mj_yV yX9_blameToken dd_X9_blameToken 9 0 := ⟨mem_T (i := 765) (by decide +kernel) rfl, mem_T (i := 141) (by decide +kernel) rfl, Nat.le_of_ble_eq_true rfl, ⟨⟨by decide, by decide⟩, by decide +kernel⟩, mem_T (i := 763) (by decide +kernel) rfl, mem_T (i := 764) (by decide +kernel) rfl, ⟨_, rfl, rfl⟩⟩
theorem yv_X9_fitsName : mj_yV yX9_fitsName dd_X9_fitsName 9 0 := ⟨mem_T (i := 794) (by decide +kernel) rfl, mem_T (i := 141) (by decide +kernel) rfl, Nat.le_of_ble_eq_true rfl, ⟨⟨by decide, by decide⟩, by decide +kernel⟩, mem_T (i := 792) (by decide +kernel) rfl, mem_T (i := 793) (by decide +kernel) rfl, ⟨_, rfl, rfl⟩⟩
theorem yv_X9_fitsNumber : mj_yV yX9_fitsNumber dd_X9_fitsNumber 9 2 := ⟨mem_T (i := 761) (by decide +kernel) rfl, mem_T (i := 141) (by decide +kernel) rfl, Nat.le_of_ble_eq_true rfl, ⟨⟨by decide, by decide⟩, by decide +kernel⟩, mem_T (i := 759) (by decide +kernel) rfl, mem_T (i := 760) (by decide +kernel) rfl, ⟨_, rfl, rfl⟩⟩
theorem ys_X9_isBlank : mj_yS yX9_isBlank dd_X9_isBlank 1 := ⟨mem_T (i := 713) (by decide +kernel) rfl, mem_T (i := 141) (by decide +kernel) rfl, Nat.le_of_ble_eq_true rfl, ⟨⟨by decide, by decide⟩, by decide +kernel⟩, mem_T (i := 712) (by decide +kernel) rfl⟩
theorem ys_X9_isDigit : mj_yS yX9_isDigit dd_X9_isDigit 1 := ⟨mem_T (i := 723) (by decide +kernel) rfl, mem_T (i := 141) (by decide +kernel) rfl, Nat.le_of_ble_eq_true rfl, ⟨⟨by decide, by decide⟩, by decide +kernel⟩, mem_T (i := 722) (by decide +kernel) rfl⟩
theorem ys_X9_isLetter : mj_yS yX9_isLetter dd_X9_isLetter 1 := ⟨mem_T (i := 716) (by decide +kernel) rfl, mem_T (i := 141) (by decide +kernel) rfl, Nat.le_of_ble_eq_true rfl, ⟨⟨by decide, by decide⟩, by decide +kernel⟩, mem_T (i := 715) (by decide +kernel) rfl⟩
theorem yv_X9_keywordOf : mj_yV yX9_keywordOf dd_X9_keywordOf 9 1 := ⟨mem_T (i := 735) (by decide +kernel) rfl, mem_T (i := 141) (by decide +kernel) rfl, Nat.le_of_ble_eq_true rfl, ⟨⟨by decide, by decide⟩, by decide +kernel⟩, mem_T (i := 734) (by decide +kernel) rfl, mem_T (i := 5) (by decide +kernel) rfl, ⟨_, rfl, rfl⟩⟩
theorem yv_X9_open : mj_yV yX9_open dd_X9_open 9 1 := ⟨mem_T (i := 700) (by decide +kernel) rfl, mem_T (i := 141) (by decide +kernel) rfl, Nat.le_of_ble_eq_true rfl, ⟨⟨by decide, by decide⟩, by decide +kernel⟩, mem_T (i := 698) (by decide +kernel) rfl, mem_T (i := 699) (by decide +kernel) rfl, ⟨_, rfl, rfl⟩⟩
theorem ys_X9_packed : mj_yS yX9_packed dd_X9_packed 2 := ⟨mem_T (i := 305) (by decide +kernel) rfl, mem_T (i := 141) (by decide +kernel) rfl, Nat.le_of_ble_eq_true rfl, ⟨⟨by decide, by decide⟩, by decide +kernel⟩, mem_T (i := 304) (by decide +kernel) rfl⟩
theorem yv_X9_split : mj_yV yX9_split dd_X9_split 9 1 := ⟨mem_T (i := 710) (by decide +kernel) rfl, mem_T (i := 141) (by decide +kernel) rfl, Nat.le_of_ble_eq_true rfl, ⟨⟨by decide, by decide⟩, by decide +kernel⟩, mem_T (i := 709) (by decide +kernel) rfl, mem_T (i := 2) (by decide +kernel) rfl, ⟨_, rfl, rfl⟩⟩
theorem yv_X9_splitNumber : mj_yV yX9_splitNumber dd_X9_splitNumber 9 1 := ⟨mem_T (i := 727) (by decide +kernel) rfl, mem_T (i := 141) (by decide +kernel) rfl, Nat.le_of_ble_eq_true rfl, ⟨⟨by decide, by decide⟩, by decide +kernel⟩, mem_T (i := 726) (by decide +kernel) rfl, mem_T (i := 4) (by decide +kernel) rfl, ⟨_, rfl, rfl⟩⟩
theorem yv_X9_splitWord : mj_yV yX9_splitWord dd_X9_splitWord 9 1 := ⟨mem_T (i := 720) (by decide +kernel) rfl, mem_T (i := 141) (by decide +kernel) rfl, Nat.le_of_ble_eq_true rfl, ⟨⟨by decide, by decide⟩, by decide +kernel⟩, mem_T (i := 719) (by decide +kernel) rfl, mem_T (i := 3) (by decide +kernel) rfl, ⟨_, rfl, rfl⟩⟩
theorem yv_X9_takeSet : mj_yV yX9_takeSet dd_X9_takeSet 9 2 := ⟨mem_T (i := 782) (by decide +kernel) rfl, mem_T (i := 141) (by decide +kernel) rfl, Nat.le_of_ble_eq_true rfl, ⟨⟨by decide, by decide⟩, by decide +kernel⟩, mem_T (i := 780) (by decide +kernel) rfl, mem_T (i := 781) (by decide +kernel) rfl, ⟨_, rfl, rfl⟩⟩
theorem yv_X9_takeSign : mj_yV yX9_takeSign dd_X9_takeSign 9 0 := ⟨mem_T (i := 770) (by decide +kernel) rfl, mem_T (i := 141) (by decide +kernel) rfl, Nat.le_of_ble_eq_true rfl, ⟨⟨by decide, by decide⟩, by decide +kernel⟩, mem_T (i := 768) (by decide +kernel) rfl, mem_T (i := 769) (by decide +kernel) rfl, ⟨_, rfl, rfl⟩⟩
theorem yv_X9_takeWord : mj_yV yX9_takeWord dd_X9_takeWord 9 1 := ⟨mem_T (i := 864) (by decide +kernel) rfl, mem_T (i := 141) (by decide +kernel) rfl, Nat.le_of_ble_eq_true rfl, ⟨⟨by decide, by decide⟩, by decide +kernel⟩, mem_T (i := 862) (by decide +kernel) rfl, mem_T (i := 863) (by decide +kernel) rfl, ⟨_, rfl, rfl⟩⟩
theorem yi_X11_init : mj_yI yX11_init dd_X11_init 0 := ⟨mem_T (i := 1414) (by decide +kernel) rfl, mem_T (i := 155) (by decide +kernel) rfl, Nat.le_of_ble_eq_true rfl, ⟨⟨by decide, by decide⟩, by decide +kernel⟩, mem_T (i := 1413) (by decide +kernel) rfl, rfl, rfl⟩
theorem yv_X11_about : mj_yV yX11_about dd_X11_about 11 1 := ⟨mem_T (i := 2091) (by decide +kernel) rfl, mem_T (i := 155) (by decide +kernel) rfl, Nat.le_of_ble_eq_true rfl, ⟨⟨by decide, by decide⟩, by decide +kernel⟩, mem_T (i := 2089) (by decide +kernel) rfl, mem_T (i := 2090) (by decide +kernel) rfl, ⟨_, rfl, rfl⟩⟩
theorem yv_X11_alike : mj_yV yX11_alike dd_X11_alike 11 2 := ⟨mem_T (i := 2067) (by decide +kernel) rfl, mem_T (i := 155) (by decide +kernel) rfl, Nat.le_of_ble_eq_true rfl, ⟨⟨by decide, by decide⟩, by decide +kernel⟩, mem_T (i := 2065) (by decide +kernel) rfl, mem_T (i := 2066) (by decide +kernel) rfl, ⟨_, rfl, rfl⟩⟩
theorem yv_X11_allPending : mj_yV yX11_allPending dd_X11_allPending 11 0 := ⟨mem_T (i := 2055) (by decide +kernel) rfl, mem_T (i := 155) (by decide +kernel) rfl, Nat.le_of_ble_eq_true rfl, ⟨⟨by decide, by decide⟩, by decide +kernel⟩, mem_T (i := 2054) (by decide +kernel) rfl, mem_T (i := 135) (by decide +kernel) rfl, ⟨_, rfl, rfl⟩⟩
theorem yv_X11_back : mj_yV yX11_back dd_X11_back 11 1 := ⟨mem_T (i := 2087) (by decide +kernel) rfl, mem_T (i := 155) (by decide +kernel) rfl, Nat.le_of_ble_eq_true rfl, ⟨⟨by decide, by decide⟩, by decide +kernel⟩, mem_T (i := 2085) (by decide +kernel) rfl, mem_T (i := 2086) (by decide +kernel) rfl, ⟨_, rfl, rfl⟩⟩
theorem yv_X11_balance : mj_yV yX11_balance dd_X11_balance 11 0 := ⟨mem_T (i := 2008) (by decide +kernel) rfl, mem_T (i := 155) (by decide +kernel) rfl, Nat.le_of_ble_eq_true rfl, ⟨⟨by decide, by decide⟩, by decide +kernel⟩, mem_T (i := 2006) (by decide +kernel) rfl, mem_T (i := 2007) (by decide +kernel) rfl, ⟨_, rfl, rfl⟩⟩
theorem yv_X11_begin : mj_yV yX11_begin dd_X11_begin 11 0 := ⟨mem_T (i := 1723) (by decide +kernel) rfl, mem_T (i := 155) (by decide +kernel) rfl, Nat.le_of_ble_eq_true rfl, ⟨⟨by decide, by decide⟩, by decide +kernel⟩, mem_T (i := 1722) (by decide +kernel) rfl, mem_T (i := 75) (by decide +kernel) rfl, ⟨_, rfl, rfl⟩⟩
theorem yv_X11_begins : mj_yV yX11_begins dd_X11_begins 11 0 := ⟨mem_T (i := 1419) (by decide +kernel) rfl, mem_T (i := 155) (by decide +kernel) rfl, Nat.le_of_ble_eq_true rfl, ⟨⟨by decide, by decide⟩, by decide +kernel⟩, mem_T (i := 1418) (by decide +kernel) rfl, mem_T (i := 53) (by decide +kernel) rfl, ⟨_, rfl, rfl⟩⟩
theorem yv_X11_beginsText : mj_yV yX11_beginsText dd_X11_beginsText 11 0 := ⟨mem_T (i := 1606) (by decide +kernel) rfl, mem_T (i := 155) (by decide +kernel) rfl, Nat.le_of_ble_eq_true rfl, ⟨⟨by decide, by decide⟩, by decide +kernel⟩, mem_T (i := 1605) (by decide +kernel) rfl, mem_T (i := 56) (by decide +kernel) rfl, ⟨_, rfl, rfl⟩⟩
theorem yv_X11_blockOf : mj_yV yX11_blockOf dd_X11_blockOf 11 2 := ⟨mem_T (i := 1758) (by decide +kernel) rfl, mem_T (i := 155) (by decide +kernel) rfl, Nat.le_of_ble_eq_true rfl, ⟨⟨by decide, by decide⟩, by decide +kernel⟩, mem_T (i := 1757) (by decide +kernel) rfl, mem_T (i := 83) (by decide +kernel) rfl, ⟨_, rfl, rfl⟩⟩
theorem yv_X11_board : mj_yV yX11_board dd_X11_board 11 0 := ⟨mem_T (i := 1602) (by decide +kernel) rfl, mem_T (i := 155) (by decide +kernel) rfl, Nat.le_of_ble_eq_true rfl, ⟨⟨by decide, by decide⟩, by decide +kernel⟩, mem_T (i := 1600) (by decide +kernel) rfl, mem_T (i := 1601) (by decide +kernel) rfl, ⟨_, rfl, rfl⟩⟩
theorem yv_X11_claim : mj_yV yX11_claim dd_X11_claim 11 1 := ⟨mem_T (i := 1829) (by decide +kernel) rfl, mem_T (i := 155) (by decide +kernel) rfl, Nat.le_of_ble_eq_true rfl, ⟨⟨by decide, by decide⟩, by decide +kernel⟩, mem_T (i := 1827) (by decide +kernel) rfl, mem_T (i := 1828) (by decide +kernel) rfl, ⟨_, rfl, rfl⟩⟩
theorem yv_X11_claims : mj_yV yX11_claims dd_X11_claims 11 1 := ⟨mem_T (i := 1833) (by decide +kernel) rfl, mem_T (i := 155) (by decide +kernel) rfl, Nat.le_of_ble_eq_true rfl, ⟨⟨by decide, by decide⟩, by decide +kernel⟩, mem_T (i := 1832) (by decide +kernel) rfl, mem_T (i := 99) (by decide +kernel) rfl, ⟨_, rfl, rfl⟩⟩
theorem yv_X11_clear : mj_yV yX11_clear dd_X11_clear 11 2 := ⟨mem_T (i := 2015) (by decide +kernel) rfl, mem_T (i := 155) (by decide +kernel) rfl, Nat.le_of_ble_eq_true rfl, ⟨⟨by decide, by decide⟩, by decide +kernel⟩, mem_T (i := 2013) (by decide +kernel) rfl, mem_T (i := 2014) (by decide +kernel) rfl, ⟨_, rfl, rfl⟩⟩
theorem yv_X11_comesBack : mj_yV yX11_comesBack dd_X11_comesBack 11 0 := ⟨mem_T (i := 1809) (by decide +kernel) rfl, mem_T (i := 155) (by decide +kernel) rfl, Nat.le_of_ble_eq_true rfl, ⟨⟨by decide, by decide⟩, by decide +kernel⟩, mem_T (i := 1808) (by decide +kernel) rfl, mem_T (i := 95) (by decide +kernel) rfl, ⟨_, rfl, rfl⟩⟩
theorem yv_X11_cpu : mj_yV yX11_cpu dd_X11_cpu 11 2 := ⟨mem_T (i := 1976) (by decide +kernel) rfl, mem_T (i := 155) (by decide +kernel) rfl, Nat.le_of_ble_eq_true rfl, ⟨⟨by decide, by decide⟩, by decide +kernel⟩, mem_T (i := 1974) (by decide +kernel) rfl, mem_T (i := 1975) (by decide +kernel) rfl, ⟨_, rfl, rfl⟩⟩
theorem yv_X11_cpusLine : mj_yV yX11_cpusLine dd_X11_cpusLine 11 0 := ⟨mem_T (i := 1637) (by decide +kernel) rfl, mem_T (i := 155) (by decide +kernel) rfl, Nat.le_of_ble_eq_true rfl, ⟨⟨by decide, by decide⟩, by decide +kernel⟩, mem_T (i := 1636) (by decide +kernel) rfl, mem_T (i := 62) (by decide +kernel) rfl, ⟨_, rfl, rfl⟩⟩
theorem yv_X11_dealt : mj_yV yX11_dealt dd_X11_dealt 11 2 := ⟨mem_T (i := 1797) (by decide +kernel) rfl, mem_T (i := 155) (by decide +kernel) rfl, Nat.le_of_ble_eq_true rfl, ⟨⟨by decide, by decide⟩, by decide +kernel⟩, mem_T (i := 1796) (by decide +kernel) rfl, mem_T (i := 92) (by decide +kernel) rfl, ⟨_, rfl, rfl⟩⟩
theorem yv_X11_device : mj_yV yX11_device dd_X11_device 11 2 := ⟨mem_T (i := 1992) (by decide +kernel) rfl, mem_T (i := 155) (by decide +kernel) rfl, Nat.le_of_ble_eq_true rfl, ⟨⟨by decide, by decide⟩, by decide +kernel⟩, mem_T (i := 1990) (by decide +kernel) rfl, mem_T (i := 1991) (by decide +kernel) rfl, ⟨_, rfl, rfl⟩⟩
theorem yv_X11_deviceLine : mj_yV yX11_deviceLine dd_X11_deviceLine 11 0 := ⟨mem_T (i := 1665) (by decide +kernel) rfl, mem_T (i := 155) (by decide +kernel) rfl, Nat.le_of_ble_eq_true rfl, ⟨⟨by decide, by decide⟩, by decide +kernel⟩, mem_T (i := 1664) (by decide +kernel) rfl, mem_T (i := 68) (by decide +kernel) rfl, ⟨_, rfl, rfl⟩⟩
theorem yv_X11_does : mj_yV yX11_does dd_X11_does 11 1 := ⟨mem_T (i := 1956) (by decide +kernel) rfl, mem_T (i := 155) (by decide +kernel) rfl, Nat.le_of_ble_eq_true rfl, ⟨⟨by decide, by decide⟩, by decide +kernel⟩, mem_T (i := 1955) (by decide +kernel) rfl, mem_T (i := 123) (by decide +kernel) rfl, ⟨_, rfl, rfl⟩⟩
theorem yv_X11_doesTicks : mj_yV yX11_doesTicks dd_X11_doesTicks 11 1 := ⟨mem_T (i := 1968) (by decide +kernel) rfl, mem_T (i := 155) (by decide +kernel) rfl, Nat.le_of_ble_eq_true rfl, ⟨⟨by decide, by decide⟩, by decide +kernel⟩, mem_T (i := 1967) (by decide +kernel) rfl, mem_T (i := 126) (by decide +kernel) rfl, ⟨_, rfl, rfl⟩⟩
theorem yv_X11_drains : mj_yV yX11_drains dd_X11_drains 11 0 := ⟨mem_T (i := 1880) (by decide +kernel) rfl, mem_T (i := 155) (by decide +kernel) rfl, Nat.le_of_ble_eq_true rfl, ⟨⟨by decide, by decide⟩, by decide +kernel⟩, mem_T (i := 1879) (by decide +kernel) rfl, mem_T (i := 108) (by decide +kernel) rfl, ⟨_, rfl, rfl⟩⟩
theorem yv_X11_end : mj_yV yX11_end dd_X11_end 11 1 := ⟨mem_T (i := 1595) (by decide +kernel) rfl, mem_T (i := 155) (by decide +kernel) rfl, Nat.le_of_ble_eq_true rfl, ⟨⟨by decide, by decide⟩, by decide +kernel⟩, mem_T (i := 1593) (by decide +kernel) rfl, mem_T (i := 1594) (by decide +kernel) rfl, ⟨_, rfl, rfl⟩⟩
theorem yv_X11_endsText : mj_yV yX11_endsText dd_X11_endsText 11 0 := ⟨mem_T (i := 1695) (by decide +kernel) rfl, mem_T (i := 155) (by decide +kernel) rfl, Nat.le_of_ble_eq_true rfl, ⟨⟨by decide, by decide⟩, by decide +kernel⟩, mem_T (i := 1694) (by decide +kernel) rfl, mem_T (i := 72) (by decide +kernel) rfl, ⟨_, rfl, rfl⟩⟩
theorem yv_X11_endsTry : mj_yV yX11_endsTry dd_X11_endsTry 11 0 := ⟨mem_T (i := 2039) (by decide +kernel) rfl, mem_T (i := 155) (by decide +kernel) rfl, Nat.le_of_ble_eq_true rfl, ⟨⟨by decide, by decide⟩, by decide +kernel⟩, mem_T (i := 2038) (by decide +kernel) rfl, mem_T (i := 132) (by decide +kernel) rfl, ⟨_, rfl, rfl⟩⟩
theorem yv_X11_exchanges : mj_yV yX11_exchanges dd_X11_exchanges 11 1 := ⟨mem_T (i := 1707) (by decide +kernel) rfl, mem_T (i := 155) (by decide +kernel) rfl, Nat.le_of_ble_eq_true rfl, ⟨⟨by decide, by decide⟩, by decide +kernel⟩, mem_T (i := 1706) (by decide +kernel) rfl, mem_T (i := 73) (by decide +kernel) rfl, ⟨_, rfl, rfl⟩⟩
theorem yv_X11_fault : mj_yV yX11_fault dd_X11_fault 11 1 := ⟨mem_T (i := 1699) (by decide +kernel) rfl, mem_T (i := 155) (by decide +kernel) rfl, Nat.le_of_ble_eq_true rfl, ⟨⟨by decide, by decide⟩, by decide +kernel⟩, mem_T (i := 1697) (by decide +kernel) rfl, mem_T (i := 1698) (by decide +kernel) rfl, ⟨_, rfl, rfl⟩⟩
theorem yv_X11_feed : mj_yV yX11_feed dd_X11_feed 11 5 := ⟨mem_T (i := 1587) (by decide +kernel) rfl, mem_T (i := 155) (by decide +kernel) rfl, Nat.le_of_ble_eq_true rfl, ⟨⟨by decide, by decide⟩, by decide +kernel⟩, mem_T (i := 1585) (by decide +kernel) rfl, mem_T (i := 1586) (by decide +kernel) rfl, ⟨_, rfl, rfl⟩⟩
theorem yv_X11_four : mj_yV yX11_four dd_X11_four 11 1 := ⟨mem_T (i := 1591) (by decide +kernel) rfl, mem_T (i := 155) (by decide +kernel) rfl, Nat.le_of_ble_eq_true rfl, ⟨⟨by decide, by decide⟩, by decide +kernel⟩, mem_T (i := 1590) (by decide +kernel) rfl, mem_T (i := 55) (by decide +kernel) rfl, ⟨_, rfl, rfl⟩⟩
theorem yv_X11_freeOnline : mj_yV yX11_freeOnline dd_X11_freeOnline 11 0 := ⟨mem_T (i := 1801) (by decide +kernel) rfl, mem_T (i := 155) (by decide +kernel) rfl, Nat.le_of_ble_eq_true rfl, ⟨⟨by decide, by decide⟩, by decide +kernel⟩, mem_T (i := 1800) (by decide +kernel) rfl, mem_T (i := 93) (by decide +kernel) rfl, ⟨_, rfl, rfl⟩⟩
theorem yv_X11_goOn : mj_yV yX11_goOn dd_X11_goOn 11 0 := ⟨mem_T (i := 1610) (by decide +kernel) rfl, mem_T (i := 155) (by decide +kernel) rfl, Nat.le_of_ble_eq_true rfl, ⟨⟨by decide, by decide⟩, by decide +kernel⟩, mem_T (i := 1609) (by decide +kernel) rfl, mem_T (i := 57) (by decide +kernel) rfl, ⟨_, rfl, rfl⟩⟩
theorem ys_X11_greater : mj_yS yX11_greater dd_X11_greater 2 := ⟨mem_T (i := 2011) (by decide +kernel) rfl, mem_T (i := 155) (by decide +kernel) rfl, Nat.le_of_ble_eq_true rfl, ⟨⟨by decide, by decide⟩, by decide +kernel⟩, mem_T (i := 2010) (by decide +kernel) rfl⟩
theorem yv_X11_greatestBlock : mj_yV yX11_greatestBlock dd_X11_greatestBlock 11 1 := ⟨mem_T (i := 1984) (by decide +kernel) rfl, mem_T (i := 155) (by decide +kernel) rfl, Nat.le_of_ble_eq_true rfl, ⟨⟨by decide, by decide⟩, by decide +kernel⟩, mem_T (i := 1983) (by decide +kernel) rfl, mem_T (i := 128) (by decide +kernel) rfl, ⟨_, rfl, rfl⟩⟩
theorem yv_X11_handles : mj_yV yX11_handles dd_X11_handles 11 1 := ⟨mem_T (i := 1869) (by decide +kernel) rfl, mem_T (i := 155) (by decide +kernel) rfl, Nat.le_of_ble_eq_true rfl, ⟨⟨by decide, by decide⟩, by decide +kernel⟩, mem_T (i := 1868) (by decide +kernel) rfl, mem_T (i := 106) (by decide +kernel) rfl, ⟨_, rfl, rfl⟩⟩
theorem yv_X11_hasAnyOld : mj_yV yX11_hasAnyOld dd_X11_hasAnyOld 11 2 := ⟨mem_T (i := 1896) (by decide +kernel) rfl, mem_T (i := 155) (by decide +kernel) rfl, Nat.le_of_ble_eq_true rfl, ⟨⟨by decide, by decide⟩, by decide +kernel⟩, mem_T (i := 1895) (by decide +kernel) rfl, mem_T (i := 111) (by decide +kernel) rfl, ⟨_, rfl, rfl⟩⟩
theorem yv_X11_hasOld : mj_yV yX11_hasOld dd_X11_hasOld 11 2 := ⟨mem_T (i := 1849) (by decide +kernel) rfl, mem_T (i := 155) (by decide +kernel) rfl, Nat.le_of_ble_eq_true rfl, ⟨⟨by decide, by decide⟩, by decide +kernel⟩, mem_T (i := 1848) (by decide +kernel) rfl, mem_T (i := 102) (by decide +kernel) rfl, ⟨_, rfl, rfl⟩⟩
theorem yv_X11_heldLines : mj_yV yX11_heldLines dd_X11_heldLines 11 0 := ⟨mem_T (i := 2083) (by decide +kernel) rfl, mem_T (i := 155) (by decide +kernel) rfl, Nat.le_of_ble_eq_true rfl, ⟨⟨by decide, by decide⟩, by decide +kernel⟩, mem_T (i := 2082) (by decide +kernel) rfl, mem_T (i := 137) (by decide +kernel) rfl, ⟨_, rfl, rfl⟩⟩
theorem yv_X11_here : mj_yV yX11_here dd_X11_here 11 1 := ⟨mem_T (i := 1614) (by decide +kernel) rfl, mem_T (i := 155) (by decide +kernel) rfl, Nat.le_of_ble_eq_true rfl, ⟨⟨by decide, by decide⟩, by decide +kernel⟩, mem_T (i := 1613) (by decide +kernel) rfl, mem_T (i := 58) (by decide +kernel) rfl, ⟨_, rfl, rfl⟩⟩
theorem yv_X11_holds : mj_yV yX11_holds dd_X11_holds 11 4 := ⟨mem_T (i := 1789) (by decide +kernel) rfl, mem_T (i := 155) (by decide +kernel) rfl, Nat.le_of_ble_eq_true rfl, ⟨⟨by decide, by decide⟩, by decide +kernel⟩, mem_T (i := 1788) (by decide +kernel) rfl, mem_T (i := 90) (by decide +kernel) rfl, ⟨_, rfl, rfl⟩⟩
theorem yv_X11_image : mj_yV yX11_image dd_X11_image 11 1 := ⟨mem_T (i := 2079) (by decide +kernel) rfl, mem_T (i := 155) (by decide +kernel) rfl, Nat.le_of_ble_eq_true rfl, ⟨⟨by decide, by decide⟩, by decide +kernel⟩, mem_T (i := 2077) (by decide +kernel) rfl, mem_T (i := 2078) (by decide +kernel) rfl, ⟨_, rfl, rfl⟩⟩
theorem yv_X11_isAlike : mj_yV yX11_isAlike dd_X11_isAlike 11 3 := ⟨mem_T (i := 2071) (by decide +kernel) rfl, mem_T (i := 155) (by decide +kernel) rfl, Nat.le_of_ble_eq_true rfl, ⟨⟨by decide, by decide⟩, by decide +kernel⟩, mem_T (i := 2070) (by decide +kernel) rfl, mem_T (i := 136) (by decide +kernel) rfl, ⟨_, rfl, rfl⟩⟩
theorem yv_X11_isBrought : mj_yV yX11_isBrought dd_X11_isBrought 11 2 := ⟨mem_T (i := 1928) (by decide +kernel) rfl, mem_T (i := 155) (by decide +kernel) rfl, Nat.le_of_ble_eq_true rfl, ⟨⟨by decide, by decide⟩, by decide +kernel⟩, mem_T (i := 1927) (by decide +kernel) rfl, mem_T (i := 118) (by decide +kernel) rfl, ⟨_, rfl, rfl⟩⟩
theorem yv_X11_isCleared : mj_yV yX11_isCleared dd_X11_isCleared 11 2 := ⟨mem_T (i := 1920) (by decide +kernel) rfl, mem_T (i := 155) (by decide +kernel) rfl, Nat.le_of_ble_eq_true rfl, ⟨⟨by decide, by decide⟩, by decide +kernel⟩, mem_T (i := 1919) (by decide +kernel) rfl, mem_T (i := 116) (by decide +kernel) rfl, ⟨_, rfl, rfl⟩⟩
theorem yv_X11_isCpu : mj_yV yX11_isCpu dd_X11_isCpu 11 1 := ⟨mem_T (i := 1908) (by decide +kernel) rfl, mem_T (i := 155) (by decide +kernel) rfl, Nat.le_of_ble_eq_true rfl, ⟨⟨by decide, by decide⟩, by decide +kernel⟩, mem_T (i := 1907) (by decide +kernel) rfl, mem_T (i := 113) (by decide +kernel) rfl, ⟨_, rfl, rfl⟩⟩
theorem yv_X11_isDevice : mj_yV yX11_isDevice dd_X11_isDevice 11 1 := ⟨mem_T (i := 1719) (by decide +kernel) rfl, mem_T (i := 155) (by decide +kernel) rfl, Nat.le_of_ble_eq_true rfl, ⟨⟨by decide, by decide⟩, by decide +kernel⟩, mem_T (i := 1718) (by decide +kernel) rfl, mem_T (i := 74) (by decide +kernel) rfl, ⟨_, rfl, rfl⟩⟩
theorem ys_X11_isDigit : mj_yS yX11_isDigit dd_X11_isDigit 1 := ⟨mem_T (i := 1620) (by decide +kernel) rfl, mem_T (i := 155) (by decide +kernel) rfl, Nat.le_of_ble_eq_true rfl, ⟨⟨by decide, by decide⟩, by decide +kernel⟩, mem_T (i := 1619) (by decide +kernel) rfl⟩
theorem yv_X11_isGood : mj_yV yX11_isGood dd_X11_isGood 11 0 := ⟨mem_T (i := 1624) (by decide +kernel) rfl, mem_T (i := 155) (by decide +kernel) rfl, Nat.le_of_ble_eq_true rfl, ⟨⟨by decide, by decide⟩, by decide +kernel⟩, mem_T (i := 1623) (by decide +kernel) rfl, mem_T (i := 59) (by decide +kernel) rfl, ⟨_, rfl, rfl⟩⟩
theorem ys_X11_isIn : mj_yS yX11_isIn dd_X11_isIn 3 := ⟨mem_T (i := 1598) (by decide +kernel) rfl, mem_T (i := 155) (by decide +kernel) rfl, Nat.le_of_ble_eq_true rfl, ⟨⟨by decide, by decide⟩, by decide +kernel⟩, mem_T (i := 1597) (by decide +kernel) rfl⟩
theorem ys_X11_isLetter : mj_yS yX11_isLetter dd_X11_isLetter 1 := ⟨mem_T (i := 1617) (by decide +kernel) rfl, mem_T (i := 155) (by decide +kernel) rfl, Nat.le_of_ble_eq_true rfl, ⟨⟨by decide, by decide⟩, by decide +kernel⟩, mem_T (i := 1616) (by decide +kernel) rfl⟩
theorem yv_X11_isLine : mj_yV yX11_isLine dd_X11_isLine 11 2 := ⟨mem_T (i := 1841) (by decide +kernel) rfl, mem_T (i := 155) (by decide +kernel) rfl, Nat.le_of_ble_eq_true rfl, ⟨⟨by decide, by decide⟩, by decide +kernel⟩, mem_T (i := 1840) (by decide +kernel) rfl, mem_T (i := 100) (by decide +kernel) rfl, ⟨_, rfl, rfl⟩⟩
theorem ys_X11_isOf : mj_yS yX11_isOf dd_X11_isOf 2 := ⟨mem_T (i := 1426) (by decide +kernel) rfl, mem_T (i := 155) (by decide +kernel) rfl, Nat.le_of_ble_eq_true rfl, ⟨⟨by decide, by decide⟩, by decide +kernel⟩, mem_T (i := 1425) (by decide +kernel) rfl⟩
theorem yv_X11_isOnline : mj_yV yX11_isOnline dd_X11_isOnline 11 1 := ⟨mem_T (i := 1773) (by decide +kernel) rfl, mem_T (i := 155) (by decide +kernel) rfl, Nat.le_of_ble_eq_true rfl, ⟨⟨by decide, by decide⟩, by decide +kernel⟩, mem_T (i := 1772) (by decide +kernel) rfl, mem_T (i := 86) (by decide +kernel) rfl, ⟨_, rfl, rfl⟩⟩
theorem yv_X11_isOwn : mj_yV yX11_isOwn dd_X11_isOwn 11 0 := ⟨mem_T (i := 1673) (by decide +kernel) rfl, mem_T (i := 155) (by decide +kernel) rfl, Nat.le_of_ble_eq_true rfl, ⟨⟨by decide, by decide⟩, by decide +kernel⟩, mem_T (i := 1672) (by decide +kernel) rfl, mem_T (i := 70) (by decide +kernel) rfl, ⟨_, rfl, rfl⟩⟩
theorem yv_X11_isStarted : mj_yV yX11_isStarted dd_X11_isStarted 11 1 := ⟨mem_T (i := 1731) (by decide +kernel) rfl, mem_T (i := 155) (by decide +kernel) rfl, Nat.le_of_ble_eq_true rfl, ⟨⟨by decide, by decide⟩, by decide +kernel⟩, mem_T (i := 1730) (by decide +kernel) rfl, mem_T (i := 77) (by decide +kernel) rfl, ⟨_, rfl, rfl⟩⟩
theorem yv_X11_isWord : mj_yV yX11_isWord dd_X11_isWord 11 1 := ⟨mem_T (i := 1633) (by decide +kernel) rfl, mem_T (i := 155) (by decide +kernel) rfl, Nat.le_of_ble_eq_true rfl, ⟨⟨by decide, by decide⟩, by decide +kernel⟩, mem_T (i := 1632) (by decide +kernel) rfl, mem_T (i := 61) (by decide +kernel) rfl, ⟨_, rfl, rfl⟩⟩
theorem yv_X11_keeps : mj_yV yX11_keeps dd_X11_keeps 11 0 := ⟨mem_T (i := 1817) (by decide +kernel) rfl, mem_T (i := 155) (by decide +kernel) rfl, Nat.le_of_ble_eq_true rfl, ⟨⟨by decide, by decide⟩, by decide +kernel⟩, mem_T (i := 1816) (by decide +kernel) rfl, mem_T (i := 97) (by decide +kernel) rfl, ⟨_, rfl, rfl⟩⟩
theorem yv_X11_kept : mj_yV yX11_kept dd_X11_kept 11 1 := ⟨mem_T (i := 1813) (by decide +kernel) rfl, mem_T (i := 155) (by decide +kernel) rfl, Nat.le_of_ble_eq_true rfl, ⟨⟨by decide, by decide⟩, by decide +kernel⟩, mem_T (i := 1812) (by decide +kernel) rfl, mem_T (i := 96) (by decide +kernel) rfl, ⟨_, rfl, rfl⟩⟩
theorem yv_X11_knownDevice : mj_yV yX11_knownDevice dd_X11_knownDevice 11 0 := ⟨mem_T (i := 1952) (by decide +kernel) rfl, mem_T (i := 155) (by decide +kernel) rfl, Nat.le_of_ble_eq_true rfl, ⟨⟨by decide, by decide⟩, by decide +kernel⟩, mem_T (i := 1951) (by decide +kernel) rfl, mem_T (i := 122) (by decide +kernel) rfl, ⟨_, rfl, rfl⟩⟩
theorem yv_X11_law : mj_yV yX11_law dd_X11_law 11 0 := ⟨mem_T (i := 2075) (by decide +kernel) rfl, mem_T (i := 155) (by decide +kernel) rfl, Nat.le_of_ble_eq_true rfl, ⟨⟨by decide, by decide⟩, by decide +kernel⟩, mem_T (i := 2073) (by decide +kernel) rfl, mem_T (i := 2074) (by decide +kernel) rfl, ⟨_, rfl, rfl⟩⟩
theorem yv_X11_laysClear : mj_yV yX11_laysClear dd_X11_laysClear 11 1 := ⟨mem_T (i := 2019) (by decide +kernel) rfl, mem_T (i := 155) (by decide +kernel) rfl, Nat.le_of_ble_eq_true rfl, ⟨⟨by decide, by decide⟩, by decide +kernel⟩, mem_T (i := 2018) (by decide +kernel) rfl, mem_T (i := 129) (by decide +kernel) rfl, ⟨_, rfl, rfl⟩⟩
theorem yv_X11_leastOf : mj_yV yX11_leastOf dd_X11_leastOf 11 1 := ⟨mem_T (i := 1769) (by decide +kernel) rfl, mem_T (i := 155) (by decide +kernel) rfl, Nat.le_of_ble_eq_true rfl, ⟨⟨by decide, by decide⟩, by decide +kernel⟩, mem_T (i := 1768) (by decide +kernel) rfl, mem_T (i := 85) (by decide +kernel) rfl, ⟨_, rfl, rfl⟩⟩
theorem yv_X11_leaves : mj_yV yX11_leaves dd_X11_leaves 11 4 := ⟨mem_T (i := 1884) (by decide +kernel) rfl, mem_T (i := 155) (by decide +kernel) rfl, Nat.le_of_ble_eq_true rfl, ⟨⟨by decide, by decide⟩, by decide +kernel⟩, mem_T (i := 1883) (by decide +kernel) rfl, mem_T (i := 109) (by decide +kernel) rfl, ⟨_, rfl, rfl⟩⟩
theorem ys_X11_lesser : mj_yS yX11_lesser dd_X11_lesser 2 := ⟨mem_T (i := 1876) (by decide +kernel) rfl, mem_T (i := 155) (by decide +kernel) rfl, Nat.le_of_ble_eq_true rfl, ⟨⟨by decide, by decide⟩, by decide +kernel⟩, mem_T (i := 1875) (by decide +kernel) rfl⟩
theorem yv_X11_line : mj_yV yX11_line dd_X11_line 11 0 := ⟨mem_T (i := 1628) (by decide +kernel) rfl, mem_T (i := 155) (by decide +kernel) rfl, Nat.le_of_ble_eq_true rfl, ⟨⟨by decide, by decide⟩, by decide +kernel⟩, mem_T (i := 1627) (by decide +kernel) rfl, mem_T (i := 60) (by decide +kernel) rfl, ⟨_, rfl, rfl⟩⟩
theorem yv_X11_line_ : mj_yV yX11_line_ dd_X11_line_ 11 3 := ⟨mem_T (i := 1996) (by decide +kernel) rfl, mem_T (i := 155) (by decide +kernel) rfl, Nat.le_of_ble_eq_true rfl, ⟨⟨by decide, by decide⟩, by decide +kernel⟩, mem_T (i := 1994) (by decide +kernel) rfl, mem_T (i := 1995) (by decide +kernel) rfl, ⟨_, rfl, rfl⟩⟩
theorem ys_X11_lineAt : mj_yS yX11_lineAt dd_X11_lineAt 2 := ⟨mem_T (i := 1738) (by decide +kernel) rfl, mem_T (i := 155) (by decide +kernel) rfl, Nat.le_of_ble_eq_true rfl, ⟨⟨by decide, by decide⟩, by decide +kernel⟩, mem_T (i := 1737) (by decide +kernel) rfl⟩
theorem yv_X11_loadOf : mj_yV yX11_loadOf dd_X11_loadOf 11 1 := ⟨mem_T (i := 1777) (by decide +kernel) rfl, mem_T (i := 155) (by decide +kernel) rfl, Nat.le_of_ble_eq_true rfl, ⟨⟨by decide, by decide⟩, by decide +kernel⟩, mem_T (i := 1776) (by decide +kernel) rfl, mem_T (i := 87) (by decide +kernel) rfl, ⟨_, rfl, rfl⟩⟩
theorem yv_X11_log : mj_yV yX11_log dd_X11_log 11 2 := ⟨mem_T (i := 2063) (by decide +kernel) rfl, mem_T (i := 155) (by decide +kernel) rfl, Nat.le_of_ble_eq_true rfl, ⟨⟨by decide, by decide⟩, by decide +kernel⟩, mem_T (i := 2061) (by decide +kernel) rfl, mem_T (i := 2062) (by decide +kernel) rfl, ⟨_, rfl, rfl⟩⟩
theorem yv_X11_logs : mj_yV yX11_logs dd_X11_logs 11 5 := ⟨mem_T (i := 1873) (by decide +kernel) rfl, mem_T (i := 155) (by decide +kernel) rfl, Nat.le_of_ble_eq_true rfl, ⟨⟨by decide, by decide⟩, by decide +kernel⟩, mem_T (i := 1872) (by decide +kernel) rfl, mem_T (i := 107) (by decide +kernel) rfl, ⟨_, rfl, rfl⟩⟩
theorem yv_X11_manyOf : mj_yV yX11_manyOf dd_X11_manyOf 11 2 := ⟨mem_T (i := 1781) (by decide +kernel) rfl, mem_T (i := 155) (by decide +kernel) rfl, Nat.le_of_ble_eq_true rfl, ⟨⟨by decide, by decide⟩, by decide +kernel⟩, mem_T (i := 1780) (by decide +kernel) rfl, mem_T (i := 88) (by decide +kernel) rfl, ⟨_, rfl, rfl⟩⟩
theorem yv_X11_merges : mj_yV yX11_merges dd_X11_merges 11 1 := ⟨mem_T (i := 1857) (by decide +kernel) rfl, mem_T (i := 155) (by decide +kernel) rfl, Nat.le_of_ble_eq_true rfl, ⟨⟨by decide, by decide⟩, by decide +kernel⟩, mem_T (i := 1856) (by decide +kernel) rfl, mem_T (i := 104) (by decide +kernel) rfl, ⟨_, rfl, rfl⟩⟩
theorem yv_X11_move : mj_yV yX11_move dd_X11_move 11 3 := ⟨mem_T (i := 1888) (by decide +kernel) rfl, mem_T (i := 155) (by decide +kernel) rfl, Nat.le_of_ble_eq_true rfl, ⟨⟨by decide, by decide⟩, by decide +kernel⟩, mem_T (i := 1886) (by decide +kernel) rfl, mem_T (i := 1887) (by decide +kernel) rfl, ⟨_, rfl, rfl⟩⟩
theorem yv_X11_moves : mj_yV yX11_moves dd_X11_moves 11 4 := ⟨mem_T (i := 1900) (by decide +kernel) rfl, mem_T (i := 155) (by decide +kernel) rfl, Nat.le_of_ble_eq_true rfl, ⟨⟨by decide, by decide⟩, by decide +kernel⟩, mem_T (i := 1899) (by decide +kernel) rfl, mem_T (i := 112) (by decide +kernel) rfl, ⟨_, rfl, rfl⟩⟩
theorem yv_X11_movesTo : mj_yV yX11_movesTo dd_X11_movesTo 11 3 := ⟨mem_T (i := 1892) (by decide +kernel) rfl, mem_T (i := 155) (by decide +kernel) rfl, Nat.le_of_ble_eq_true rfl, ⟨⟨by decide, by decide⟩, by decide +kernel⟩, mem_T (i := 1891) (by decide +kernel) rfl, mem_T (i := 110) (by decide +kernel) rfl, ⟨_, rfl, rfl⟩⟩
theorem yv_X11_mustGo : mj_yV yX11_mustGo dd_X11_mustGo 11 3 := ⟨mem_T (i := 2023) (by decide +kernel) rfl, mem_T (i := 155) (by decide +kernel) rfl, Nat.le_of_ble_eq_true rfl, ⟨⟨by decide, by decide⟩, by decide +kernel⟩, mem_T (i := 2022) (by decide +kernel) rfl, mem_T (i := 130) (by decide +kernel) rfl, ⟨_, rfl, rfl⟩⟩
theorem yv_X11_nameHere : mj_yV yX11_nameHere dd_X11_nameHere 11 0 := ⟨mem_T (i := 1669) (by decide +kernel) rfl, mem_T (i := 155) (by decide +kernel) rfl, Nat.le_of_ble_eq_true rfl, ⟨⟨by decide, by decide⟩, by decide +kernel⟩, mem_T (i := 1668) (by decide +kernel) rfl, mem_T (i := 69) (by decide +kernel) rfl, ⟨_, rfl, rfl⟩⟩
theorem yv_X11_nearest : mj_yV yX11_nearest dd_X11_nearest 11 0 := ⟨mem_T (i := 2027) (by decide +kernel) rfl, mem_T (i := 155) (by decide +kernel) rfl, Nat.le_of_ble_eq_true rfl, ⟨⟨by decide, by decide⟩, by decide +kernel⟩, mem_T (i := 2025) (by decide +kernel) rfl, mem_T (i := 2026) (by decide +kernel) rfl, ⟨_, rfl, rfl⟩⟩
theorem yv_X11_noOld : mj_yV yX11_noOld dd_X11_noOld 11 2 := ⟨mem_T (i := 1742) (by decide +kernel) rfl, mem_T (i := 155) (by decide +kernel) rfl, Nat.le_of_ble_eq_true rfl, ⟨⟨by decide, by decide⟩, by decide +kernel⟩, mem_T (i := 1741) (by decide +kernel) rfl, mem_T (i := 79) (by decide +kernel) rfl, ⟨_, rfl, rfl⟩⟩
theorem yv_X11_numberHere : mj_yV yX11_numberHere dd_X11_numberHere 11 2 := ⟨mem_T (i := 1649) (by decide +kernel) rfl, mem_T (i := 155) (by decide +kernel) rfl, Nat.le_of_ble_eq_true rfl, ⟨⟨by decide, by decide⟩, by decide +kernel⟩, mem_T (i := 1648) (by decide +kernel) rfl, mem_T (i := 65) (by decide +kernel) rfl, ⟨_, rfl, rfl⟩⟩
theorem yv_X11_numberIn : mj_yV yX11_numberIn dd_X11_numberIn 11 2 := ⟨mem_T (i := 1645) (by decide +kernel) rfl, mem_T (i := 155) (by decide +kernel) rfl, Nat.le_of_ble_eq_true rfl, ⟨⟨by decide, by decide⟩, by decide +kernel⟩, mem_T (i := 1644) (by decide +kernel) rfl, mem_T (i := 64) (by decide +kernel) rfl, ⟨_, rfl, rfl⟩⟩
theorem yv_X11_oldLeaves : mj_yV yX11_oldLeaves dd_X11_oldLeaves 11 3 := ⟨mem_T (i := 1924) (by decide +kernel) rfl, mem_T (i := 155) (by decide +kernel) rfl, Nat.le_of_ble_eq_true rfl, ⟨⟨by decide, by decide⟩, by decide +kernel⟩, mem_T (i := 1923) (by decide +kernel) rfl, mem_T (i := 117) (by decide +kernel) rfl, ⟨_, rfl, rfl⟩⟩
theorem yv_X11_online : mj_yV yX11_online dd_X11_online 11 0 := ⟨mem_T (i := 1916) (by decide +kernel) rfl, mem_T (i := 155) (by decide +kernel) rfl, Nat.le_of_ble_eq_true rfl, ⟨⟨by decide, by decide⟩, by decide +kernel⟩, mem_T (i := 1915) (by decide +kernel) rfl, mem_T (i := 115) (by decide +kernel) rfl, ⟨_, rfl, rfl⟩⟩
theorem yv_X11_orderHere : mj_yV yX11_orderHere dd_X11_orderHere 11 0 := ⟨mem_T (i := 1682) (by decide +kernel) rfl, mem_T (i := 155) (by decide +kernel) rfl, Nat.le_of_ble_eq_true rfl, ⟨⟨by decide, by decide⟩, by decide +kernel⟩, mem_T (i := 1681) (by decide +kernel) rfl, mem_T (i := 71) (by decide +kernel) rfl, ⟨_, rfl, rfl⟩⟩
theorem yv_X11_orders : mj_yV yX11_orders dd_X11_orders 11 0 := ⟨mem_T (i := 1944) (by decide +kernel) rfl, mem_T (i := 155) (by decide +kernel) rfl, Nat.le_of_ble_eq_true rfl, ⟨⟨by decide, by decide⟩, by decide +kernel⟩, mem_T (i := 1942) (by decide +kernel) rfl, mem_T (i := 1943) (by decide +kernel) rfl, ⟨_, rfl, rfl⟩⟩
theorem yv_X11_pendingOf : mj_yV yX11_pendingOf dd_X11_pendingOf 11 1 := ⟨mem_T (i := 1980) (by decide +kernel) rfl, mem_T (i := 155) (by decide +kernel) rfl, Nat.le_of_ble_eq_true rfl, ⟨⟨by decide, by decide⟩, by decide +kernel⟩, mem_T (i := 1979) (by decide +kernel) rfl, mem_T (i := 127) (by decide +kernel) rfl, ⟨_, rfl, rfl⟩⟩
theorem yv_X11_pends : mj_yV yX11_pends dd_X11_pends 11 3 := ⟨mem_T (i := 1853) (by decide +kernel) rfl, mem_T (i := 155) (by decide +kernel) rfl, Nat.le_of_ble_eq_true rfl, ⟨⟨by decide, by decide⟩, by decide +kernel⟩, mem_T (i := 1852) (by decide +kernel) rfl, mem_T (i := 103) (by decide +kernel) rfl, ⟨_, rfl, rfl⟩⟩
theorem yv_X11_plug : mj_yV yX11_plug dd_X11_plug 11 1 := ⟨mem_T (i := 1936) (by decide +kernel) rfl, mem_T (i := 155) (by decide +kernel) rfl, Nat.le_of_ble_eq_true rfl, ⟨⟨by decide, by decide⟩, by decide +kernel⟩, mem_T (i := 1934) (by decide +kernel) rfl, mem_T (i := 1935) (by decide +kernel) rfl, ⟨_, rfl, rfl⟩⟩
theorem yv_X11_plugs : mj_yV yX11_plugs dd_X11_plugs 11 1 := ⟨mem_T (i := 1940) (by decide +kernel) rfl, mem_T (i := 155) (by decide +kernel) rfl, Nat.le_of_ble_eq_true rfl, ⟨⟨by decide, by decide⟩, by decide +kernel⟩, mem_T (i := 1939) (by decide +kernel) rfl, mem_T (i := 120) (by decide +kernel) rfl, ⟨_, rfl, rfl⟩⟩
theorem yv_X11_promised : mj_yV yX11_promised dd_X11_promised 11 0 := ⟨mem_T (i := 1805) (by decide +kernel) rfl, mem_T (i := 155) (by decide +kernel) rfl, Nat.le_of_ble_eq_true rfl, ⟨⟨by decide, by decide⟩, by decide +kernel⟩, mem_T (i := 1804) (by decide +kernel) rfl, mem_T (i := 94) (by decide +kernel) rfl, ⟨_, rfl, rfl⟩⟩
theorem yv_X11_putsAside : mj_yV yX11_putsAside dd_X11_putsAside 11 0 := ⟨mem_T (i := 1735) (by decide +kernel) rfl, mem_T (i := 155) (by decide +kernel) rfl, Nat.le_of_ble_eq_true rfl, ⟨⟨by decide, by decide⟩, by decide +kernel⟩, mem_T (i := 1734) (by decide +kernel) rfl, mem_T (i := 78) (by decide +kernel) rfl, ⟨_, rfl, rfl⟩⟩
theorem yv_X11_queueLeaves : mj_yV yX11_queueLeaves dd_X11_queueLeaves 11 3 := ⟨mem_T (i := 1932) (by decide +kernel) rfl, mem_T (i := 155) (by decide +kernel) rfl, Nat.le_of_ble_eq_true rfl, ⟨⟨by decide, by decide⟩, by decide +kernel⟩, mem_T (i := 1931) (by decide +kernel) rfl, mem_T (i := 119) (by decide +kernel) rfl, ⟨_, rfl, rfl⟩⟩
theorem yv_X11_quiet : mj_yV yX11_quiet dd_X11_quiet 11 0 := ⟨mem_T (i := 2059) (by decide +kernel) rfl, mem_T (i := 155) (by decide +kernel) rfl, Nat.le_of_ble_eq_true rfl, ⟨⟨by decide, by decide⟩, by decide +kernel⟩, mem_T (i := 2057) (by decide +kernel) rfl, mem_T (i := 2058) (by decide +kernel) rfl, ⟨_, rfl, rfl⟩⟩
theorem yv_X11_raise : mj_yV yX11_raise dd_X11_raise 11 3 := ⟨mem_T (i := 1837) (by decide +kernel) rfl, mem_T (i := 155) (by decide +kernel) rfl, Nat.le_of_ble_eq_true rfl, ⟨⟨by decide, by decide⟩, by decide +kernel⟩, mem_T (i := 1835) (by decide +kernel) rfl, mem_T (i := 1836) (by decide +kernel) rfl, ⟨_, rfl, rfl⟩⟩
theorem yv_X11_raises : mj_yV yX11_raises dd_X11_raises 11 3 := ⟨mem_T (i := 1845) (by decide +kernel) rfl, mem_T (i := 155) (by decide +kernel) rfl, Nat.le_of_ble_eq_true rfl, ⟨⟨by decide, by decide⟩, by decide +kernel⟩, mem_T (i := 1844) (by decide +kernel) rfl, mem_T (i := 101) (by decide +kernel) rfl, ⟨_, rfl, rfl⟩⟩
theorem yv_X11_raisesAt : mj_yV yX11_raisesAt dd_X11_raisesAt 11 1 := ⟨mem_T (i := 2051) (by decide +kernel) rfl, mem_T (i := 155) (by decide +kernel) rfl, Nat.le_of_ble_eq_true rfl, ⟨⟨by decide, by decide⟩, by decide +kernel⟩, mem_T (i := 2050) (by decide +kernel) rfl, mem_T (i := 134) (by decide +kernel) rfl, ⟨_, rfl, rfl⟩⟩
theorem yv_X11_raisesOr : mj_yV yX11_raisesOr dd_X11_raisesOr 11 3 := ⟨mem_T (i := 1964) (by decide +kernel) rfl, mem_T (i := 155) (by decide +kernel) rfl, Nat.le_of_ble_eq_true rfl, ⟨⟨by decide, by decide⟩, by decide +kernel⟩, mem_T (i := 1963) (by decide +kernel) rfl, mem_T (i := 125) (by decide +kernel) rfl, ⟨_, rfl, rfl⟩⟩
theorem yv_X11_readOrder : mj_yV yX11_readOrder dd_X11_readOrder 11 0 := ⟨mem_T (i := 1948) (by decide +kernel) rfl, mem_T (i := 155) (by decide +kernel) rfl, Nat.le_of_ble_eq_true rfl, ⟨⟨by decide, by decide⟩, by decide +kernel⟩, mem_T (i := 1947) (by decide +kernel) rfl, mem_T (i := 121) (by decide +kernel) rfl, ⟨_, rfl, rfl⟩⟩
theorem yv_X11_redo : mj_yV yX11_redo dd_X11_redo 11 0 := ⟨mem_T (i := 1711) (by decide +kernel) rfl, mem_T (i := 155) (by decide +kernel) rfl, Nat.le_of_ble_eq_true rfl, ⟨⟨by decide, by decide⟩, by decide +kernel⟩, mem_T (i := 1709) (by decide +kernel) rfl, mem_T (i := 1710) (by decide +kernel) rfl, ⟨_, rfl, rfl⟩⟩
theorem yv_X11_refused : mj_yV yX11_refused dd_X11_refused 11 0 := ⟨mem_T (i := 1972) (by decide +kernel) rfl, mem_T (i := 155) (by decide +kernel) rfl, Nat.le_of_ble_eq_true rfl, ⟨⟨by decide, by decide⟩, by decide +kernel⟩, mem_T (i := 1970) (by decide +kernel) rfl, mem_T (i := 1971) (by decide +kernel) rfl, ⟨_, rfl, rfl⟩⟩
theorem yv_X11_reservedAt : mj_yV yX11_reservedAt dd_X11_reservedAt 11 3 := ⟨mem_T (i := 1785) (by decide +kernel) rfl, mem_T (i := 155) (by decide +kernel) rfl, Nat.le_of_ble_eq_true rfl, ⟨⟨by decide, by decide⟩, by decide +kernel⟩, mem_T (i := 1784) (by decide +kernel) rfl, mem_T (i := 89) (by decide +kernel) rfl, ⟨_, rfl, rfl⟩⟩
theorem yv_X11_room : mj_yV yX11_room dd_X11_room 11 1 := ⟨mem_T (i := 2004) (by decide +kernel) rfl, mem_T (i := 155) (by decide +kernel) rfl, Nat.le_of_ble_eq_true rfl, ⟨⟨by decide, by decide⟩, by decide +kernel⟩, mem_T (i := 2002) (by decide +kernel) rfl, mem_T (i := 2003) (by decide +kernel) rfl, ⟨_, rfl, rfl⟩⟩
theorem yv_X11_setMany : mj_yV yX11_setMany dd_X11_setMany 11 1 := ⟨mem_T (i := 1754) (by decide +kernel) rfl, mem_T (i := 155) (by decide +kernel) rfl, Nat.le_of_ble_eq_true rfl, ⟨⟨by decide, by decide⟩, by decide +kernel⟩, mem_T (i := 1753) (by decide +kernel) rfl, mem_T (i := 82) (by decide +kernel) rfl, ⟨_, rfl, rfl⟩⟩
theorem yv_X11_setOf : mj_yV yX11_setOf dd_X11_setOf 11 2 := ⟨mem_T (i := 1659) (by decide +kernel) rfl, mem_T (i := 155) (by decide +kernel) rfl, Nat.le_of_ble_eq_true rfl, ⟨⟨by decide, by decide⟩, by decide +kernel⟩, mem_T (i := 1658) (by decide +kernel) rfl, mem_T (i := 67) (by decide +kernel) rfl, ⟨_, rfl, rfl⟩⟩
theorem yv_X11_sets : mj_yV yX11_sets dd_X11_sets 11 5 := ⟨mem_T (i := 1765) (by decide +kernel) rfl, mem_T (i := 155) (by decide +kernel) rfl, Nat.le_of_ble_eq_true rfl, ⟨⟨by decide, by decide⟩, by decide +kernel⟩, mem_T (i := 1764) (by decide +kernel) rfl, mem_T (i := 84) (by decide +kernel) rfl, ⟨_, rfl, rfl⟩⟩
theorem ys_X11_spot : mj_yS yX11_spot dd_X11_spot 2 := ⟨mem_T (i := 1761) (by decide +kernel) rfl, mem_T (i := 155) (by decide +kernel) rfl, Nat.le_of_ble_eq_true rfl, ⟨⟨by decide, by decide⟩, by decide +kernel⟩, mem_T (i := 1760) (by decide +kernel) rfl⟩
theorem yv_X11_spread : mj_yV yX11_spread dd_X11_spread 11 2 := ⟨mem_T (i := 2000) (by decide +kernel) rfl, mem_T (i := 155) (by decide +kernel) rfl, Nat.le_of_ble_eq_true rfl, ⟨⟨by decide, by decide⟩, by decide +kernel⟩, mem_T (i := 1998) (by decide +kernel) rfl, mem_T (i := 1999) (by decide +kernel) rfl, ⟨_, rfl, rfl⟩⟩
theorem yv_X11_spreadOf : mj_yV yX11_spreadOf dd_X11_spreadOf 11 2 := ⟨mem_T (i := 1750) (by decide +kernel) rfl, mem_T (i := 155) (by decide +kernel) rfl, Nat.le_of_ble_eq_true rfl, ⟨⟨by decide, by decide⟩, by decide +kernel⟩, mem_T (i := 1749) (by decide +kernel) rfl, mem_T (i := 81) (by decide +kernel) rfl, ⟨_, rfl, rfl⟩⟩
theorem yv_X11_start : mj_yV yX11_start dd_X11_start 11 1 := ⟨mem_T (i := 1715) (by decide +kernel) rfl, mem_T (i := 155) (by decide +kernel) rfl, Nat.le_of_ble_eq_true rfl, ⟨⟨by decide, by decide⟩, by decide +kernel⟩, mem_T (i := 1713) (by decide +kernel) rfl, mem_T (i := 1714) (by decide +kernel) rfl, ⟨_, rfl, rfl⟩⟩
theorem yv_X11_startedLines : mj_yV yX11_startedLines dd_X11_startedLines 11 0 := ⟨mem_T (i := 2047) (by decide +kernel) rfl, mem_T (i := 155) (by decide +kernel) rfl, Nat.le_of_ble_eq_true rfl, ⟨⟨by decide, by decide⟩, by decide +kernel⟩, mem_T (i := 2046) (by decide +kernel) rfl, mem_T (i := 133) (by decide +kernel) rfl, ⟨_, rfl, rfl⟩⟩
theorem yv_X11_starts : mj_yV yX11_starts dd_X11_starts 11 1 := ⟨mem_T (i := 1727) (by decide +kernel) rfl, mem_T (i := 155) (by decide +kernel) rfl, Nat.le_of_ble_eq_true rfl, ⟨⟨by decide, by decide⟩, by decide +kernel⟩, mem_T (i := 1726) (by decide +kernel) rfl, mem_T (i := 76) (by decide +kernel) rfl, ⟨_, rfl, rfl⟩⟩
theorem yv_X11_startsDealt : mj_yV yX11_startsDealt dd_X11_startsDealt 11 1 := ⟨mem_T (i := 1793) (by decide +kernel) rfl, mem_T (i := 155) (by decide +kernel) rfl, Nat.le_of_ble_eq_true rfl, ⟨⟨by decide, by decide⟩, by decide +kernel⟩, mem_T (i := 1792) (by decide +kernel) rfl, mem_T (i := 91) (by decide +kernel) rfl, ⟨_, rfl, rfl⟩⟩
theorem yv_X11_startsQueues : mj_yV yX11_startsQueues dd_X11_startsQueues 11 1 := ⟨mem_T (i := 1746) (by decide +kernel) rfl, mem_T (i := 155) (by decide +kernel) rfl, Nat.le_of_ble_eq_true rfl, ⟨⟨by decide, by decide⟩, by decide +kernel⟩, mem_T (i := 1745) (by decide +kernel) rfl, mem_T (i := 80) (by decide +kernel) rfl, ⟨_, rfl, rfl⟩⟩
theorem yv_X11_stop : mj_yV yX11_stop dd_X11_stop 11 1 := ⟨mem_T (i := 1821) (by decide +kernel) rfl, mem_T (i := 155) (by decide +kernel) rfl, Nat.le_of_ble_eq_true rfl, ⟨⟨by decide, by decide⟩, by decide +kernel⟩, mem_T (i := 1819) (by decide +kernel) rfl, mem_T (i := 1820) (by decide +kernel) rfl, ⟨_, rfl, rfl⟩⟩
theorem yv_X11_stops : mj_yV yX11_stops dd_X11_stops 11 1 := ⟨mem_T (i := 1825) (by decide +kernel) rfl, mem_T (i := 155) (by decide +kernel) rfl, Nat.le_of_ble_eq_true rfl, ⟨⟨by decide, by decide⟩, by decide +kernel⟩, mem_T (i := 1824) (by decide +kernel) rfl, mem_T (i := 98) (by decide +kernel) rfl, ⟨_, rfl, rfl⟩⟩
theorem yv_X11_stopsOr : mj_yV yX11_stopsOr dd_X11_stopsOr 11 1 := ⟨mem_T (i := 1960) (by decide +kernel) rfl, mem_T (i := 155) (by decide +kernel) rfl, Nat.le_of_ble_eq_true rfl, ⟨⟨by decide, by decide⟩, by decide +kernel⟩, mem_T (i := 1959) (by decide +kernel) rfl, mem_T (i := 124) (by decide +kernel) rfl, ⟨_, rfl, rfl⟩⟩
theorem yv_X11_storm : mj_yV yX11_storm dd_X11_storm 11 3 := ⟨mem_T (i := 2043) (by decide +kernel) rfl, mem_T (i := 155) (by decide +kernel) rfl, Nat.le_of_ble_eq_true rfl, ⟨⟨by decide, by decide⟩, by decide +kernel⟩, mem_T (i := 2041) (by decide +kernel) rfl, mem_T (i := 2042) (by decide +kernel) rfl, ⟨_, rfl, rfl⟩⟩
theorem yv_X11_takesOver : mj_yV yX11_takesOver dd_X11_takesOver 11 0 := ⟨mem_T (i := 1423) (by decide +kernel) rfl, mem_T (i := 155) (by decide +kernel) rfl, Nat.le_of_ble_eq_true rfl, ⟨⟨by decide, by decide⟩, by decide +kernel⟩, mem_T (i := 1422) (by decide +kernel) rfl, mem_T (i := 54) (by decide +kernel) rfl, ⟨_, rfl, rfl⟩⟩
theorem yv_X11_tick : mj_yV yX11_tick dd_X11_tick 11 1 := ⟨mem_T (i := 1861) (by decide +kernel) rfl, mem_T (i := 155) (by decide +kernel) rfl, Nat.le_of_ble_eq_true rfl, ⟨⟨by decide, by decide⟩, by decide +kernel⟩, mem_T (i := 1859) (by decide +kernel) rfl, mem_T (i := 1860) (by decide +kernel) rfl, ⟨_, rfl, rfl⟩⟩
theorem yv_X11_ticks : mj_yV yX11_ticks dd_X11_ticks 11 0 := ⟨mem_T (i := 1865) (by decide +kernel) rfl, mem_T (i := 155) (by decide +kernel) rfl, Nat.le_of_ble_eq_true rfl, ⟨⟨by decide, by decide⟩, by decide +kernel⟩, mem_T (i := 1864) (by decide +kernel) rfl, mem_T (i := 105) (by decide +kernel) rfl, ⟨_, rfl, rfl⟩⟩
theorem yv_X11_triesNow : mj_yV yX11_triesNow dd_X11_triesNow 11 0 := ⟨mem_T (i := 2035) (by decide +kernel) rfl, mem_T (i := 155) (by decide +kernel) rfl, Nat.le_of_ble_eq_true rfl, ⟨⟨by decide, by decide⟩, by decide +kernel⟩, mem_T (i := 2034) (by decide +kernel) rfl, mem_T (i := 131) (by decide +kernel) rfl, ⟨_, rfl, rfl⟩⟩
theorem ys_X11_truth : mj_yS yX11_truth dd_X11_truth 1 := ⟨mem_T (i := 1429) (by decide +kernel) rfl, mem_T (i := 155) (by decide +kernel) rfl, Nat.le_of_ble_eq_true rfl, ⟨⟨by decide, by decide⟩, by decide +kernel⟩, mem_T (i := 1428) (by decide +kernel) rfl⟩
theorem yv_X11_undo : mj_yV yX11_undo dd_X11_undo 11 0 := ⟨mem_T (i := 1703) (by decide +kernel) rfl, mem_T (i := 155) (by decide +kernel) rfl, Nat.le_of_ble_eq_true rfl, ⟨⟨by decide, by decide⟩, by decide +kernel⟩, mem_T (i := 1701) (by decide +kernel) rfl, mem_T (i := 1702) (by decide +kernel) rfl, ⟨_, rfl, rfl⟩⟩
theorem yv_X11_unplug : mj_yV yX11_unplug dd_X11_unplug 11 1 := ⟨mem_T (i := 1904) (by decide +kernel) rfl, mem_T (i := 155) (by decide +kernel) rfl, Nat.le_of_ble_eq_true rfl, ⟨⟨by decide, by decide⟩, by decide +kernel⟩, mem_T (i := 1902) (by decide +kernel) rfl, mem_T (i := 1903) (by decide +kernel) rfl, ⟨_, rfl, rfl⟩⟩
theorem yv_X11_unplugs : mj_yV yX11_unplugs dd_X11_unplugs 11 1 := ⟨mem_T (i := 1912) (by decide +kernel) rfl, mem_T (i := 155) (by decide +kernel) rfl, Nat.le_of_ble_eq_true rfl, ⟨⟨by decide, by decide⟩, by decide +kernel⟩, mem_T (i := 1911) (by decide +kernel) rfl, mem_T (i := 114) (by decide +kernel) rfl, ⟨_, rfl, rfl⟩⟩
theorem yv_X11_vector : mj_yV yX11_vector dd_X11_vector 11 3 := ⟨mem_T (i := 1988) (by decide +kernel) rfl, mem_T (i := 155) (by decide +kernel) rfl, Nat.le_of_ble_eq_true rfl, ⟨⟨by decide, by decide⟩, by decide +kernel⟩, mem_T (i := 1986) (by decide +kernel) rfl, mem_T (i := 1987) (by decide +kernel) rfl, ⟨_, rfl, rfl⟩⟩
theorem yv_X11_vectorsLine : mj_yV yX11_vectorsLine dd_X11_vectorsLine 11 0 := ⟨mem_T (i := 1654) (by decide +kernel) rfl, mem_T (i := 155) (by decide +kernel) rfl, Nat.le_of_ble_eq_true rfl, ⟨⟨by decide, by decide⟩, by decide +kernel⟩, mem_T (i := 1653) (by decide +kernel) rfl, mem_T (i := 66) (by decide +kernel) rfl, ⟨_, rfl, rfl⟩⟩
theorem yv_X11_without : mj_yV yX11_without dd_X11_without 11 2 := ⟨mem_T (i := 2031) (by decide +kernel) rfl, mem_T (i := 155) (by decide +kernel) rfl, Nat.le_of_ble_eq_true rfl, ⟨⟨by decide, by decide⟩, by decide +kernel⟩, mem_T (i := 2029) (by decide +kernel) rfl, mem_T (i := 2030) (by decide +kernel) rfl, ⟨_, rfl, rfl⟩⟩
theorem yv_X11_wrong : mj_yV yX11_wrong dd_X11_wrong 11 1 := ⟨mem_T (i := 1641) (by decide +kernel) rfl, mem_T (i := 155) (by decide +kernel) rfl, Nat.le_of_ble_eq_true rfl, ⟨⟨by decide, by decide⟩, by decide +kernel⟩, mem_T (i := 1640) (by decide +kernel) rfl, mem_T (i := 63) (by decide +kernel) rfl, ⟨_, rfl, rfl⟩⟩
theorem ys_J6_bitCount_0f7a4 : mj_yS yJ6_bitCount_0f7a4 dd_J6_bitCount_0f7a4 1 := ⟨mem_T (i := 918) (by decide +kernel) rfl, mem_T (i := 158) (by decide +kernel) rfl, Nat.le_of_ble_eq_true rfl, ⟨⟨by decide, by decide⟩, by decide +kernel⟩, mem_T (i := 917) (by decide +kernel) rfl⟩
theorem ys_J9_floorMod_7cf53 : mj_yS yJ9_floorMod_7cf53 dd_J9_floorMod_7cf53 2 := ⟨mem_T (i := 1346) (by decide +kernel) rfl, mem_T (i := 156) (by decide +kernel) rfl, Nat.le_of_ble_eq_true rfl, ⟨⟨by decide, by decide⟩, by decide +kernel⟩, mem_T (i := 1345) (by decide +kernel) rfl⟩
theorem ys_J9_max_7cf53 : mj_yS yJ9_max_7cf53 dd_J9_max_7cf53 2 := ⟨mem_T (i := 703) (by decide +kernel) rfl, mem_T (i := 156) (by decide +kernel) rfl, Nat.le_of_ble_eq_true rfl, ⟨⟨by decide, by decide⟩, by decide +kernel⟩, mem_T (i := 702) (by decide +kernel) rfl⟩
theorem ys_J9_min_7cf53 : mj_yS yJ9_min_7cf53 dd_J9_min_7cf53 2 := ⟨mem_T (i := 706) (by decide +kernel) rfl, mem_T (i := 156) (by decide +kernel) rfl, Nat.le_of_ble_eq_true rfl, ⟨⟨by decide, by decide⟩, by decide +kernel⟩, mem_T (i := 705) (by decide +kernel) rfl⟩
theorem ys_J0_checkIndex_df160 : mj_yS yJ0_checkIndex_df160 dd_J0_checkIndex_df160 2 := ⟨mem_T (i := 278) (by decide +kernel) rfl, mem_T (i := 142) (by decide +kernel) rfl, Nat.le_of_ble_eq_true rfl, ⟨⟨by decide, by decide⟩, by decide +kernel⟩, mem_T (i := 277) (by decide +kernel) rfl⟩
theorem ys_J1_charAt_3b067 : mj_yS yJ1_charAt_3b067 dd_J1_charAt_3b067 2 := ⟨mem_T (i := 275) (by decide +kernel) rfl, mem_T (i := 143) (by decide +kernel) rfl, Nat.le_of_ble_eq_true rfl, ⟨⟨by decide, by decide⟩, by decide +kernel⟩, mem_T (i := 274) (by decide +kernel) rfl⟩
theorem ys_J2_charAt_3b067 : mj_yS yJ2_charAt_3b067 dd_J2_charAt_3b067 2 := ⟨mem_T (i := 286) (by decide +kernel) rfl, mem_T (i := 145) (by decide +kernel) rfl, Nat.le_of_ble_eq_true rfl, ⟨⟨by decide, by decide⟩, by decide +kernel⟩, mem_T (i := 285) (by decide +kernel) rfl⟩
theorem ys_J2_checkIndex_2214a : mj_yS yJ2_checkIndex_2214a dd_J2_checkIndex_2214a 2 := ⟨mem_T (i := 289) (by decide +kernel) rfl, mem_T (i := 145) (by decide +kernel) rfl, Nat.le_of_ble_eq_true rfl, ⟨⟨by decide, by decide⟩, by decide +kernel⟩, mem_T (i := 288) (by decide +kernel) rfl⟩
theorem ys_J2_getChar_3b067 : mj_yS yJ2_getChar_3b067 dd_J2_getChar_3b067 2 := ⟨mem_T (i := 296) (by decide +kernel) rfl, mem_T (i := 145) (by decide +kernel) rfl, Nat.le_of_ble_eq_true rfl, ⟨⟨by decide, by decide⟩, by decide +kernel⟩, mem_T (i := 295) (by decide +kernel) rfl⟩
theorem ys_J2_length_9d52b : mj_yS yJ2_length_9d52b dd_J2_length_9d52b 1 := ⟨mem_T (i := 292) (by decide +kernel) rfl, mem_T (i := 145) (by decide +kernel) rfl, Nat.le_of_ble_eq_true rfl, ⟨⟨by decide, by decide⟩, by decide +kernel⟩, mem_T (i := 291) (by decide +kernel) rfl⟩
theorem ys_J7_fill_53178 : mj_yS yJ7_fill_53178 dd_J7_fill_53178 2 := ⟨mem_T (i := 527) (by decide +kernel) rfl, mem_T (i := 152) (by decide +kernel) rfl, Nat.le_of_ble_eq_true rfl, ⟨⟨by decide, by decide⟩, by decide +kernel⟩, mem_T (i := 526) (by decide +kernel) rfl⟩
theorem ys_J3_checkIndex_8e157 : mj_yS yJ3_checkIndex_8e157 dd_J3_checkIndex_8e157 3 := ⟨mem_T (i := 283) (by decide +kernel) rfl, mem_T (i := 144) (by decide +kernel) rfl, Nat.le_of_ble_eq_true rfl, ⟨⟨by decide, by decide⟩, by decide +kernel⟩, mem_T (i := 282) (by decide +kernel) rfl⟩
theorem ml_RX10_3 : Cond.methodLink RX10 3 objectInit ∈ mj_T := mem_T (i := 164) (by decide +kernel) rfl
theorem ml_RX10_25 : Cond.methodLink RX10 25 yX0_init ∈ mj_T := mem_T (i := 171) (by decide +kernel) rfl
theorem ml_RX10_32 : Cond.methodLink RX10 32 yX9_init ∈ mj_T := mem_T (i := 250) (by decide +kernel) rfl
theorem ml_RX10_41 : Cond.methodLink RX10 41 yX1_init ∈ mj_T := mem_T (i := 376) (by decide +kernel) rfl
theorem ml_RX10_50 : Cond.methodLink RX10 50 yX3_init ∈ mj_T := mem_T (i := 401) (by decide +kernel) rfl
theorem ml_RX10_59 : Cond.methodLink RX10 59 yX2_init ∈ mj_T := mem_T (i := 434) (by decide +kernel) rfl
theorem ml_RX10_66 : Cond.methodLink RX10 66 yX5_init ∈ mj_T := mem_T (i := 600) (by decide +kernel) rfl
theorem ml_RX10_73 : Cond.methodLink RX10 73 yX7_init ∈ mj_T := mem_T (i := 603) (by decide +kernel) rfl
theorem ml_RX10_80 : Cond.methodLink RX10 80 yX6_init ∈ mj_T := mem_T (i := 621) (by decide +kernel) rfl
theorem ml_RX10_89 : Cond.methodLink RX10 89 yX10_appendBytes ∈ mj_T := mem_T (i := 685) (by decide +kernel) rfl
theorem ml_RX10_93 : Cond.methodLink RX10 93 yX9_open ∈ mj_T := mem_T (i := 697) (by decide +kernel) rfl
theorem ml_RX10_96 : Cond.methodLink RX10 96 yX1_read ∈ mj_T := mem_T (i := 736) (by decide +kernel) rfl
theorem ml_RX10_106 : Cond.methodLink RX10 106 yX0_copyFrom ∈ mj_T := mem_T (i := 816) (by decide +kernel) rfl
theorem ml_RX10_112 : Cond.methodLink RX10 112 yX5_empty ∈ mj_T := mem_T (i := 823) (by decide +kernel) rfl
theorem ml_RX10_115 : Cond.methodLink RX10 115 yX2_forget ∈ mj_T := mem_T (i := 824) (by decide +kernel) rfl
theorem ml_RX10_121 : Cond.methodLink RX10 121 yX3_read ∈ mj_T := mem_T (i := 832) (by decide +kernel) rfl
theorem ml_RX10_122 : Cond.methodLink RX10 122 yX2_draft ∈ mj_T := mem_T (i := 868) (by decide +kernel) rfl
theorem ml_RX10_132 : Cond.methodLink RX10 132 yX5_copyFrom ∈ mj_T := mem_T (i := 887) (by decide +kernel) rfl
theorem ml_RX10_135 : Cond.methodLink RX10 135 yX10_perform ∈ mj_T := mem_T (i := 888) (by decide +kernel) rfl
theorem ml_RX10_139 : Cond.methodLink RX10 139 yX2_keep ∈ mj_T := mem_T (i := 1104) (by decide +kernel) rfl
theorem ml_RX10_148 : Cond.methodLink RX10 148 yX5_begin ∈ mj_T := mem_T (i := 892) (by decide +kernel) rfl
theorem ml_RX10_152 : Cond.methodLink RX10 152 yX5_halt ∈ mj_T := mem_T (i := 991) (by decide +kernel) rfl
theorem ml_RX10_155 : Cond.methodLink RX10 155 yX5_promise ∈ mj_T := mem_T (i := 1003) (by decide +kernel) rfl
theorem ml_RX10_158 : Cond.methodLink RX10 158 yX5_signal ∈ mj_T := mem_T (i := 1007) (by decide +kernel) rfl
theorem ml_RX10_165 : Cond.methodLink RX10 165 yX5_shift ∈ mj_T := mem_T (i := 1028) (by decide +kernel) rfl
theorem ml_RX10_169 : Cond.methodLink RX10 169 yX5_pass ∈ mj_T := mem_T (i := 1040) (by decide +kernel) rfl
theorem ml_RX10_172 : Cond.methodLink RX10 172 yX5_comeBack ∈ mj_T := mem_T (i := 1072) (by decide +kernel) rfl
theorem ml_RX10_175 : Cond.methodLink RX10 175 yX5_leave ∈ mj_T := mem_T (i := 1080) (by decide +kernel) rfl
theorem ml_RX10_184 : Cond.methodLink RX10 184 yX0_hasDevice ∈ mj_T := mem_T (i := 1120) (by decide +kernel) rfl
theorem ml_RX10_188 : Cond.methodLink RX10 188 yX10_keepIfDone ∈ mj_T := mem_T (i := 1121) (by decide +kernel) rfl
theorem ml_RX10_191 : Cond.methodLink RX10 191 yX10_keepIfAny ∈ mj_T := mem_T (i := 1129) (by decide +kernel) rfl
theorem ml_RX10_194 : Cond.methodLink RX10 194 yX0_hasLine ∈ mj_T := mem_T (i := 1141) (by decide +kernel) rfl
theorem ml_RX10_198 : Cond.methodLink RX10 198 yX0_hasCpu ∈ mj_T := mem_T (i := 1154) (by decide +kernel) rfl
theorem ml_RX10_201 : Cond.methodLink RX10 201 yX2_takeBack ∈ mj_T := mem_T (i := 1166) (by decide +kernel) rfl
theorem ml_RX10_204 : Cond.methodLink RX10 204 yX2_doAgain ∈ mj_T := mem_T (i := 1178) (by decide +kernel) rfl
theorem ml_RX10_211 : Cond.methodLink RX10 211 yX4_loadOf ∈ mj_T := mem_T (i := 1186) (by decide +kernel) rfl
theorem ml_RX10_216 : Cond.methodLink RX10 216 yX4_howMany ∈ mj_T := mem_T (i := 1190) (by decide +kernel) rfl
theorem ml_RX10_223 : Cond.methodLink RX10 223 yJ6_bitCount_0f7a4 ∈ mj_T := mem_T (i := 1191) (by decide +kernel) rfl
theorem ml_RX10_228 : Cond.methodLink RX10 228 yX4_isOnline ∈ mj_T := mem_T (i := 1192) (by decide +kernel) rfl
theorem ml_RX10_231 : Cond.methodLink RX10 231 yX4_greatestBlock ∈ mj_T := mem_T (i := 1193) (by decide +kernel) rfl
theorem ml_RX10_243 : Cond.methodLink RX10 243 yX0_hasVector ∈ mj_T := mem_T (i := 1201) (by decide +kernel) rfl
theorem ml_RX10_249 : Cond.methodLink RX10 249 yX4_kindAt ∈ mj_T := mem_T (i := 1205) (by decide +kernel) rfl
theorem ml_RX10_252 : Cond.methodLink RX10 252 yX4_isPending ∈ mj_T := mem_T (i := 1209) (by decide +kernel) rfl
theorem ml_RX10_264 : Cond.methodLink RX10 264 yX5_isStarted ∈ mj_T := mem_T (i := 1214) (by decide +kernel) rfl
theorem ml_RX10_267 : Cond.methodLink RX10 267 yX5_isPromised ∈ mj_T := mem_T (i := 1215) (by decide +kernel) rfl
theorem ml_RX10_282 : Cond.methodLink RX10 282 yX10_cpuOf ∈ mj_T := mem_T (i := 1220) (by decide +kernel) rfl
theorem ml_RX10_285 : Cond.methodLink RX10 285 yX10_vectorOf ∈ mj_T := mem_T (i := 1223) (by decide +kernel) rfl
theorem ml_RX10_297 : Cond.methodLink RX10 297 yX0_queueCpus ∈ mj_T := mem_T (i := 1230) (by decide +kernel) rfl
theorem ml_RX10_300 : Cond.methodLink RX10 300 yX10_isGroupSize ∈ mj_T := mem_T (i := 1235) (by decide +kernel) rfl
theorem ml_RX10_303 : Cond.methodLink RX10 303 yX7_roomFor ∈ mj_T := mem_T (i := 1236) (by decide +kernel) rfl
theorem ml_RX10_306 : Cond.methodLink RX10 306 yX7_loadGap ∈ mj_T := mem_T (i := 1253) (by decide +kernel) rfl
theorem ml_RX10_310 : Cond.methodLink RX10 310 yX7_seekBlock ∈ mj_T := mem_T (i := 1262) (by decide +kernel) rfl
theorem ml_RX10_320 : Cond.methodLink RX10 320 yX6_blow ∈ mj_T := mem_T (i := 1283) (by decide +kernel) rfl
theorem ml_RX10_331 : Cond.methodLink RX10 331 yX5_unheard ∈ mj_T := mem_T (i := 1307) (by decide +kernel) rfl
theorem ml_RX10_335 : Cond.methodLink RX10 335 yX7_ticksUntilQuiet ∈ mj_T := mem_T (i := 1312) (by decide +kernel) rfl
theorem ml_RX10_338 : Cond.methodLink RX10 338 yX7_nearestGroup ∈ mj_T := mem_T (i := 1321) (by decide +kernel) rfl
theorem ml_RX10_342 : Cond.methodLink RX10 342 yX8_kept ∈ mj_T := mem_T (i := 1331) (by decide +kernel) rfl
theorem ml_RX10_345 : Cond.methodLink RX10 345 yX8_latestId ∈ mj_T := mem_T (i := 1336) (by decide +kernel) rfl
theorem ml_RX10_348 : Cond.methodLink RX10 348 yX8_latestPlace ∈ mj_T := mem_T (i := 1347) (by decide +kernel) rfl
theorem ml_RX10_351 : Cond.methodLink RX10 351 yX8_latestByOld ∈ mj_T := mem_T (i := 1351) (by decide +kernel) rfl
theorem ml_RX10_354 : Cond.methodLink RX10 354 yX0_beginsLike ∈ mj_T := mem_T (i := 1359) (by decide +kernel) rfl
theorem ml_RX10_358 : Cond.methodLink RX10 358 yX7_wrongVectors ∈ mj_T := mem_T (i := 1368) (by decide +kernel) rfl
theorem ml_RX10_361 : Cond.methodLink RX10 361 yX7_wrongLines ∈ mj_T := mem_T (i := 1378) (by decide +kernel) rfl
theorem ml_RX10_364 : Cond.methodLink RX10 364 yX7_heldLines ∈ mj_T := mem_T (i := 1389) (by decide +kernel) rfl
theorem ml_RX10_375 : Cond.methodLink RX10 375 yX4_freeOnline ∈ mj_T := mem_T (i := 1402) (by decide +kernel) rfl
theorem ml_RX10_378 : Cond.methodLink RX10 378 yX5_promisedVectors ∈ mj_T := mem_T (i := 1403) (by decide +kernel) rfl
theorem ml_RX10_387 : Cond.methodLink RX10 387 yX10_aboutCounts ∈ mj_T := mem_T (i := 1404) (by decide +kernel) rfl
theorem ml_RX10_394 : Cond.methodLink RX10 394 yX8_sum ∈ mj_T := mem_T (i := 1407) (by decide +kernel) rfl
theorem ml_RX0_3 : Cond.methodLink RX0 3 objectInit ∈ mj_T := mem_T (i := 174) (by decide +kernel) rfl
theorem ml_RX0_28 : Cond.methodLink RX0 28 yX0_empty ∈ mj_T := mem_T (i := 175) (by decide +kernel) rfl
theorem ml_RX0_47 : Cond.methodLink RX0 47 ⟨"java/lang/System", "arraycopy", "(Ljava/lang/Object;ILjava/lang/Object;II)V"⟩ ∈ mj_T := mem_T (i := 820) (by decide +kernel) rfl
theorem ml_RX0_53 : Cond.methodLink RX0 53 yX0_hasDevice ∈ mj_T := mem_T (i := 1015) (by decide +kernel) rfl
theorem ml_RX0_57 : Cond.methodLink RX0 57 yJ9_min_7cf53 ∈ mj_T := mem_T (i := 1363) (by decide +kernel) rfl
theorem ml_RX0_63 : Cond.methodLink RX0 63 yJ6_bitCount_0f7a4 ∈ mj_T := mem_T (i := 916) (by decide +kernel) rfl
theorem ml_RX1_3 : Cond.methodLink RX1 3 objectInit ∈ mj_T := mem_T (i := 379) (by decide +kernel) rfl
theorem ml_RX1_11 : Cond.methodLink RX1 11 yX0_init ∈ mj_T := mem_T (i := 381) (by decide +kernel) rfl
theorem ml_RX1_22 : Cond.methodLink RX1 22 yX0_empty ∈ mj_T := mem_T (i := 740) (by decide +kernel) rfl
theorem ml_RX1_41 : Cond.methodLink RX1 41 yX1_readLine ∈ mj_T := mem_T (i := 741) (by decide +kernel) rfl
theorem ml_RX1_48 : Cond.methodLink RX1 48 yX1_readCpus ∈ mj_T := mem_T (i := 745) (by decide +kernel) rfl
theorem ml_RX1_51 : Cond.methodLink RX1 51 yX1_readVectors ∈ mj_T := mem_T (i := 771) (by decide +kernel) rfl
theorem ml_RX1_54 : Cond.methodLink RX1 54 yX1_readKept ∈ mj_T := mem_T (i := 775) (by decide +kernel) rfl
theorem ml_RX1_57 : Cond.methodLink RX1 57 yX1_readOff ∈ mj_T := mem_T (i := 783) (by decide +kernel) rfl
theorem ml_RX1_60 : Cond.methodLink RX1 60 yX1_readDevice ∈ mj_T := mem_T (i := 787) (by decide +kernel) rfl
theorem ml_RX1_63 : Cond.methodLink RX1 63 yX9_blameToken ∈ mj_T := mem_T (i := 810) (by decide +kernel) rfl
theorem ml_RX1_66 : Cond.methodLink RX1 66 yX1_readSize ∈ mj_T := mem_T (i := 749) (by decide +kernel) rfl
theorem ml_RX1_76 : Cond.methodLink RX1 76 yX9_advance ∈ mj_T := mem_T (i := 757) (by decide +kernel) rfl
theorem ml_RX1_79 : Cond.methodLink RX1 79 yX9_takeSign ∈ mj_T := mem_T (i := 767) (by decide +kernel) rfl
theorem ml_RX1_85 : Cond.methodLink RX1 85 yX9_blame ∈ mj_T := mem_T (i := 753) (by decide +kernel) rfl
theorem ml_RX1_89 : Cond.methodLink RX1 89 yX9_fitsNumber ∈ mj_T := mem_T (i := 758) (by decide +kernel) rfl
theorem ml_RX1_96 : Cond.methodLink RX1 96 yX9_takeSet ∈ mj_T := mem_T (i := 779) (by decide +kernel) rfl
theorem ml_RX1_108 : Cond.methodLink RX1 108 yX9_fitsName ∈ mj_T := mem_T (i := 791) (by decide +kernel) rfl
theorem ml_RX1_115 : Cond.methodLink RX1 115 yX0_deviceNamed ∈ mj_T := mem_T (i := 795) (by decide +kernel) rfl
theorem ml_RX1_128 : Cond.methodLink RX1 128 yX1_readWants ∈ mj_T := mem_T (i := 799) (by decide +kernel) rfl
theorem ml_RX1_131 : Cond.methodLink RX1 131 yX1_readOn ∈ mj_T := mem_T (i := 811) (by decide +kernel) rfl
theorem ml_RX1_139 : Cond.methodLink RX1 139 yX1_readLines ∈ mj_T := mem_T (i := 803) (by decide +kernel) rfl
theorem ml_RX1_148 : Cond.methodLink RX1 148 yX0_allCpus ∈ mj_T := mem_T (i := 815) (by decide +kernel) rfl
theorem ml_RX2_3 : Cond.methodLink RX2 3 objectInit ∈ mj_T := mem_T (i := 437) (by decide +kernel) rfl
theorem ml_RX2_17 : Cond.methodLink RX2 17 yX5_init ∈ mj_T := mem_T (i := 440) (by decide +kernel) rfl
theorem ml_RX2_27 : Cond.methodLink RX2 27 yX5_copyFrom ∈ mj_T := mem_T (i := 872) (by decide +kernel) rfl
theorem ml_RX2_41 : Cond.methodLink RX2 41 yX2_exchange ∈ mj_T := mem_T (i := 1170) (by decide +kernel) rfl
theorem ml_RX3_3 : Cond.methodLink RX3 3 objectInit ∈ mj_T := mem_T (i := 404) (by decide +kernel) rfl
theorem ml_RX3_41 : Cond.methodLink RX3 41 yX3_readOrder ∈ mj_T := mem_T (i := 836) (by decide +kernel) rfl
theorem ml_RX3_48 : Cond.methodLink RX3 48 yX3_readRest ∈ mj_T := mem_T (i := 840) (by decide +kernel) rfl
theorem ml_RX3_51 : Cond.methodLink RX3 51 yX9_takeSign ∈ mj_T := mem_T (i := 867) (by decide +kernel) rfl
theorem ml_RX3_55 : Cond.methodLink RX3 55 yX3_readName ∈ mj_T := mem_T (i := 844) (by decide +kernel) rfl
theorem ml_RX3_58 : Cond.methodLink RX3 58 yX3_readNumber ∈ mj_T := mem_T (i := 852) (by decide +kernel) rfl
theorem ml_RX3_62 : Cond.methodLink RX3 62 yX3_readTo ∈ mj_T := mem_T (i := 857) (by decide +kernel) rfl
theorem ml_RX3_65 : Cond.methodLink RX3 65 yX9_advance ∈ mj_T := mem_T (i := 848) (by decide +kernel) rfl
theorem ml_RX3_72 : Cond.methodLink RX3 72 yX9_blameToken ∈ mj_T := mem_T (i := 866) (by decide +kernel) rfl
theorem ml_RX3_75 : Cond.methodLink RX3 75 yX9_fitsName ∈ mj_T := mem_T (i := 849) (by decide +kernel) rfl
theorem ml_RX3_82 : Cond.methodLink RX3 82 yX0_deviceNamed ∈ mj_T := mem_T (i := 850) (by decide +kernel) rfl
theorem ml_RX3_86 : Cond.methodLink RX3 86 yX9_blame ∈ mj_T := mem_T (i := 851) (by decide +kernel) rfl
theorem ml_RX3_89 : Cond.methodLink RX3 89 yX9_fitsNumber ∈ mj_T := mem_T (i := 856) (by decide +kernel) rfl
theorem ml_RX3_95 : Cond.methodLink RX3 95 yX9_takeWord ∈ mj_T := mem_T (i := 861) (by decide +kernel) rfl
theorem ml_RX3_98 : Cond.methodLink RX3 98 yX9_takeSet ∈ mj_T := mem_T (i := 865) (by decide +kernel) rfl
theorem ml_RX4_3 : Cond.methodLink RX4 3 objectInit ∈ mj_T := mem_T (i := 485) (by decide +kernel) rfl
theorem ml_RX4_27 : Cond.methodLink RX4 27 yX0_allVectors ∈ mj_T := mem_T (i := 521) (by decide +kernel) rfl
theorem ml_RX4_37 : Cond.methodLink RX4 37 yJ7_fill_53178 ∈ mj_T := mem_T (i := 525) (by decide +kernel) rfl
theorem ml_RX4_43 : Cond.methodLink RX4 43 yX0_allCpus ∈ mj_T := mem_T (i := 528) (by decide +kernel) rfl
theorem ml_RX4_52 : Cond.methodLink RX4 52 ⟨"java/lang/System", "arraycopy", "(Ljava/lang/Object;ILjava/lang/Object;II)V"⟩ ∈ mj_T := mem_T (i := 880) (by decide +kernel) rfl
theorem ml_RX4_58 : Cond.methodLink RX4 58 yJ6_bitCount_0f7a4 ∈ mj_T := mem_T (i := 926) (by decide +kernel) rfl
theorem ml_RX4_67 : Cond.methodLink RX4 67 yX4_isOnline ∈ mj_T := mem_T (i := 935) (by decide +kernel) rfl
theorem ml_RX4_71 : Cond.methodLink RX4 71 yX4_howMany ∈ mj_T := mem_T (i := 936) (by decide +kernel) rfl
theorem ml_RX4_75 : Cond.methodLink RX4 75 yX4_isPending ∈ mj_T := mem_T (i := 999) (by decide +kernel) rfl
theorem ml_RX4_81 : Cond.methodLink RX4 81 yX4_isFreeBlock ∈ mj_T := mem_T (i := 953) (by decide +kernel) rfl
theorem ml_RX4_85 : Cond.methodLink RX4 85 yX4_firstBlock ∈ mj_T := mem_T (i := 989) (by decide +kernel) rfl
theorem ml_RX4_88 : Cond.methodLink RX4 88 yX4_leastLoaded ∈ mj_T := mem_T (i := 990) (by decide +kernel) rfl
theorem ml_RX5_3 : Cond.methodLink RX5 3 objectInit ∈ mj_T := mem_T (i := 443) (by decide +kernel) rfl
theorem ml_RX5_38 : Cond.methodLink RX5 38 yX4_init ∈ mj_T := mem_T (i := 482) (by decide +kernel) rfl
theorem ml_RX5_45 : Cond.methodLink RX5 45 yX5_empty ∈ mj_T := mem_T (i := 513) (by decide +kernel) rfl
theorem ml_RX5_48 : Cond.methodLink RX5 48 yX4_empty ∈ mj_T := mem_T (i := 517) (by decide +kernel) rfl
theorem ml_RX5_49 : Cond.methodLink RX5 49 yX8_empty ∈ mj_T := mem_T (i := 532) (by decide +kernel) rfl
theorem ml_RX5_57 : Cond.methodLink RX5 57 yX5_forgetLine ∈ mj_T := mem_T (i := 537) (by decide +kernel) rfl
theorem ml_RX5_61 : Cond.methodLink RX5 61 yX4_copyFrom ∈ mj_T := mem_T (i := 876) (by decide +kernel) rfl
theorem ml_RX5_65 : Cond.methodLink RX5 65 yX8_copyFrom ∈ mj_T := mem_T (i := 881) (by decide +kernel) rfl
theorem ml_RX5_68 : Cond.methodLink RX5 68 ⟨"java/lang/System", "arraycopy", "(Ljava/lang/Object;ILjava/lang/Object;II)V"⟩ ∈ mj_T := mem_T (i := 886) (by decide +kernel) rfl
theorem ml_RX5_82 : Cond.methodLink RX5 82 yX5_isPromised ∈ mj_T := mem_T (i := 941) (by decide +kernel) rfl
theorem ml_RX5_94 : Cond.methodLink RX5 94 yJ6_bitCount_0f7a4 ∈ mj_T := mem_T (i := 1305) (by decide +kernel) rfl
theorem ml_RX5_100 : Cond.methodLink RX5 100 yX4_put ∈ mj_T := mem_T (i := 957) (by decide +kernel) rfl
theorem ml_RX5_104 : Cond.methodLink RX5 104 yX5_isManaged ∈ mj_T := mem_T (i := 900) (by decide +kernel) rfl
theorem ml_RX5_107 : Cond.methodLink RX5 107 yX5_release ∈ mj_T := mem_T (i := 1068) (by decide +kernel) rfl
theorem ml_RX5_111 : Cond.methodLink RX5 111 yX4_isPending ∈ mj_T := mem_T (i := 1023) (by decide +kernel) rfl
theorem ml_RX5_117 : Cond.methodLink RX5 117 yX4_pend ∈ mj_T := mem_T (i := 1024) (by decide +kernel) rfl
theorem ml_RX5_121 : Cond.methodLink RX5 121 yX5_isStarted ∈ mj_T := mem_T (i := 896) (by decide +kernel) rfl
theorem ml_RX5_124 : Cond.methodLink RX5 124 yX5_beginQueues ∈ mj_T := mem_T (i := 904) (by decide +kernel) rfl
theorem ml_RX5_127 : Cond.methodLink RX5 127 yX5_beginDealt ∈ mj_T := mem_T (i := 981) (by decide +kernel) rfl
theorem ml_RX5_133 : Cond.methodLink RX5 133 yX4_deal ∈ mj_T := mem_T (i := 985) (by decide +kernel) rfl
theorem ml_RX5_137 : Cond.methodLink RX5 137 yX4_freeOnline ∈ mj_T := mem_T (i := 931) (by decide +kernel) rfl
theorem ml_RX5_141 : Cond.methodLink RX5 141 yX5_promisedVectors ∈ mj_T := mem_T (i := 937) (by decide +kernel) rfl
theorem ml_RX5_144 : Cond.methodLink RX5 144 yX5_hold ∈ mj_T := mem_T (i := 977) (by decide +kernel) rfl
theorem ml_RX5_147 : Cond.methodLink RX5 147 yX5_queuesAt ∈ mj_T := mem_T (i := 908) (by decide +kernel) rfl
theorem ml_RX5_150 : Cond.methodLink RX5 150 yX4_howMany ∈ mj_T := mem_T (i := 922) (by decide +kernel) rfl
theorem ml_RX5_153 : Cond.methodLink RX5 153 yX4_isOnline ∈ mj_T := mem_T (i := 927) (by decide +kernel) rfl
theorem ml_RX5_156 : Cond.methodLink RX5 156 yX5_reserve ∈ mj_T := mem_T (i := 945) (by decide +kernel) rfl
theorem ml_RX5_159 : Cond.methodLink RX5 159 yX0_allCpus ∈ mj_T := mem_T (i := 961) (by decide +kernel) rfl
theorem ml_RX5_162 : Cond.methodLink RX5 162 yX5_leastLoadedPlace ∈ mj_T := mem_T (i := 962) (by decide +kernel) rfl
theorem ml_RX5_165 : Cond.methodLink RX5 165 yX0_queueCpus ∈ mj_T := mem_T (i := 912) (by decide +kernel) rfl
theorem ml_RX5_168 : Cond.methodLink RX5 168 yX4_firstBlock ∈ mj_T := mem_T (i := 949) (by decide +kernel) rfl
theorem ml_RX5_171 : Cond.methodLink RX5 171 yX4_leastLoaded ∈ mj_T := mem_T (i := 966) (by decide +kernel) rfl
theorem ml_RX5_174 : Cond.methodLink RX5 174 yX5_isAt ∈ mj_T := mem_T (i := 970) (by decide +kernel) rfl
theorem ml_RX5_178 : Cond.methodLink RX5 178 yX4_reservedPlace ∈ mj_T := mem_T (i := 973) (by decide +kernel) rfl
theorem ml_RX5_187 : Cond.methodLink RX5 187 yX4_unpend ∈ mj_T := mem_T (i := 995) (by decide +kernel) rfl
theorem ml_RX5_193 : Cond.methodLink RX5 193 yX0_hasLine ∈ mj_T := mem_T (i := 1011) (by decide +kernel) rfl
theorem ml_RX5_196 : Cond.methodLink RX5 196 yX5_pendAt ∈ mj_T := mem_T (i := 1019) (by decide +kernel) rfl
theorem ml_RX5_199 : Cond.methodLink RX5 199 yX5_passOne ∈ mj_T := mem_T (i := 1044) (by decide +kernel) rfl
theorem ml_RX5_202 : Cond.methodLink RX5 202 yX4_greatestPending ∈ mj_T := mem_T (i := 1048) (by decide +kernel) rfl
theorem ml_RX5_205 : Cond.methodLink RX5 205 yX5_deliver ∈ mj_T := mem_T (i := 1052) (by decide +kernel) rfl
theorem ml_RX5_211 : Cond.methodLink RX5 211 yX5_releaseDrained ∈ mj_T := mem_T (i := 1060) (by decide +kernel) rfl
theorem ml_RX5_214 : Cond.methodLink RX5 214 yX8_note ∈ mj_T := mem_T (i := 1056) (by decide +kernel) rfl
theorem ml_RX5_218 : Cond.methodLink RX5 218 yX5_releaseOld ∈ mj_T := mem_T (i := 1064) (by decide +kernel) rfl
theorem ml_RX5_221 : Cond.methodLink RX5 221 yX5_hasOld ∈ mj_T := mem_T (i := 1032) (by decide +kernel) rfl
theorem ml_RX5_224 : Cond.methodLink RX5 224 yX5_replace ∈ mj_T := mem_T (i := 1036) (by decide +kernel) rfl
theorem ml_RX5_230 : Cond.methodLink RX5 230 yX5_bringQueuesAway ∈ mj_T := mem_T (i := 1084) (by decide +kernel) rfl
theorem ml_RX5_233 : Cond.methodLink RX5 233 yX5_bringDealtAway ∈ mj_T := mem_T (i := 1100) (by decide +kernel) rfl
theorem ml_RX5_236 : Cond.methodLink RX5 236 yX5_bringOldAway ∈ mj_T := mem_T (i := 1088) (by decide +kernel) rfl
theorem ml_RX5_239 : Cond.methodLink RX5 239 yX5_carry ∈ mj_T := mem_T (i := 1096) (by decide +kernel) rfl
theorem ml_RX5_242 : Cond.methodLink RX5 242 yX5_bringQueueAway ∈ mj_T := mem_T (i := 1092) (by decide +kernel) rfl
theorem ml_RX5_245 : Cond.methodLink RX5 245 yX5_openQueue ∈ mj_T := mem_T (i := 1076) (by decide +kernel) rfl
theorem ml_RX6_3 : Cond.methodLink RX6 3 objectInit ∈ mj_T := mem_T (i := 624) (by decide +kernel) rfl
theorem ml_RX6_25 : Cond.methodLink RX6 25 yX6_startedLines ∈ mj_T := mem_T (i := 1287) (by decide +kernel) rfl
theorem ml_RX6_29 : Cond.methodLink RX6 29 yX6_nextSeed ∈ mj_T := mem_T (i := 1292) (by decide +kernel) rfl
theorem ml_RX6_33 : Cond.methodLink RX6 33 yX5_pass ∈ mj_T := mem_T (i := 1295) (by decide +kernel) rfl
theorem ml_RX6_38 : Cond.methodLink RX6 38 yX6_strike ∈ mj_T := mem_T (i := 1296) (by decide +kernel) rfl
theorem ml_RX6_42 : Cond.methodLink RX6 42 yX5_unheard ∈ mj_T := mem_T (i := 1301) (by decide +kernel) rfl
theorem ml_RX6_46 : Cond.methodLink RX6 46 yJ9_max_7cf53 ∈ mj_T := mem_T (i := 1306) (by decide +kernel) rfl
theorem ml_RX6_57 : Cond.methodLink RX6 57 yX5_isStarted ∈ mj_T := mem_T (i := 1291) (by decide +kernel) rfl
theorem ml_RX6_65 : Cond.methodLink RX6 65 yX5_signal ∈ mj_T := mem_T (i := 1300) (by decide +kernel) rfl
theorem ml_RX7_3 : Cond.methodLink RX7 3 objectInit ∈ mj_T := mem_T (i := 606) (by decide +kernel) rfl
theorem ml_RX7_33 : Cond.methodLink RX7 33 yX4_isOnline ∈ mj_T := mem_T (i := 1240) (by decide +kernel) rfl
theorem ml_RX7_39 : Cond.methodLink RX7 39 yX4_countBlocks ∈ mj_T := mem_T (i := 1241) (by decide +kernel) rfl
theorem ml_RX7_43 : Cond.methodLink RX7 43 yX4_freeOnline ∈ mj_T := mem_T (i := 1245) (by decide +kernel) rfl
theorem ml_RX7_47 : Cond.methodLink RX7 47 yX5_promisedVectors ∈ mj_T := mem_T (i := 1246) (by decide +kernel) rfl
theorem ml_RX7_50 : Cond.methodLink RX7 50 yJ9_max_7cf53 ∈ mj_T := mem_T (i := 1247) (by decide +kernel) rfl
theorem ml_RX7_55 : Cond.methodLink RX7 55 yJ9_min_7cf53 ∈ mj_T := mem_T (i := 1248) (by decide +kernel) rfl
theorem ml_RX7_58 : Cond.methodLink RX7 58 yX4_loadOf ∈ mj_T := mem_T (i := 1257) (by decide +kernel) rfl
theorem ml_RX7_66 : Cond.methodLink RX7 66 yJ6_bitCount_0f7a4 ∈ mj_T := mem_T (i := 1316) (by decide +kernel) rfl
theorem ml_RX7_71 : Cond.methodLink RX7 71 yX4_howMany ∈ mj_T := mem_T (i := 1393) (by decide +kernel) rfl
theorem ml_RX7_77 : Cond.methodLink RX7 77 yX7_costOfBlock ∈ mj_T := mem_T (i := 1266) (by decide +kernel) rfl
theorem ml_RX7_81 : Cond.methodLink RX7 81 yX4_kindAt ∈ mj_T := mem_T (i := 1270) (by decide +kernel) rfl
theorem ml_RX7_87 : Cond.methodLink RX7 87 yX7_canGo ∈ mj_T := mem_T (i := 1271) (by decide +kernel) rfl
theorem ml_RX7_100 : Cond.methodLink RX7 100 yX5_isStarted ∈ mj_T := mem_T (i := 1325) (by decide +kernel) rfl
theorem ml_RX7_106 : Cond.methodLink RX7 106 yX7_seekBlock ∈ mj_T := mem_T (i := 1326) (by decide +kernel) rfl
theorem ml_RX7_110 : Cond.methodLink RX7 110 yX7_isWrong ∈ mj_T := mem_T (i := 1372) (by decide +kernel) rfl
theorem ml_RX7_118 : Cond.methodLink RX7 118 yX4_isPending ∈ mj_T := mem_T (i := 1376) (by decide +kernel) rfl
theorem ml_RX7_121 : Cond.methodLink RX7 121 yX0_queueCpus ∈ mj_T := mem_T (i := 1377) (by decide +kernel) rfl
theorem ml_RX7_127 : Cond.methodLink RX7 127 yX7_isAstray ∈ mj_T := mem_T (i := 1382) (by decide +kernel) rfl
theorem ml_RX8_3 : Cond.methodLink RX8 3 objectInit ∈ mj_T := mem_T (i := 449) (by decide +kernel) rfl
theorem ml_RX8_34 : Cond.methodLink RX8 34 yJ7_fill_53178 ∈ mj_T := mem_T (i := 536) (by decide +kernel) rfl
theorem ml_RX8_40 : Cond.methodLink RX8 40 ⟨"java/lang/System", "arraycopy", "(Ljava/lang/Object;ILjava/lang/Object;II)V"⟩ ∈ mj_T := mem_T (i := 885) (by decide +kernel) rfl
theorem ml_RX8_46 : Cond.methodLink RX8 46 yJ9_min_7cf53 ∈ mj_T := mem_T (i := 1335) (by decide +kernel) rfl
theorem ml_RX8_52 : Cond.methodLink RX8 52 yJ9_floorMod_7cf53 ∈ mj_T := mem_T (i := 1344) (by decide +kernel) rfl
theorem ml_RX8_55 : Cond.methodLink RX8 55 yX8_latest ∈ mj_T := mem_T (i := 1340) (by decide +kernel) rfl
theorem ml_RX9_3 : Cond.methodLink RX9 3 objectInit ∈ mj_T := mem_T (i := 253) (by decide +kernel) rfl
theorem ml_RX9_38 : Cond.methodLink RX9 38 yJ0_length_8abf5 ∈ mj_T := mem_T (i := 255) (by decide +kernel) rfl
theorem ml_RX9_44 : Cond.methodLink RX9 44 yJ0_charAt_5068e ∈ mj_T := mem_T (i := 265) (by decide +kernel) rfl
theorem ml_RX9_48 : Cond.methodLink RX9 48 yX9_packed ∈ mj_T := mem_T (i := 303) (by decide +kernel) rfl
theorem ml_RX9_52 : Cond.methodLink RX9 52 yJ9_max_7cf53 ∈ mj_T := mem_T (i := 701) (by decide +kernel) rfl
theorem ml_RX9_58 : Cond.methodLink RX9 58 yJ9_min_7cf53 ∈ mj_T := mem_T (i := 704) (by decide +kernel) rfl
theorem ml_RX9_69 : Cond.methodLink RX9 69 yX9_split ∈ mj_T := mem_T (i := 707) (by decide +kernel) rfl
theorem ml_RX9_76 : Cond.methodLink RX9 76 yX9_advance ∈ mj_T := mem_T (i := 728) (by decide +kernel) rfl
theorem ml_RX9_79 : Cond.methodLink RX9 79 yX9_isBlank ∈ mj_T := mem_T (i := 711) (by decide +kernel) rfl
theorem ml_RX9_83 : Cond.methodLink RX9 83 yX9_isLetter ∈ mj_T := mem_T (i := 714) (by decide +kernel) rfl
theorem ml_RX9_86 : Cond.methodLink RX9 86 yX9_splitWord ∈ mj_T := mem_T (i := 717) (by decide +kernel) rfl
theorem ml_RX9_90 : Cond.methodLink RX9 90 yX9_isDigit ∈ mj_T := mem_T (i := 721) (by decide +kernel) rfl
theorem ml_RX9_93 : Cond.methodLink RX9 93 yX9_splitNumber ∈ mj_T := mem_T (i := 724) (by decide +kernel) rfl
theorem ml_RX9_112 : Cond.methodLink RX9 112 yX9_keywordOf ∈ mj_T := mem_T (i := 732) (by decide +kernel) rfl
theorem ml_RX9_119 : Cond.methodLink RX9 119 yX9_blameToken ∈ mj_T := mem_T (i := 762) (by decide +kernel) rfl
theorem ml_RX9_123 : Cond.methodLink RX9 123 yX9_blame ∈ mj_T := mem_T (i := 766) (by decide +kernel) rfl
theorem ml_RL_9 : Cond.methodLink RL 9 yX10_init ∈ mj_T := mem_T (i := 161) (by decide +kernel) rfl
theorem ml_RL_12 : Cond.methodLink RL 12 yX11_init ∈ mj_T := mem_T (i := 1412) (by decide +kernel) rfl
theorem ml_RL_13 : Cond.methodLink RL 13 yX10_feed ∈ mj_T := mem_T (i := 681) (by decide +kernel) rfl
theorem ml_RL_17 : Cond.methodLink RL 17 yX11_feed ∈ mj_T := mem_T (i := 1584) (by decide +kernel) rfl
theorem ml_RL_18 : Cond.methodLink RL 18 yX10_end ∈ mj_T := mem_T (i := 689) (by decide +kernel) rfl
theorem ml_RL_22 : Cond.methodLink RL 22 yX11_end ∈ mj_T := mem_T (i := 1592) (by decide +kernel) rfl
theorem ml_RL_23 : Cond.methodLink RL 23 yX10_board ∈ mj_T := mem_T (i := 693) (by decide +kernel) rfl
theorem ml_RL_27 : Cond.methodLink RL 27 yX11_board ∈ mj_T := mem_T (i := 1599) (by decide +kernel) rfl
theorem ml_RL_28 : Cond.methodLink RL 28 yX10_orders ∈ mj_T := mem_T (i := 828) (by decide +kernel) rfl
theorem ml_RL_31 : Cond.methodLink RL 31 yX11_orders ∈ mj_T := mem_T (i := 1941) (by decide +kernel) rfl
theorem ml_RL_32 : Cond.methodLink RL 32 yX10_fault ∈ mj_T := mem_T (i := 1108) (by decide +kernel) rfl
theorem ml_RL_35 : Cond.methodLink RL 35 yX11_fault ∈ mj_T := mem_T (i := 1696) (by decide +kernel) rfl
theorem ml_RL_36 : Cond.methodLink RL 36 yX10_refused ∈ mj_T := mem_T (i := 1112) (by decide +kernel) rfl
theorem ml_RL_39 : Cond.methodLink RL 39 yX11_refused ∈ mj_T := mem_T (i := 1969) (by decide +kernel) rfl
theorem ml_RL_40 : Cond.methodLink RL 40 yX10_start ∈ mj_T := mem_T (i := 1116) (by decide +kernel) rfl
theorem ml_RL_43 : Cond.methodLink RL 43 yX11_start ∈ mj_T := mem_T (i := 1712) (by decide +kernel) rfl
theorem ml_RL_44 : Cond.methodLink RL 44 yX10_stop ∈ mj_T := mem_T (i := 1125) (by decide +kernel) rfl
theorem ml_RL_47 : Cond.methodLink RL 47 yX11_stop ∈ mj_T := mem_T (i := 1818) (by decide +kernel) rfl
theorem ml_RL_48 : Cond.methodLink RL 48 yX10_claim ∈ mj_T := mem_T (i := 1133) (by decide +kernel) rfl
theorem ml_RL_51 : Cond.methodLink RL 51 yX11_claim ∈ mj_T := mem_T (i := 1826) (by decide +kernel) rfl
theorem ml_RL_52 : Cond.methodLink RL 52 yX10_raise ∈ mj_T := mem_T (i := 1137) (by decide +kernel) rfl
theorem ml_RL_56 : Cond.methodLink RL 56 yX11_raise ∈ mj_T := mem_T (i := 1834) (by decide +kernel) rfl
theorem ml_RL_57 : Cond.methodLink RL 57 yX10_tick ∈ mj_T := mem_T (i := 1142) (by decide +kernel) rfl
theorem ml_RL_60 : Cond.methodLink RL 60 yX11_tick ∈ mj_T := mem_T (i := 1858) (by decide +kernel) rfl
theorem ml_RL_61 : Cond.methodLink RL 61 yX10_move ∈ mj_T := mem_T (i := 1146) (by decide +kernel) rfl
theorem ml_RL_65 : Cond.methodLink RL 65 yX11_move ∈ mj_T := mem_T (i := 1885) (by decide +kernel) rfl
theorem ml_RL_66 : Cond.methodLink RL 66 yX10_unplug ∈ mj_T := mem_T (i := 1150) (by decide +kernel) rfl
theorem ml_RL_69 : Cond.methodLink RL 69 yX11_unplug ∈ mj_T := mem_T (i := 1901) (by decide +kernel) rfl
theorem ml_RL_70 : Cond.methodLink RL 70 yX10_plug ∈ mj_T := mem_T (i := 1158) (by decide +kernel) rfl
theorem ml_RL_73 : Cond.methodLink RL 73 yX11_plug ∈ mj_T := mem_T (i := 1933) (by decide +kernel) rfl
theorem ml_RL_74 : Cond.methodLink RL 74 yX10_undo ∈ mj_T := mem_T (i := 1162) (by decide +kernel) rfl
theorem ml_RL_78 : Cond.methodLink RL 78 yX11_undo ∈ mj_T := mem_T (i := 1700) (by decide +kernel) rfl
theorem ml_RL_79 : Cond.methodLink RL 79 yX10_redo ∈ mj_T := mem_T (i := 1174) (by decide +kernel) rfl
theorem ml_RL_82 : Cond.methodLink RL 82 yX11_redo ∈ mj_T := mem_T (i := 1708) (by decide +kernel) rfl
theorem ml_RL_83 : Cond.methodLink RL 83 yX10_cpu ∈ mj_T := mem_T (i := 1182) (by decide +kernel) rfl
theorem ml_RL_87 : Cond.methodLink RL 87 yX11_cpu ∈ mj_T := mem_T (i := 1973) (by decide +kernel) rfl
theorem ml_RL_88 : Cond.methodLink RL 88 yX10_vector ∈ mj_T := mem_T (i := 1197) (by decide +kernel) rfl
theorem ml_RL_91 : Cond.methodLink RL 91 yX11_vector ∈ mj_T := mem_T (i := 1985) (by decide +kernel) rfl
theorem ml_RL_92 : Cond.methodLink RL 92 yX10_device ∈ mj_T := mem_T (i := 1210) (by decide +kernel) rfl
theorem ml_RL_95 : Cond.methodLink RL 95 yX11_device ∈ mj_T := mem_T (i := 1989) (by decide +kernel) rfl
theorem ml_RL_96 : Cond.methodLink RL 96 yX10_line ∈ mj_T := mem_T (i := 1216) (by decide +kernel) rfl
theorem ml_RL_99 : Cond.methodLink RL 99 yX11_line_ ∈ mj_T := mem_T (i := 1993) (by decide +kernel) rfl
theorem ml_RL_100 : Cond.methodLink RL 100 yX10_spread ∈ mj_T := mem_T (i := 1226) (by decide +kernel) rfl
theorem ml_RL_103 : Cond.methodLink RL 103 yX11_spread ∈ mj_T := mem_T (i := 1997) (by decide +kernel) rfl
theorem ml_RL_104 : Cond.methodLink RL 104 yX10_room ∈ mj_T := mem_T (i := 1231) (by decide +kernel) rfl
theorem ml_RL_107 : Cond.methodLink RL 107 yX11_room ∈ mj_T := mem_T (i := 2001) (by decide +kernel) rfl
theorem ml_RL_108 : Cond.methodLink RL 108 yX10_balance ∈ mj_T := mem_T (i := 1249) (by decide +kernel) rfl
theorem ml_RL_111 : Cond.methodLink RL 111 yX11_balance ∈ mj_T := mem_T (i := 2005) (by decide +kernel) rfl
theorem ml_RL_112 : Cond.methodLink RL 112 yX10_clear ∈ mj_T := mem_T (i := 1258) (by decide +kernel) rfl
theorem ml_RL_115 : Cond.methodLink RL 115 yX11_clear ∈ mj_T := mem_T (i := 2012) (by decide +kernel) rfl
theorem ml_RL_116 : Cond.methodLink RL 116 yX10_without ∈ mj_T := mem_T (i := 1275) (by decide +kernel) rfl
theorem ml_RL_119 : Cond.methodLink RL 119 yX11_without ∈ mj_T := mem_T (i := 2028) (by decide +kernel) rfl
theorem ml_RL_120 : Cond.methodLink RL 120 yX10_storm ∈ mj_T := mem_T (i := 1279) (by decide +kernel) rfl
theorem ml_RL_123 : Cond.methodLink RL 123 yX11_storm ∈ mj_T := mem_T (i := 2040) (by decide +kernel) rfl
theorem ml_RL_124 : Cond.methodLink RL 124 yX10_quiet ∈ mj_T := mem_T (i := 1308) (by decide +kernel) rfl
theorem ml_RL_127 : Cond.methodLink RL 127 yX11_quiet ∈ mj_T := mem_T (i := 2056) (by decide +kernel) rfl
theorem ml_RL_128 : Cond.methodLink RL 128 yX10_nearest ∈ mj_T := mem_T (i := 1317) (by decide +kernel) rfl
theorem ml_RL_131 : Cond.methodLink RL 131 yX11_nearest ∈ mj_T := mem_T (i := 2024) (by decide +kernel) rfl
theorem ml_RL_132 : Cond.methodLink RL 132 yX10_log ∈ mj_T := mem_T (i := 1327) (by decide +kernel) rfl
theorem ml_RL_135 : Cond.methodLink RL 135 yX11_log ∈ mj_T := mem_T (i := 2060) (by decide +kernel) rfl
theorem ml_RL_136 : Cond.methodLink RL 136 yX10_alike ∈ mj_T := mem_T (i := 1355) (by decide +kernel) rfl
theorem ml_RL_139 : Cond.methodLink RL 139 yX11_alike ∈ mj_T := mem_T (i := 2064) (by decide +kernel) rfl
theorem ml_RL_140 : Cond.methodLink RL 140 yX10_law ∈ mj_T := mem_T (i := 1364) (by decide +kernel) rfl
theorem ml_RL_143 : Cond.methodLink RL 143 yX11_law ∈ mj_T := mem_T (i := 2072) (by decide +kernel) rfl
theorem ml_RL_144 : Cond.methodLink RL 144 yX10_image ∈ mj_T := mem_T (i := 1385) (by decide +kernel) rfl
theorem ml_RL_147 : Cond.methodLink RL 147 yX11_image ∈ mj_T := mem_T (i := 2076) (by decide +kernel) rfl
theorem ml_RL_148 : Cond.methodLink RL 148 yX10_back ∈ mj_T := mem_T (i := 1394) (by decide +kernel) rfl
theorem ml_RL_151 : Cond.methodLink RL 151 yX11_back ∈ mj_T := mem_T (i := 2084) (by decide +kernel) rfl
theorem ml_RL_152 : Cond.methodLink RL 152 yX10_about ∈ mj_T := mem_T (i := 1398) (by decide +kernel) rfl
theorem ml_RL_155 : Cond.methodLink RL 155 yX11_about ∈ mj_T := mem_T (i := 2088) (by decide +kernel) rfl
theorem ml_RX11_1 : Cond.methodLink RX11 1 objectInit ∈ mj_T := mem_T (i := 1415) (by decide +kernel) rfl
theorem ml_RX11_76 : Cond.methodLink RX11 76 yX11_begins ∈ mj_T := mem_T (i := 1416) (by decide +kernel) rfl
theorem ml_RX11_79 : Cond.methodLink RX11 79 yX11_takesOver ∈ mj_T := mem_T (i := 1420) (by decide +kernel) rfl
theorem ml_RX11_85 : Cond.methodLink RX11 85 yX11_four ∈ mj_T := mem_T (i := 1588) (by decide +kernel) rfl
theorem ml_RX11_89 : Cond.methodLink RX11 89 yX11_isIn ∈ mj_T := mem_T (i := 1596) (by decide +kernel) rfl
theorem ml_RX11_99 : Cond.methodLink RX11 99 yX11_here ∈ mj_T := mem_T (i := 1611) (by decide +kernel) rfl
theorem ml_RX11_119 : Cond.methodLink RX11 119 yX11_isLetter ∈ mj_T := mem_T (i := 1615) (by decide +kernel) rfl
theorem ml_RX11_123 : Cond.methodLink RX11 123 yX11_isDigit ∈ mj_T := mem_T (i := 1618) (by decide +kernel) rfl
theorem ml_RX11_131 : Cond.methodLink RX11 131 yX11_isWord ∈ mj_T := mem_T (i := 1630) (by decide +kernel) rfl
theorem ml_RX11_171 : Cond.methodLink RX11 171 yX11_orderHere ∈ mj_T := mem_T (i := 1679) (by decide +kernel) rfl
theorem ml_RX11_175 : Cond.methodLink RX11 175 yX11_wrong ∈ mj_T := mem_T (i := 1638) (by decide +kernel) rfl
theorem ml_RX11_178 : Cond.methodLink RX11 178 yX11_numberHere ∈ mj_T := mem_T (i := 1646) (by decide +kernel) rfl
theorem ml_RX11_182 : Cond.methodLink RX11 182 yX11_isGood ∈ mj_T := mem_T (i := 1621) (by decide +kernel) rfl
theorem ml_RX11_186 : Cond.methodLink RX11 186 yX11_goOn ∈ mj_T := mem_T (i := 1607) (by decide +kernel) rfl
theorem ml_RX11_189 : Cond.methodLink RX11 189 yX11_isOwn ∈ mj_T := mem_T (i := 1670) (by decide +kernel) rfl
theorem ml_RX11_192 : Cond.methodLink RX11 192 yX11_isOf ∈ mj_T := mem_T (i := 1424) (by decide +kernel) rfl
theorem ml_RX11_221 : Cond.methodLink RX11 221 yX11_numberIn ∈ mj_T := mem_T (i := 1642) (by decide +kernel) rfl
theorem ml_RX11_224 : Cond.methodLink RX11 224 yX11_nameHere ∈ mj_T := mem_T (i := 1666) (by decide +kernel) rfl
theorem ml_RX11_228 : Cond.methodLink RX11 228 yX11_setOf ∈ mj_T := mem_T (i := 1656) (by decide +kernel) rfl
theorem ml_RX11_231 : Cond.methodLink RX11 231 yX11_cpusLine ∈ mj_T := mem_T (i := 1634) (by decide +kernel) rfl
theorem ml_RX11_234 : Cond.methodLink RX11 234 yX11_vectorsLine ∈ mj_T := mem_T (i := 1651) (by decide +kernel) rfl
theorem ml_RX11_237 : Cond.methodLink RX11 237 yX11_deviceLine ∈ mj_T := mem_T (i := 1662) (by decide +kernel) rfl
theorem ml_RX11_255 : Cond.methodLink RX11 255 yX11_truth ∈ mj_T := mem_T (i := 1427) (by decide +kernel) rfl
theorem ml_RX11_271 : Cond.methodLink RX11 271 yX11_beginsText ∈ mj_T := mem_T (i := 1603) (by decide +kernel) rfl
theorem ml_RX11_274 : Cond.methodLink RX11 274 yX11_line ∈ mj_T := mem_T (i := 1625) (by decide +kernel) rfl
theorem ml_RX11_277 : Cond.methodLink RX11 277 yX11_endsText ∈ mj_T := mem_T (i := 1692) (by decide +kernel) rfl
theorem ml_RX11_280 : Cond.methodLink RX11 280 yX11_isDevice ∈ mj_T := mem_T (i := 1716) (by decide +kernel) rfl
theorem ml_RX11_283 : Cond.methodLink RX11 283 yX11_isStarted ∈ mj_T := mem_T (i := 1728) (by decide +kernel) rfl
theorem ml_RX11_286 : Cond.methodLink RX11 286 yX11_spot ∈ mj_T := mem_T (i := 1759) (by decide +kernel) rfl
theorem ml_RX11_289 : Cond.methodLink RX11 289 yX11_manyOf ∈ mj_T := mem_T (i := 1778) (by decide +kernel) rfl
theorem ml_RX11_292 : Cond.methodLink RX11 292 yX11_isOnline ∈ mj_T := mem_T (i := 1770) (by decide +kernel) rfl
theorem ml_RX11_295 : Cond.methodLink RX11 295 yX11_pendingOf ∈ mj_T := mem_T (i := 1977) (by decide +kernel) rfl
theorem ml_RX11_298 : Cond.methodLink RX11 298 yX11_blockOf ∈ mj_T := mem_T (i := 1755) (by decide +kernel) rfl
theorem ml_RX11_301 : Cond.methodLink RX11 301 yX11_loadOf ∈ mj_T := mem_T (i := 1774) (by decide +kernel) rfl
theorem ml_RX11_304 : Cond.methodLink RX11 304 yX11_sets ∈ mj_T := mem_T (i := 1762) (by decide +kernel) rfl
theorem ml_RX11_308 : Cond.methodLink RX11 308 yX11_lineAt ∈ mj_T := mem_T (i := 1736) (by decide +kernel) rfl
theorem ml_RX11_311 : Cond.methodLink RX11 311 yX11_merges ∈ mj_T := mem_T (i := 1854) (by decide +kernel) rfl
theorem ml_RX11_314 : Cond.methodLink RX11 314 yX11_setMany ∈ mj_T := mem_T (i := 1751) (by decide +kernel) rfl
theorem ml_RX11_317 : Cond.methodLink RX11 317 yX11_dealt ∈ mj_T := mem_T (i := 1794) (by decide +kernel) rfl
theorem ml_RX11_320 : Cond.methodLink RX11 320 yX11_holds ∈ mj_T := mem_T (i := 1786) (by decide +kernel) rfl
theorem ml_RX11_324 : Cond.methodLink RX11 324 yX11_spreadOf ∈ mj_T := mem_T (i := 1747) (by decide +kernel) rfl
theorem ml_RX11_327 : Cond.methodLink RX11 327 yX11_leastOf ∈ mj_T := mem_T (i := 1766) (by decide +kernel) rfl
theorem ml_RX11_330 : Cond.methodLink RX11 330 yX11_reservedAt ∈ mj_T := mem_T (i := 1782) (by decide +kernel) rfl
theorem ml_RX11_334 : Cond.methodLink RX11 334 yX11_putsAside ∈ mj_T := mem_T (i := 1732) (by decide +kernel) rfl
theorem ml_RX11_337 : Cond.methodLink RX11 337 yX11_noOld ∈ mj_T := mem_T (i := 1739) (by decide +kernel) rfl
theorem ml_RX11_341 : Cond.methodLink RX11 341 yX11_startsQueues ∈ mj_T := mem_T (i := 1743) (by decide +kernel) rfl
theorem ml_RX11_344 : Cond.methodLink RX11 344 yX11_startsDealt ∈ mj_T := mem_T (i := 1790) (by decide +kernel) rfl
theorem ml_RX11_347 : Cond.methodLink RX11 347 yX11_freeOnline ∈ mj_T := mem_T (i := 1798) (by decide +kernel) rfl
theorem ml_RX11_350 : Cond.methodLink RX11 350 yX11_promised ∈ mj_T := mem_T (i := 1802) (by decide +kernel) rfl
theorem ml_RX11_353 : Cond.methodLink RX11 353 yX11_comesBack ∈ mj_T := mem_T (i := 1806) (by decide +kernel) rfl
theorem ml_RX11_356 : Cond.methodLink RX11 356 yX11_hasOld ∈ mj_T := mem_T (i := 1846) (by decide +kernel) rfl
theorem ml_RX11_359 : Cond.methodLink RX11 359 yX11_pends ∈ mj_T := mem_T (i := 1850) (by decide +kernel) rfl
theorem ml_RX11_362 : Cond.methodLink RX11 362 yX11_lesser ∈ mj_T := mem_T (i := 1874) (by decide +kernel) rfl
theorem ml_RX11_365 : Cond.methodLink RX11 365 yX11_logs ∈ mj_T := mem_T (i := 1870) (by decide +kernel) rfl
theorem ml_RX11_369 : Cond.methodLink RX11 369 yX11_leaves ∈ mj_T := mem_T (i := 1881) (by decide +kernel) rfl
theorem ml_RX11_372 : Cond.methodLink RX11 372 yX11_handles ∈ mj_T := mem_T (i := 1866) (by decide +kernel) rfl
theorem ml_RX11_375 : Cond.methodLink RX11 375 yX11_drains ∈ mj_T := mem_T (i := 1877) (by decide +kernel) rfl
theorem ml_RX11_378 : Cond.methodLink RX11 378 yX11_isLine ∈ mj_T := mem_T (i := 1838) (by decide +kernel) rfl
theorem ml_RX11_381 : Cond.methodLink RX11 381 yX11_hasAnyOld ∈ mj_T := mem_T (i := 1893) (by decide +kernel) rfl
theorem ml_RX11_384 : Cond.methodLink RX11 384 yX11_moves ∈ mj_T := mem_T (i := 1897) (by decide +kernel) rfl
theorem ml_RX11_387 : Cond.methodLink RX11 387 yX11_oldLeaves ∈ mj_T := mem_T (i := 1921) (by decide +kernel) rfl
theorem ml_RX11_391 : Cond.methodLink RX11 391 yX11_isBrought ∈ mj_T := mem_T (i := 1925) (by decide +kernel) rfl
theorem ml_RX11_394 : Cond.methodLink RX11 394 yX11_queueLeaves ∈ mj_T := mem_T (i := 1929) (by decide +kernel) rfl
theorem ml_RX11_397 : Cond.methodLink RX11 397 yX11_online ∈ mj_T := mem_T (i := 1913) (by decide +kernel) rfl
theorem ml_RX11_400 : Cond.methodLink RX11 400 yX11_isCleared ∈ mj_T := mem_T (i := 1917) (by decide +kernel) rfl
theorem ml_RX11_403 : Cond.methodLink RX11 403 yX11_exchanges ∈ mj_T := mem_T (i := 1704) (by decide +kernel) rfl
theorem ml_RX11_406 : Cond.methodLink RX11 406 yX11_keeps ∈ mj_T := mem_T (i := 1814) (by decide +kernel) rfl
theorem ml_RX11_409 : Cond.methodLink RX11 409 yX11_begin ∈ mj_T := mem_T (i := 1720) (by decide +kernel) rfl
theorem ml_RX11_412 : Cond.methodLink RX11 412 yX11_starts ∈ mj_T := mem_T (i := 1724) (by decide +kernel) rfl
theorem ml_RX11_415 : Cond.methodLink RX11 415 yX11_kept ∈ mj_T := mem_T (i := 1810) (by decide +kernel) rfl
theorem ml_RX11_417 : Cond.methodLink RX11 417 yX11_stops ∈ mj_T := mem_T (i := 1822) (by decide +kernel) rfl
theorem ml_RX11_420 : Cond.methodLink RX11 420 yX11_claims ∈ mj_T := mem_T (i := 1830) (by decide +kernel) rfl
theorem ml_RX11_423 : Cond.methodLink RX11 423 yX11_raises ∈ mj_T := mem_T (i := 1842) (by decide +kernel) rfl
theorem ml_RX11_427 : Cond.methodLink RX11 427 yX11_ticks ∈ mj_T := mem_T (i := 1862) (by decide +kernel) rfl
theorem ml_RX11_430 : Cond.methodLink RX11 430 yX11_movesTo ∈ mj_T := mem_T (i := 1889) (by decide +kernel) rfl
theorem ml_RX11_433 : Cond.methodLink RX11 433 yX11_isCpu ∈ mj_T := mem_T (i := 1905) (by decide +kernel) rfl
theorem ml_RX11_436 : Cond.methodLink RX11 436 yX11_unplugs ∈ mj_T := mem_T (i := 1909) (by decide +kernel) rfl
theorem ml_RX11_439 : Cond.methodLink RX11 439 yX11_plugs ∈ mj_T := mem_T (i := 1937) (by decide +kernel) rfl
theorem ml_RX11_445 : Cond.methodLink RX11 445 yX11_knownDevice ∈ mj_T := mem_T (i := 1949) (by decide +kernel) rfl
theorem ml_RX11_448 : Cond.methodLink RX11 448 yX11_stopsOr ∈ mj_T := mem_T (i := 1957) (by decide +kernel) rfl
theorem ml_RX11_451 : Cond.methodLink RX11 451 yX11_raisesOr ∈ mj_T := mem_T (i := 1961) (by decide +kernel) rfl
theorem ml_RX11_454 : Cond.methodLink RX11 454 yX11_doesTicks ∈ mj_T := mem_T (i := 1965) (by decide +kernel) rfl
theorem ml_RX11_457 : Cond.methodLink RX11 457 yX11_readOrder ∈ mj_T := mem_T (i := 1945) (by decide +kernel) rfl
theorem ml_RX11_460 : Cond.methodLink RX11 460 yX11_does ∈ mj_T := mem_T (i := 1953) (by decide +kernel) rfl
theorem ml_RX11_463 : Cond.methodLink RX11 463 yX11_greatestBlock ∈ mj_T := mem_T (i := 1981) (by decide +kernel) rfl
theorem ml_RX11_466 : Cond.methodLink RX11 466 yX11_greater ∈ mj_T := mem_T (i := 2009) (by decide +kernel) rfl
theorem ml_RX11_472 : Cond.methodLink RX11 472 yX11_mustGo ∈ mj_T := mem_T (i := 2020) (by decide +kernel) rfl
theorem ml_RX11_481 : Cond.methodLink RX11 481 yX11_laysClear ∈ mj_T := mem_T (i := 2016) (by decide +kernel) rfl
theorem ml_RX11_484 : Cond.methodLink RX11 484 yX11_triesNow ∈ mj_T := mem_T (i := 2032) (by decide +kernel) rfl
theorem ml_RX11_487 : Cond.methodLink RX11 487 yX11_endsTry ∈ mj_T := mem_T (i := 2036) (by decide +kernel) rfl
theorem ml_RX11_490 : Cond.methodLink RX11 490 yX11_startedLines ∈ mj_T := mem_T (i := 2044) (by decide +kernel) rfl
theorem ml_RX11_493 : Cond.methodLink RX11 493 yX11_raisesAt ∈ mj_T := mem_T (i := 2048) (by decide +kernel) rfl
theorem ml_RX11_496 : Cond.methodLink RX11 496 yX11_allPending ∈ mj_T := mem_T (i := 2052) (by decide +kernel) rfl
theorem ml_RX11_499 : Cond.methodLink RX11 499 yX11_isAlike ∈ mj_T := mem_T (i := 2068) (by decide +kernel) rfl
theorem ml_RX11_502 : Cond.methodLink RX11 502 yX11_heldLines ∈ mj_T := mem_T (i := 2080) (by decide +kernel) rfl
theorem ml_RJ0_335 : Cond.methodLink RJ0 335 yJ0_coder_7d493 ∈ mj_T := mem_T (i := 259) (by decide +kernel) rfl
theorem ml_RJ0_492 : Cond.methodLink RJ0 492 yJ0_isLatin1_aae02 ∈ mj_T := mem_T (i := 269) (by decide +kernel) rfl
theorem ml_RJ0_495 : Cond.methodLink RJ0 495 yJ1_charAt_3b067 ∈ mj_T := mem_T (i := 273) (by decide +kernel) rfl
theorem ml_RJ0_498 : Cond.methodLink RJ0 498 yJ2_charAt_3b067 ∈ mj_T := mem_T (i := 284) (by decide +kernel) rfl
theorem ml_RJ0_1059 : Cond.methodLink RJ0 1059 yJ3_checkIndex_8e157 ∈ mj_T := mem_T (i := 281) (by decide +kernel) rfl
theorem ml_RJ1_9 : Cond.methodLink RJ1 9 yJ0_checkIndex_df160 ∈ mj_T := mem_T (i := 276) (by decide +kernel) rfl
theorem ml_RJ2_48 : Cond.methodLink RJ2 48 yJ2_length_9d52b ∈ mj_T := mem_T (i := 290) (by decide +kernel) rfl
theorem ml_RJ2_67 : Cond.methodLink RJ2 67 yJ2_checkIndex_2214a ∈ mj_T := mem_T (i := 287) (by decide +kernel) rfl
theorem ml_RJ2_71 : Cond.methodLink RJ2 71 yJ2_getChar_3b067 ∈ mj_T := mem_T (i := 294) (by decide +kernel) rfl
theorem ml_RJ2_414 : Cond.methodLink RJ2 414 yJ0_checkIndex_df160 ∈ mj_T := mem_T (i := 293) (by decide +kernel) rfl
theorem fr_RX10_9 : mj_flr RX10 9 10 0 := ⟨_, rfl, Nat.le_of_ble_eq_true rfl, mem_T (i := 641) (by decide +kernel) rfl⟩
theorem fl_RX10_9 : mj_fl RX10 9 10 0 (.array .byte) true := ⟨_, rfl, Nat.le_of_ble_eq_true rfl, mem_T (i := 641) (by decide +kernel) rfl, by decide +kernel, rfl, fun _ => rfl⟩
theorem fr_RX10_15 : mj_flr RX10 15 10 8 := ⟨_, rfl, Nat.le_of_ble_eq_true rfl, mem_T (i := 649) (by decide +kernel) rfl⟩
theorem fl_RX10_15 : mj_fl RX10 15 10 8 (.array (.object "VectorDeal$State")) true := ⟨_, rfl, Nat.le_of_ble_eq_true rfl, mem_T (i := 649) (by decide +kernel) rfl, by decide +kernel, rfl, fun _ => rfl⟩
theorem fr_RX10_19 : mj_flr RX10 19 10 9 := ⟨_, rfl, Nat.le_of_ble_eq_true rfl, mem_T (i := 650) (by decide +kernel) rfl⟩
theorem fl_RX10_19 : mj_fl RX10 19 10 9 (.array .boolean) true := ⟨_, rfl, Nat.le_of_ble_eq_true rfl, mem_T (i := 650) (by decide +kernel) rfl, by decide +kernel, rfl, fun _ => rfl⟩
theorem fr_RX10_26 : mj_flr RX10 26 10 3 := ⟨_, rfl, Nat.le_of_ble_eq_true rfl, mem_T (i := 644) (by decide +kernel) rfl⟩
theorem fl_RX10_26 : mj_fl RX10 26 10 3 (.object "VectorDeal$Board") true := ⟨_, rfl, Nat.le_of_ble_eq_true rfl, mem_T (i := 644) (by decide +kernel) rfl, by decide +kernel, rfl, fun _ => rfl⟩
theorem fr_RX10_35 : mj_flr RX10 35 10 2 := ⟨_, rfl, Nat.le_of_ble_eq_true rfl, mem_T (i := 643) (by decide +kernel) rfl⟩
theorem fl_RX10_35 : mj_fl RX10 35 10 2 (.object "VectorDeal$Tokens") true := ⟨_, rfl, Nat.le_of_ble_eq_true rfl, mem_T (i := 643) (by decide +kernel) rfl, by decide +kernel, rfl, fun _ => rfl⟩
theorem fr_RX10_44 : mj_flr RX10 44 10 4 := ⟨_, rfl, Nat.le_of_ble_eq_true rfl, mem_T (i := 645) (by decide +kernel) rfl⟩
theorem fl_RX10_44 : mj_fl RX10 44 10 4 (.object "VectorDeal$BoardText") true := ⟨_, rfl, Nat.le_of_ble_eq_true rfl, mem_T (i := 645) (by decide +kernel) rfl, by decide +kernel, rfl, fun _ => rfl⟩
theorem fr_RX10_53 : mj_flr RX10 53 10 5 := ⟨_, rfl, Nat.le_of_ble_eq_true rfl, mem_T (i := 646) (by decide +kernel) rfl⟩
theorem fl_RX10_53 : mj_fl RX10 53 10 5 (.object "VectorDeal$OrdersText") true := ⟨_, rfl, Nat.le_of_ble_eq_true rfl, mem_T (i := 646) (by decide +kernel) rfl, by decide +kernel, rfl, fun _ => rfl⟩
theorem fr_RX10_62 : mj_flr RX10 62 10 6 := ⟨_, rfl, Nat.le_of_ble_eq_true rfl, mem_T (i := 647) (by decide +kernel) rfl⟩
theorem fl_RX10_62 : mj_fl RX10 62 10 6 (.object "VectorDeal$History") true := ⟨_, rfl, Nat.le_of_ble_eq_true rfl, mem_T (i := 647) (by decide +kernel) rfl, by decide +kernel, rfl, fun _ => rfl⟩
theorem fr_RX10_67 : mj_flr RX10 67 10 7 := ⟨_, rfl, Nat.le_of_ble_eq_true rfl, mem_T (i := 648) (by decide +kernel) rfl⟩
theorem fl_RX10_67 : mj_fl RX10 67 10 7 (.object "VectorDeal$State") true := ⟨_, rfl, Nat.le_of_ble_eq_true rfl, mem_T (i := 648) (by decide +kernel) rfl, by decide +kernel, rfl, fun _ => rfl⟩
theorem fr_RX10_74 : mj_flr RX10 74 10 10 := ⟨_, rfl, Nat.le_of_ble_eq_true rfl, mem_T (i := 651) (by decide +kernel) rfl⟩
theorem fl_RX10_74 : mj_fl RX10 74 10 10 (.object "VectorDeal$Survey") true := ⟨_, rfl, Nat.le_of_ble_eq_true rfl, mem_T (i := 651) (by decide +kernel) rfl, by decide +kernel, rfl, fun _ => rfl⟩
theorem fr_RX10_81 : mj_flr RX10 81 10 11 := ⟨_, rfl, Nat.le_of_ble_eq_true rfl, mem_T (i := 652) (by decide +kernel) rfl⟩
theorem fl_RX10_81 : mj_fl RX10 81 10 11 (.object "VectorDeal$Storm") true := ⟨_, rfl, Nat.le_of_ble_eq_true rfl, mem_T (i := 652) (by decide +kernel) rfl, by decide +kernel, rfl, fun _ => rfl⟩
theorem fr_RX10_85 : mj_flr RX10 85 10 1 := ⟨_, rfl, Nat.le_of_ble_eq_true rfl, mem_T (i := 642) (by decide +kernel) rfl⟩
theorem fl_RX10_85 : mj_fl RX10 85 10 1 .int false := ⟨_, rfl, Nat.le_of_ble_eq_true rfl, mem_T (i := 642) (by decide +kernel) rfl, by decide +kernel, rfl, fun _ => rfl⟩
theorem fr_RX10_100 : mj_flr RX10 100 10 12 := ⟨_, rfl, Nat.le_of_ble_eq_true rfl, mem_T (i := 653) (by decide +kernel) rfl⟩
theorem fl_RX10_100 : mj_fl RX10 100 10 12 .int false := ⟨_, rfl, Nat.le_of_ble_eq_true rfl, mem_T (i := 653) (by decide +kernel) rfl, by decide +kernel, rfl, fun _ => rfl⟩
theorem fr_RX10_103 : mj_flr RX10 103 1 1 := ⟨_, rfl, Nat.le_of_ble_eq_true rfl, mem_T (i := 384) (by decide +kernel) rfl⟩
theorem fr_RX10_109 : mj_flr RX10 109 2 0 := ⟨_, rfl, Nat.le_of_ble_eq_true rfl, mem_T (i := 579) (by decide +kernel) rfl⟩
theorem fr_RX10_118 : mj_flr RX10 118 0 4 := ⟨_, rfl, Nat.le_of_ble_eq_true rfl, mem_T (i := 200) (by decide +kernel) rfl⟩
theorem fr_RX10_125 : mj_flr RX10 125 3 2 := ⟨_, rfl, Nat.le_of_ble_eq_true rfl, mem_T (i := 408) (by decide +kernel) rfl⟩
theorem fr_RX10_128 : mj_flr RX10 128 3 3 := ⟨_, rfl, Nat.le_of_ble_eq_true rfl, mem_T (i := 410) (by decide +kernel) rfl⟩
theorem fr_RX10_142 : mj_flr RX10 142 3 4 := ⟨_, rfl, Nat.le_of_ble_eq_true rfl, mem_T (i := 412) (by decide +kernel) rfl⟩
theorem fr_RX10_145 : mj_flr RX10 145 3 5 := ⟨_, rfl, Nat.le_of_ble_eq_true rfl, mem_T (i := 414) (by decide +kernel) rfl⟩
theorem fr_RX10_162 : mj_flr RX10 162 3 6 := ⟨_, rfl, Nat.le_of_ble_eq_true rfl, mem_T (i := 416) (by decide +kernel) rfl⟩
theorem fr_RX10_178 : mj_flr RX10 178 9 16 := ⟨_, rfl, Nat.le_of_ble_eq_true rfl, mem_T (i := 334) (by decide +kernel) rfl⟩
theorem fr_RX10_181 : mj_flr RX10 181 9 17 := ⟨_, rfl, Nat.le_of_ble_eq_true rfl, mem_T (i := 336) (by decide +kernel) rfl⟩
theorem fr_RX10_207 : mj_flr RX10 207 5 1 := ⟨_, rfl, Nat.le_of_ble_eq_true rfl, mem_T (i := 544) (by decide +kernel) rfl⟩
theorem fr_RX10_220 : mj_flr RX10 220 4 3 := ⟨_, rfl, Nat.le_of_ble_eq_true rfl, mem_T (i := 497) (by decide +kernel) rfl⟩
theorem fr_RX10_234 : mj_flr RX10 234 5 2 := ⟨_, rfl, Nat.le_of_ble_eq_true rfl, mem_T (i := 546) (by decide +kernel) rfl⟩
theorem fr_RX10_238 : mj_flr RX10 238 8 5 := ⟨_, rfl, Nat.le_of_ble_eq_true rfl, mem_T (i := 463) (by decide +kernel) rfl⟩
theorem fr_RX10_246 : mj_flr RX10 246 4 4 := ⟨_, rfl, Nat.le_of_ble_eq_true rfl, mem_T (i := 501) (by decide +kernel) rfl⟩
theorem fr_RX10_255 : mj_flr RX10 255 0 7 := ⟨_, rfl, Nat.le_of_ble_eq_true rfl, mem_T (i := 212) (by decide +kernel) rfl⟩
theorem fr_RX10_258 : mj_flr RX10 258 0 8 := ⟨_, rfl, Nat.le_of_ble_eq_true rfl, mem_T (i := 218) (by decide +kernel) rfl⟩
theorem fr_RX10_261 : mj_flr RX10 261 0 9 := ⟨_, rfl, Nat.le_of_ble_eq_true rfl, mem_T (i := 222) (by decide +kernel) rfl⟩
theorem fr_RX10_270 : mj_flr RX10 270 8 2 := ⟨_, rfl, Nat.le_of_ble_eq_true rfl, mem_T (i := 455) (by decide +kernel) rfl⟩
theorem fr_RX10_273 : mj_flr RX10 273 8 3 := ⟨_, rfl, Nat.le_of_ble_eq_true rfl, mem_T (i := 458) (by decide +kernel) rfl⟩
theorem fr_RX10_276 : mj_flr RX10 276 8 4 := ⟨_, rfl, Nat.le_of_ble_eq_true rfl, mem_T (i := 461) (by decide +kernel) rfl⟩
theorem fr_RX10_279 : mj_flr RX10 279 5 5 := ⟨_, rfl, Nat.le_of_ble_eq_true rfl, mem_T (i := 551) (by decide +kernel) rfl⟩
theorem fr_RX10_288 : mj_flr RX10 288 5 6 := ⟨_, rfl, Nat.le_of_ble_eq_true rfl, mem_T (i := 554) (by decide +kernel) rfl⟩
theorem fr_RX10_291 : mj_flr RX10 291 5 7 := ⟨_, rfl, Nat.le_of_ble_eq_true rfl, mem_T (i := 556) (by decide +kernel) rfl⟩
theorem fr_RX10_294 : mj_flr RX10 294 5 8 := ⟨_, rfl, Nat.le_of_ble_eq_true rfl, mem_T (i := 558) (by decide +kernel) rfl⟩
theorem fr_RX10_314 : mj_flr RX10 314 7 1 := ⟨_, rfl, Nat.le_of_ble_eq_true rfl, mem_T (i := 609) (by decide +kernel) rfl⟩
theorem fr_RX10_317 : mj_flr RX10 317 7 2 := ⟨_, rfl, Nat.le_of_ble_eq_true rfl, mem_T (i := 611) (by decide +kernel) rfl⟩
theorem fr_RX10_324 : mj_flr RX10 324 6 1 := ⟨_, rfl, Nat.le_of_ble_eq_true rfl, mem_T (i := 627) (by decide +kernel) rfl⟩
theorem fr_RX10_326 : mj_flr RX10 326 6 2 := ⟨_, rfl, Nat.le_of_ble_eq_true rfl, mem_T (i := 629) (by decide +kernel) rfl⟩
theorem fr_RX10_328 : mj_flr RX10 328 6 3 := ⟨_, rfl, Nat.le_of_ble_eq_true rfl, mem_T (i := 631) (by decide +kernel) rfl⟩
theorem fr_RX10_367 : mj_flr RX10 367 0 0 := ⟨_, rfl, Nat.le_of_ble_eq_true rfl, mem_T (i := 185) (by decide +kernel) rfl⟩
theorem fr_RX10_369 : mj_flr RX10 369 0 1 := ⟨_, rfl, Nat.le_of_ble_eq_true rfl, mem_T (i := 191) (by decide +kernel) rfl⟩
theorem fr_RX10_372 : mj_flr RX10 372 4 1 := ⟨_, rfl, Nat.le_of_ble_eq_true rfl, mem_T (i := 491) (by decide +kernel) rfl⟩
theorem fr_RX10_381 : mj_flr RX10 381 2 4 := ⟨_, rfl, Nat.le_of_ble_eq_true rfl, mem_T (i := 584) (by decide +kernel) rfl⟩
theorem fr_RX10_384 : mj_flr RX10 384 2 5 := ⟨_, rfl, Nat.le_of_ble_eq_true rfl, mem_T (i := 586) (by decide +kernel) rfl⟩
theorem fr_RX10_391 : mj_flr RX10 391 8 0 := ⟨_, rfl, Nat.le_of_ble_eq_true rfl, mem_T (i := 452) (by decide +kernel) rfl⟩
theorem fr_RX0_9 : mj_flr RX0 9 0 5 := ⟨_, rfl, Nat.le_of_ble_eq_true rfl, mem_T (i := 204) (by decide +kernel) rfl⟩
theorem fl_RX0_9 : mj_fl RX0 9 0 5 (.array .long) true := ⟨_, rfl, Nat.le_of_ble_eq_true rfl, mem_T (i := 204) (by decide +kernel) rfl, by decide +kernel, rfl, fun _ => rfl⟩
theorem fr_RX0_15 : mj_flr RX0 15 0 6 := ⟨_, rfl, Nat.le_of_ble_eq_true rfl, mem_T (i := 206) (by decide +kernel) rfl⟩
theorem fl_RX0_15 : mj_fl RX0 15 0 6 (.array .int) true := ⟨_, rfl, Nat.le_of_ble_eq_true rfl, mem_T (i := 206) (by decide +kernel) rfl, by decide +kernel, rfl, fun _ => rfl⟩
theorem fr_RX0_19 : mj_flr RX0 19 0 7 := ⟨_, rfl, Nat.le_of_ble_eq_true rfl, mem_T (i := 208) (by decide +kernel) rfl⟩
theorem fl_RX0_19 : mj_fl RX0 19 0 7 (.array .int) true := ⟨_, rfl, Nat.le_of_ble_eq_true rfl, mem_T (i := 208) (by decide +kernel) rfl, by decide +kernel, rfl, fun _ => rfl⟩
theorem fr_RX0_22 : mj_flr RX0 22 0 8 := ⟨_, rfl, Nat.le_of_ble_eq_true rfl, mem_T (i := 213) (by decide +kernel) rfl⟩
theorem fl_RX0_22 : mj_fl RX0 22 0 8 (.array .int) true := ⟨_, rfl, Nat.le_of_ble_eq_true rfl, mem_T (i := 213) (by decide +kernel) rfl, by decide +kernel, rfl, fun _ => rfl⟩
theorem fr_RX0_25 : mj_flr RX0 25 0 9 := ⟨_, rfl, Nat.le_of_ble_eq_true rfl, mem_T (i := 219) (by decide +kernel) rfl⟩
theorem fl_RX0_25 : mj_fl RX0 25 0 9 (.array .int) true := ⟨_, rfl, Nat.le_of_ble_eq_true rfl, mem_T (i := 219) (by decide +kernel) rfl, by decide +kernel, rfl, fun _ => rfl⟩
theorem fr_RX0_31 : mj_flr RX0 31 0 0 := ⟨_, rfl, Nat.le_of_ble_eq_true rfl, mem_T (i := 179) (by decide +kernel) rfl⟩
theorem fl_RX0_31 : mj_fl RX0 31 0 0 .int false := ⟨_, rfl, Nat.le_of_ble_eq_true rfl, mem_T (i := 179) (by decide +kernel) rfl, by decide +kernel, rfl, fun _ => rfl⟩
theorem fr_RX0_35 : mj_flr RX0 35 0 1 := ⟨_, rfl, Nat.le_of_ble_eq_true rfl, mem_T (i := 186) (by decide +kernel) rfl⟩
theorem fl_RX0_35 : mj_fl RX0 35 0 1 .int false := ⟨_, rfl, Nat.le_of_ble_eq_true rfl, mem_T (i := 186) (by decide +kernel) rfl, by decide +kernel, rfl, fun _ => rfl⟩
theorem fr_RX0_38 : mj_flr RX0 38 0 2 := ⟨_, rfl, Nat.le_of_ble_eq_true rfl, mem_T (i := 192) (by decide +kernel) rfl⟩
theorem fl_RX0_38 : mj_fl RX0 38 0 2 .int false := ⟨_, rfl, Nat.le_of_ble_eq_true rfl, mem_T (i := 192) (by decide +kernel) rfl, by decide +kernel, rfl, fun _ => rfl⟩
theorem fr_RX0_41 : mj_flr RX0 41 0 3 := ⟨_, rfl, Nat.le_of_ble_eq_true rfl, mem_T (i := 195) (by decide +kernel) rfl⟩
theorem fl_RX0_41 : mj_fl RX0 41 0 3 .int false := ⟨_, rfl, Nat.le_of_ble_eq_true rfl, mem_T (i := 195) (by decide +kernel) rfl, by decide +kernel, rfl, fun _ => rfl⟩
theorem fr_RX0_44 : mj_flr RX0 44 0 4 := ⟨_, rfl, Nat.le_of_ble_eq_true rfl, mem_T (i := 198) (by decide +kernel) rfl⟩
theorem fl_RX0_44 : mj_fl RX0 44 0 4 .int false := ⟨_, rfl, Nat.le_of_ble_eq_true rfl, mem_T (i := 198) (by decide +kernel) rfl, by decide +kernel, rfl, fun _ => rfl⟩
theorem fr_RX1_12 : mj_flr RX1 12 1 1 := ⟨_, rfl, Nat.le_of_ble_eq_true rfl, mem_T (i := 383) (by decide +kernel) rfl⟩
theorem fl_RX1_12 : mj_fl RX1 12 1 1 (.object "VectorDeal$Board") true := ⟨_, rfl, Nat.le_of_ble_eq_true rfl, mem_T (i := 383) (by decide +kernel) rfl, by decide +kernel, rfl, fun _ => rfl⟩
theorem fr_RX1_18 : mj_flr RX1 18 1 0 := ⟨_, rfl, Nat.le_of_ble_eq_true rfl, mem_T (i := 382) (by decide +kernel) rfl⟩
theorem fl_RX1_18 : mj_fl RX1 18 1 0 (.object "VectorDeal$Tokens") true := ⟨_, rfl, Nat.le_of_ble_eq_true rfl, mem_T (i := 382) (by decide +kernel) rfl, by decide +kernel, rfl, fun _ => rfl⟩
theorem fr_RX1_25 : mj_flr RX1 25 1 2 := ⟨_, rfl, Nat.le_of_ble_eq_true rfl, mem_T (i := 385) (by decide +kernel) rfl⟩
theorem fl_RX1_25 : mj_fl RX1 25 1 2 .boolean false := ⟨_, rfl, Nat.le_of_ble_eq_true rfl, mem_T (i := 385) (by decide +kernel) rfl, by decide +kernel, rfl, fun _ => rfl⟩
theorem fr_RX1_29 : mj_flr RX1 29 1 3 := ⟨_, rfl, Nat.le_of_ble_eq_true rfl, mem_T (i := 386) (by decide +kernel) rfl⟩
theorem fl_RX1_29 : mj_fl RX1 29 1 3 .boolean false := ⟨_, rfl, Nat.le_of_ble_eq_true rfl, mem_T (i := 386) (by decide +kernel) rfl, by decide +kernel, rfl, fun _ => rfl⟩
theorem fr_RX1_32 : mj_flr RX1 32 1 4 := ⟨_, rfl, Nat.le_of_ble_eq_true rfl, mem_T (i := 387) (by decide +kernel) rfl⟩
theorem fl_RX1_32 : mj_fl RX1 32 1 4 .boolean false := ⟨_, rfl, Nat.le_of_ble_eq_true rfl, mem_T (i := 387) (by decide +kernel) rfl, by decide +kernel, rfl, fun _ => rfl⟩
theorem fr_RX1_35 : mj_flr RX1 35 9 9 := ⟨_, rfl, Nat.le_of_ble_eq_true rfl, mem_T (i := 316) (by decide +kernel) rfl⟩
theorem fr_RX1_45 : mj_flr RX1 45 9 10 := ⟨_, rfl, Nat.le_of_ble_eq_true rfl, mem_T (i := 318) (by decide +kernel) rfl⟩
theorem fr_RX1_70 : mj_flr RX1 70 9 12 := ⟨_, rfl, Nat.le_of_ble_eq_true rfl, mem_T (i := 323) (by decide +kernel) rfl⟩
theorem fr_RX1_73 : mj_flr RX1 73 0 0 := ⟨_, rfl, Nat.le_of_ble_eq_true rfl, mem_T (i := 181) (by decide +kernel) rfl⟩
theorem fl_RX1_73 : mj_fl RX1 73 0 0 .int false := ⟨_, rfl, Nat.le_of_ble_eq_true rfl, mem_T (i := 181) (by decide +kernel) rfl, by decide +kernel, rfl, fun h => by cases h⟩
theorem fr_RX1_82 : mj_flr RX1 82 0 1 := ⟨_, rfl, Nat.le_of_ble_eq_true rfl, mem_T (i := 187) (by decide +kernel) rfl⟩
theorem fl_RX1_82 : mj_fl RX1 82 0 1 .int false := ⟨_, rfl, Nat.le_of_ble_eq_true rfl, mem_T (i := 187) (by decide +kernel) rfl, by decide +kernel, rfl, fun h => by cases h⟩
theorem fr_RX1_93 : mj_flr RX1 93 0 2 := ⟨_, rfl, Nat.le_of_ble_eq_true rfl, mem_T (i := 194) (by decide +kernel) rfl⟩
theorem fl_RX1_93 : mj_fl RX1 93 0 2 .int false := ⟨_, rfl, Nat.le_of_ble_eq_true rfl, mem_T (i := 194) (by decide +kernel) rfl, by decide +kernel, rfl, fun h => by cases h⟩
theorem fr_RX1_99 : mj_flr RX1 99 9 15 := ⟨_, rfl, Nat.le_of_ble_eq_true rfl, mem_T (i := 331) (by decide +kernel) rfl⟩
theorem fr_RX1_102 : mj_flr RX1 102 0 3 := ⟨_, rfl, Nat.le_of_ble_eq_true rfl, mem_T (i := 197) (by decide +kernel) rfl⟩
theorem fl_RX1_102 : mj_fl RX1 102 0 3 .int false := ⟨_, rfl, Nat.le_of_ble_eq_true rfl, mem_T (i := 197) (by decide +kernel) rfl, by decide +kernel, rfl, fun h => by cases h⟩
theorem fr_RX1_105 : mj_flr RX1 105 0 4 := ⟨_, rfl, Nat.le_of_ble_eq_true rfl, mem_T (i := 202) (by decide +kernel) rfl⟩
theorem fl_RX1_105 : mj_fl RX1 105 0 4 .int false := ⟨_, rfl, Nat.le_of_ble_eq_true rfl, mem_T (i := 202) (by decide +kernel) rfl, by decide +kernel, rfl, fun h => by cases h⟩
theorem fr_RX1_111 : mj_flr RX1 111 9 13 := ⟨_, rfl, Nat.le_of_ble_eq_true rfl, mem_T (i := 328) (by decide +kernel) rfl⟩
theorem fr_RX1_119 : mj_flr RX1 119 0 5 := ⟨_, rfl, Nat.le_of_ble_eq_true rfl, mem_T (i := 205) (by decide +kernel) rfl⟩
theorem fr_RX1_122 : mj_flr RX1 122 0 6 := ⟨_, rfl, Nat.le_of_ble_eq_true rfl, mem_T (i := 207) (by decide +kernel) rfl⟩
theorem fr_RX1_126 : mj_flr RX1 126 9 11 := ⟨_, rfl, Nat.le_of_ble_eq_true rfl, mem_T (i := 322) (by decide +kernel) rfl⟩
theorem fr_RX1_134 : mj_flr RX1 134 0 7 := ⟨_, rfl, Nat.le_of_ble_eq_true rfl, mem_T (i := 211) (by decide +kernel) rfl⟩
theorem fr_RX1_136 : mj_flr RX1 136 0 8 := ⟨_, rfl, Nat.le_of_ble_eq_true rfl, mem_T (i := 217) (by decide +kernel) rfl⟩
theorem fr_RX1_145 : mj_flr RX1 145 0 9 := ⟨_, rfl, Nat.le_of_ble_eq_true rfl, mem_T (i := 220) (by decide +kernel) rfl⟩
theorem fr_RX2_11 : mj_flr RX2 11 2 2 := ⟨_, rfl, Nat.le_of_ble_eq_true rfl, mem_T (i := 581) (by decide +kernel) rfl⟩
theorem fl_RX2_11 : mj_fl RX2 11 2 2 (.array (.object "VectorDeal$State")) true := ⟨_, rfl, Nat.le_of_ble_eq_true rfl, mem_T (i := 581) (by decide +kernel) rfl, by decide +kernel, rfl, fun _ => rfl⟩
theorem fr_RX2_20 : mj_flr RX2 20 2 0 := ⟨_, rfl, Nat.le_of_ble_eq_true rfl, mem_T (i := 578) (by decide +kernel) rfl⟩
theorem fl_RX2_20 : mj_fl RX2 20 2 0 (.object "VectorDeal$State") false := ⟨_, rfl, Nat.le_of_ble_eq_true rfl, mem_T (i := 578) (by decide +kernel) rfl, by decide +kernel, rfl, fun _ => rfl⟩
theorem fr_RX2_24 : mj_flr RX2 24 2 1 := ⟨_, rfl, Nat.le_of_ble_eq_true rfl, mem_T (i := 580) (by decide +kernel) rfl⟩
theorem fl_RX2_24 : mj_fl RX2 24 2 1 (.object "VectorDeal$State") false := ⟨_, rfl, Nat.le_of_ble_eq_true rfl, mem_T (i := 580) (by decide +kernel) rfl, by decide +kernel, rfl, fun _ => rfl⟩
theorem fr_RX2_31 : mj_flr RX2 31 2 4 := ⟨_, rfl, Nat.le_of_ble_eq_true rfl, mem_T (i := 583) (by decide +kernel) rfl⟩
theorem fl_RX2_31 : mj_fl RX2 31 2 4 .int false := ⟨_, rfl, Nat.le_of_ble_eq_true rfl, mem_T (i := 583) (by decide +kernel) rfl, by decide +kernel, rfl, fun _ => rfl⟩
theorem fr_RX2_35 : mj_flr RX2 35 2 3 := ⟨_, rfl, Nat.le_of_ble_eq_true rfl, mem_T (i := 582) (by decide +kernel) rfl⟩
theorem fl_RX2_35 : mj_fl RX2 35 2 3 .int false := ⟨_, rfl, Nat.le_of_ble_eq_true rfl, mem_T (i := 582) (by decide +kernel) rfl, by decide +kernel, rfl, fun _ => rfl⟩
theorem fr_RX2_38 : mj_flr RX2 38 2 5 := ⟨_, rfl, Nat.le_of_ble_eq_true rfl, mem_T (i := 585) (by decide +kernel) rfl⟩
theorem fl_RX2_38 : mj_fl RX2 38 2 5 .int false := ⟨_, rfl, Nat.le_of_ble_eq_true rfl, mem_T (i := 585) (by decide +kernel) rfl, by decide +kernel, rfl, fun _ => rfl⟩
theorem fr_RX3_9 : mj_flr RX3 9 3 3 := ⟨_, rfl, Nat.le_of_ble_eq_true rfl, mem_T (i := 409) (by decide +kernel) rfl⟩
theorem fl_RX3_9 : mj_fl RX3 9 3 3 (.array .int) true := ⟨_, rfl, Nat.le_of_ble_eq_true rfl, mem_T (i := 409) (by decide +kernel) rfl, by decide +kernel, rfl, fun _ => rfl⟩
theorem fr_RX3_15 : mj_flr RX3 15 3 4 := ⟨_, rfl, Nat.le_of_ble_eq_true rfl, mem_T (i := 411) (by decide +kernel) rfl⟩
theorem fl_RX3_15 : mj_fl RX3 15 3 4 (.array .int) true := ⟨_, rfl, Nat.le_of_ble_eq_true rfl, mem_T (i := 411) (by decide +kernel) rfl, by decide +kernel, rfl, fun _ => rfl⟩
theorem fr_RX3_18 : mj_flr RX3 18 3 5 := ⟨_, rfl, Nat.le_of_ble_eq_true rfl, mem_T (i := 413) (by decide +kernel) rfl⟩
theorem fl_RX3_18 : mj_fl RX3 18 3 5 (.array .int) true := ⟨_, rfl, Nat.le_of_ble_eq_true rfl, mem_T (i := 413) (by decide +kernel) rfl, by decide +kernel, rfl, fun _ => rfl⟩
theorem fr_RX3_21 : mj_flr RX3 21 3 6 := ⟨_, rfl, Nat.le_of_ble_eq_true rfl, mem_T (i := 415) (by decide +kernel) rfl⟩
theorem fl_RX3_21 : mj_fl RX3 21 3 6 (.array .int) true := ⟨_, rfl, Nat.le_of_ble_eq_true rfl, mem_T (i := 415) (by decide +kernel) rfl, by decide +kernel, rfl, fun _ => rfl⟩
theorem fr_RX3_24 : mj_flr RX3 24 3 0 := ⟨_, rfl, Nat.le_of_ble_eq_true rfl, mem_T (i := 405) (by decide +kernel) rfl⟩
theorem fl_RX3_24 : mj_fl RX3 24 3 0 (.object "VectorDeal$Tokens") true := ⟨_, rfl, Nat.le_of_ble_eq_true rfl, mem_T (i := 405) (by decide +kernel) rfl, by decide +kernel, rfl, fun _ => rfl⟩
theorem fr_RX3_28 : mj_flr RX3 28 3 1 := ⟨_, rfl, Nat.le_of_ble_eq_true rfl, mem_T (i := 406) (by decide +kernel) rfl⟩
theorem fl_RX3_28 : mj_fl RX3 28 3 1 (.object "VectorDeal$Board") true := ⟨_, rfl, Nat.le_of_ble_eq_true rfl, mem_T (i := 406) (by decide +kernel) rfl, by decide +kernel, rfl, fun _ => rfl⟩
theorem fr_RX3_32 : mj_flr RX3 32 3 2 := ⟨_, rfl, Nat.le_of_ble_eq_true rfl, mem_T (i := 407) (by decide +kernel) rfl⟩
theorem fl_RX3_32 : mj_fl RX3 32 3 2 .int false := ⟨_, rfl, Nat.le_of_ble_eq_true rfl, mem_T (i := 407) (by decide +kernel) rfl, by decide +kernel, rfl, fun _ => rfl⟩
theorem fr_RX3_36 : mj_flr RX3 36 9 9 := ⟨_, rfl, Nat.le_of_ble_eq_true rfl, mem_T (i := 315) (by decide +kernel) rfl⟩
theorem fr_RX3_45 : mj_flr RX3 45 9 10 := ⟨_, rfl, Nat.le_of_ble_eq_true rfl, mem_T (i := 319) (by decide +kernel) rfl⟩
theorem fr_RX3_68 : mj_flr RX3 68 0 0 := ⟨_, rfl, Nat.le_of_ble_eq_true rfl, mem_T (i := 182) (by decide +kernel) rfl⟩
theorem fr_RX3_78 : mj_flr RX3 78 9 13 := ⟨_, rfl, Nat.le_of_ble_eq_true rfl, mem_T (i := 326) (by decide +kernel) rfl⟩
theorem fr_RX3_93 : mj_flr RX3 93 9 12 := ⟨_, rfl, Nat.le_of_ble_eq_true rfl, mem_T (i := 324) (by decide +kernel) rfl⟩
theorem fr_RX3_101 : mj_flr RX3 101 9 15 := ⟨_, rfl, Nat.le_of_ble_eq_true rfl, mem_T (i := 330) (by decide +kernel) rfl⟩
theorem fr_RX4_11 : mj_flr RX4 11 4 2 := ⟨_, rfl, Nat.le_of_ble_eq_true rfl, mem_T (i := 492) (by decide +kernel) rfl⟩
theorem fl_RX4_11 : mj_fl RX4 11 4 2 (.array (.array .int)) true := ⟨_, rfl, Nat.le_of_ble_eq_true rfl, mem_T (i := 492) (by decide +kernel) rfl, by decide +kernel, rfl, fun _ => rfl⟩
theorem fr_RX4_16 : mj_flr RX4 16 4 3 := ⟨_, rfl, Nat.le_of_ble_eq_true rfl, mem_T (i := 494) (by decide +kernel) rfl⟩
theorem fl_RX4_16 : mj_fl RX4 16 4 3 (.array .int) true := ⟨_, rfl, Nat.le_of_ble_eq_true rfl, mem_T (i := 494) (by decide +kernel) rfl, by decide +kernel, rfl, fun _ => rfl⟩
theorem fr_RX4_20 : mj_flr RX4 20 4 4 := ⟨_, rfl, Nat.le_of_ble_eq_true rfl, mem_T (i := 498) (by decide +kernel) rfl⟩
theorem fl_RX4_20 : mj_fl RX4 20 4 4 (.array .int) true := ⟨_, rfl, Nat.le_of_ble_eq_true rfl, mem_T (i := 498) (by decide +kernel) rfl, by decide +kernel, rfl, fun _ => rfl⟩
theorem fr_RX4_23 : mj_flr RX4 23 4 0 := ⟨_, rfl, Nat.le_of_ble_eq_true rfl, mem_T (i := 488) (by decide +kernel) rfl⟩
theorem fl_RX4_23 : mj_fl RX4 23 4 0 (.object "VectorDeal$Board") true := ⟨_, rfl, Nat.le_of_ble_eq_true rfl, mem_T (i := 488) (by decide +kernel) rfl, by decide +kernel, rfl, fun _ => rfl⟩
theorem fr_RX4_33 : mj_flr RX4 33 0 2 := ⟨_, rfl, Nat.le_of_ble_eq_true rfl, mem_T (i := 193) (by decide +kernel) rfl⟩
theorem fr_RX4_46 : mj_flr RX4 46 0 3 := ⟨_, rfl, Nat.le_of_ble_eq_true rfl, mem_T (i := 196) (by decide +kernel) rfl⟩
theorem fr_RX4_49 : mj_flr RX4 49 4 1 := ⟨_, rfl, Nat.le_of_ble_eq_true rfl, mem_T (i := 489) (by decide +kernel) rfl⟩
theorem fl_RX4_49 : mj_fl RX4 49 4 1 .int false := ⟨_, rfl, Nat.le_of_ble_eq_true rfl, mem_T (i := 489) (by decide +kernel) rfl, by decide +kernel, rfl, fun _ => rfl⟩
theorem fr_RX4_64 : mj_flr RX4 64 0 0 := ⟨_, rfl, Nat.le_of_ble_eq_true rfl, mem_T (i := 183) (by decide +kernel) rfl⟩
theorem fr_RX4_78 : mj_flr RX4 78 0 1 := ⟨_, rfl, Nat.le_of_ble_eq_true rfl, mem_T (i := 189) (by decide +kernel) rfl⟩
theorem fr_RX5_12 : mj_flr RX5 12 5 2 := ⟨_, rfl, Nat.le_of_ble_eq_true rfl, mem_T (i := 545) (by decide +kernel) rfl⟩
theorem fl_RX5_12 : mj_fl RX5 12 5 2 (.object "VectorDeal$Tally") true := ⟨_, rfl, Nat.le_of_ble_eq_true rfl, mem_T (i := 545) (by decide +kernel) rfl, by decide +kernel, rfl, fun _ => rfl⟩
theorem fr_RX5_18 : mj_flr RX5 18 5 5 := ⟨_, rfl, Nat.le_of_ble_eq_true rfl, mem_T (i := 549) (by decide +kernel) rfl⟩
theorem fl_RX5_18 : mj_fl RX5 18 5 5 (.array .int) true := ⟨_, rfl, Nat.le_of_ble_eq_true rfl, mem_T (i := 549) (by decide +kernel) rfl, by decide +kernel, rfl, fun _ => rfl⟩
theorem fr_RX5_22 : mj_flr RX5 22 5 6 := ⟨_, rfl, Nat.le_of_ble_eq_true rfl, mem_T (i := 552) (by decide +kernel) rfl⟩
theorem fl_RX5_22 : mj_fl RX5 22 5 6 (.array .int) true := ⟨_, rfl, Nat.le_of_ble_eq_true rfl, mem_T (i := 552) (by decide +kernel) rfl, by decide +kernel, rfl, fun _ => rfl⟩
theorem fr_RX5_25 : mj_flr RX5 25 5 7 := ⟨_, rfl, Nat.le_of_ble_eq_true rfl, mem_T (i := 555) (by decide +kernel) rfl⟩
theorem fl_RX5_25 : mj_fl RX5 25 5 7 (.array .boolean) true := ⟨_, rfl, Nat.le_of_ble_eq_true rfl, mem_T (i := 555) (by decide +kernel) rfl, by decide +kernel, rfl, fun _ => rfl⟩
theorem fr_RX5_29 : mj_flr RX5 29 5 8 := ⟨_, rfl, Nat.le_of_ble_eq_true rfl, mem_T (i := 557) (by decide +kernel) rfl⟩
theorem fl_RX5_29 : mj_fl RX5 29 5 8 (.array .boolean) true := ⟨_, rfl, Nat.le_of_ble_eq_true rfl, mem_T (i := 557) (by decide +kernel) rfl, by decide +kernel, rfl, fun _ => rfl⟩
theorem fr_RX5_32 : mj_flr RX5 32 5 0 := ⟨_, rfl, Nat.le_of_ble_eq_true rfl, mem_T (i := 541) (by decide +kernel) rfl⟩
theorem fl_RX5_32 : mj_fl RX5 32 5 0 (.object "VectorDeal$Board") true := ⟨_, rfl, Nat.le_of_ble_eq_true rfl, mem_T (i := 541) (by decide +kernel) rfl, by decide +kernel, rfl, fun _ => rfl⟩
theorem fr_RX5_41 : mj_flr RX5 41 5 1 := ⟨_, rfl, Nat.le_of_ble_eq_true rfl, mem_T (i := 542) (by decide +kernel) rfl⟩
theorem fl_RX5_41 : mj_fl RX5 41 5 1 (.object "VectorDeal$Rows") true := ⟨_, rfl, Nat.le_of_ble_eq_true rfl, mem_T (i := 542) (by decide +kernel) rfl, by decide +kernel, rfl, fun _ => rfl⟩
theorem fr_RX5_50 : mj_flr RX5 50 5 3 := ⟨_, rfl, Nat.le_of_ble_eq_true rfl, mem_T (i := 547) (by decide +kernel) rfl⟩
theorem fl_RX5_50 : mj_fl RX5 50 5 3 .int false := ⟨_, rfl, Nat.le_of_ble_eq_true rfl, mem_T (i := 547) (by decide +kernel) rfl, by decide +kernel, rfl, fun _ => rfl⟩
theorem fr_RX5_54 : mj_flr RX5 54 5 4 := ⟨_, rfl, Nat.le_of_ble_eq_true rfl, mem_T (i := 548) (by decide +kernel) rfl⟩
theorem fl_RX5_54 : mj_fl RX5 54 5 4 .int false := ⟨_, rfl, Nat.le_of_ble_eq_true rfl, mem_T (i := 548) (by decide +kernel) rfl, by decide +kernel, rfl, fun _ => rfl⟩
theorem fr_RX5_74 : mj_flr RX5 74 0 7 := ⟨_, rfl, Nat.le_of_ble_eq_true rfl, mem_T (i := 209) (by decide +kernel) rfl⟩
theorem fr_RX5_79 : mj_flr RX5 79 0 4 := ⟨_, rfl, Nat.le_of_ble_eq_true rfl, mem_T (i := 201) (by decide +kernel) rfl⟩
theorem fr_RX5_85 : mj_flr RX5 85 0 8 := ⟨_, rfl, Nat.le_of_ble_eq_true rfl, mem_T (i := 215) (by decide +kernel) rfl⟩
theorem fr_RX5_88 : mj_flr RX5 88 0 0 := ⟨_, rfl, Nat.le_of_ble_eq_true rfl, mem_T (i := 184) (by decide +kernel) rfl⟩
theorem fr_RX5_91 : mj_flr RX5 91 4 3 := ⟨_, rfl, Nat.le_of_ble_eq_true rfl, mem_T (i := 496) (by decide +kernel) rfl⟩
theorem fr_RX5_114 : mj_flr RX5 114 8 3 := ⟨_, rfl, Nat.le_of_ble_eq_true rfl, mem_T (i := 457) (by decide +kernel) rfl⟩
theorem fr_RX5_130 : mj_flr RX5 130 0 9 := ⟨_, rfl, Nat.le_of_ble_eq_true rfl, mem_T (i := 221) (by decide +kernel) rfl⟩
theorem fr_RX5_181 : mj_flr RX5 181 0 1 := ⟨_, rfl, Nat.le_of_ble_eq_true rfl, mem_T (i := 190) (by decide +kernel) rfl⟩
theorem fr_RX5_184 : mj_flr RX5 184 4 4 := ⟨_, rfl, Nat.le_of_ble_eq_true rfl, mem_T (i := 500) (by decide +kernel) rfl⟩
theorem fr_RX5_190 : mj_flr RX5 190 8 4 := ⟨_, rfl, Nat.le_of_ble_eq_true rfl, mem_T (i := 460) (by decide +kernel) rfl⟩
theorem fr_RX5_208 : mj_flr RX5 208 8 0 := ⟨_, rfl, Nat.le_of_ble_eq_true rfl, mem_T (i := 451) (by decide +kernel) rfl⟩
theorem fl_RX5_208 : mj_fl RX5 208 8 0 .int false := ⟨_, rfl, Nat.le_of_ble_eq_true rfl, mem_T (i := 451) (by decide +kernel) rfl, by decide +kernel, rfl, fun h => by cases h⟩
theorem fr_RX5_227 : mj_flr RX5 227 4 1 := ⟨_, rfl, Nat.le_of_ble_eq_true rfl, mem_T (i := 490) (by decide +kernel) rfl⟩
theorem fl_RX5_227 : mj_fl RX5 227 4 1 .int false := ⟨_, rfl, Nat.le_of_ble_eq_true rfl, mem_T (i := 490) (by decide +kernel) rfl, by decide +kernel, rfl, fun h => by cases h⟩
theorem fr_RX6_9 : mj_flr RX6 9 6 0 := ⟨_, rfl, Nat.le_of_ble_eq_true rfl, mem_T (i := 625) (by decide +kernel) rfl⟩
theorem fl_RX6_9 : mj_fl RX6 9 6 0 (.object "VectorDeal$Board") true := ⟨_, rfl, Nat.le_of_ble_eq_true rfl, mem_T (i := 625) (by decide +kernel) rfl, by decide +kernel, rfl, fun _ => rfl⟩
theorem fr_RX6_15 : mj_flr RX6 15 6 1 := ⟨_, rfl, Nat.le_of_ble_eq_true rfl, mem_T (i := 626) (by decide +kernel) rfl⟩
theorem fl_RX6_15 : mj_fl RX6 15 6 1 .int false := ⟨_, rfl, Nat.le_of_ble_eq_true rfl, mem_T (i := 626) (by decide +kernel) rfl, by decide +kernel, rfl, fun _ => rfl⟩
theorem fr_RX6_19 : mj_flr RX6 19 6 2 := ⟨_, rfl, Nat.le_of_ble_eq_true rfl, mem_T (i := 628) (by decide +kernel) rfl⟩
theorem fl_RX6_19 : mj_fl RX6 19 6 2 .int false := ⟨_, rfl, Nat.le_of_ble_eq_true rfl, mem_T (i := 628) (by decide +kernel) rfl, by decide +kernel, rfl, fun _ => rfl⟩
theorem fr_RX6_22 : mj_flr RX6 22 6 3 := ⟨_, rfl, Nat.le_of_ble_eq_true rfl, mem_T (i := 630) (by decide +kernel) rfl⟩
theorem fl_RX6_22 : mj_fl RX6 22 6 3 .int false := ⟨_, rfl, Nat.le_of_ble_eq_true rfl, mem_T (i := 630) (by decide +kernel) rfl, by decide +kernel, rfl, fun _ => rfl⟩
theorem fr_RX6_52 : mj_flr RX6 52 0 4 := ⟨_, rfl, Nat.le_of_ble_eq_true rfl, mem_T (i := 199) (by decide +kernel) rfl⟩
theorem fr_RX6_61 : mj_flr RX6 61 0 8 := ⟨_, rfl, Nat.le_of_ble_eq_true rfl, mem_T (i := 214) (by decide +kernel) rfl⟩
theorem fr_RX7_9 : mj_flr RX7 9 7 1 := ⟨_, rfl, Nat.le_of_ble_eq_true rfl, mem_T (i := 608) (by decide +kernel) rfl⟩
theorem fl_RX7_9 : mj_fl RX7 9 7 1 .int false := ⟨_, rfl, Nat.le_of_ble_eq_true rfl, mem_T (i := 608) (by decide +kernel) rfl, by decide +kernel, rfl, fun _ => rfl⟩
theorem fl_RX7_15 : mj_fl RX7 15 7 2 .int false := ⟨_, rfl, Nat.le_of_ble_eq_true rfl, mem_T (i := 610) (by decide +kernel) rfl, by decide +kernel, rfl, fun _ => rfl⟩
theorem fr_RX7_18 : mj_flr RX7 18 7 0 := ⟨_, rfl, Nat.le_of_ble_eq_true rfl, mem_T (i := 607) (by decide +kernel) rfl⟩
theorem fl_RX7_18 : mj_fl RX7 18 7 0 (.object "VectorDeal$Board") true := ⟨_, rfl, Nat.le_of_ble_eq_true rfl, mem_T (i := 607) (by decide +kernel) rfl, by decide +kernel, rfl, fun _ => rfl⟩
theorem fr_RX7_22 : mj_flr RX7 22 0 0 := ⟨_, rfl, Nat.le_of_ble_eq_true rfl, mem_T (i := 180) (by decide +kernel) rfl⟩
theorem fr_RX7_27 : mj_flr RX7 27 5 1 := ⟨_, rfl, Nat.le_of_ble_eq_true rfl, mem_T (i := 543) (by decide +kernel) rfl⟩
theorem fr_RX7_62 : mj_flr RX7 62 4 3 := ⟨_, rfl, Nat.le_of_ble_eq_true rfl, mem_T (i := 495) (by decide +kernel) rfl⟩
theorem fr_RX7_74 : mj_flr RX7 74 0 1 := ⟨_, rfl, Nat.le_of_ble_eq_true rfl, mem_T (i := 188) (by decide +kernel) rfl⟩
theorem fr_RX7_84 : mj_flr RX7 84 4 4 := ⟨_, rfl, Nat.le_of_ble_eq_true rfl, mem_T (i := 499) (by decide +kernel) rfl⟩
theorem fr_RX7_91 : mj_flr RX7 91 0 7 := ⟨_, rfl, Nat.le_of_ble_eq_true rfl, mem_T (i := 210) (by decide +kernel) rfl⟩
theorem fr_RX7_94 : mj_flr RX7 94 5 6 := ⟨_, rfl, Nat.le_of_ble_eq_true rfl, mem_T (i := 553) (by decide +kernel) rfl⟩
theorem fr_RX7_97 : mj_flr RX7 97 0 4 := ⟨_, rfl, Nat.le_of_ble_eq_true rfl, mem_T (i := 203) (by decide +kernel) rfl⟩
theorem fr_RX7_103 : mj_flr RX7 103 0 8 := ⟨_, rfl, Nat.le_of_ble_eq_true rfl, mem_T (i := 216) (by decide +kernel) rfl⟩
theorem fr_RX7_114 : mj_flr RX7 114 4 2 := ⟨_, rfl, Nat.le_of_ble_eq_true rfl, mem_T (i := 493) (by decide +kernel) rfl⟩
theorem fr_RX7_124 : mj_flr RX7 124 5 5 := ⟨_, rfl, Nat.le_of_ble_eq_true rfl, mem_T (i := 550) (by decide +kernel) rfl⟩
theorem fr_RX8_9 : mj_flr RX8 9 8 2 := ⟨_, rfl, Nat.le_of_ble_eq_true rfl, mem_T (i := 454) (by decide +kernel) rfl⟩
theorem fl_RX8_9 : mj_fl RX8 9 8 2 (.array .int) true := ⟨_, rfl, Nat.le_of_ble_eq_true rfl, mem_T (i := 454) (by decide +kernel) rfl, by decide +kernel, rfl, fun _ => rfl⟩
theorem fr_RX8_15 : mj_flr RX8 15 8 3 := ⟨_, rfl, Nat.le_of_ble_eq_true rfl, mem_T (i := 456) (by decide +kernel) rfl⟩
theorem fl_RX8_15 : mj_fl RX8 15 8 3 (.array .int) true := ⟨_, rfl, Nat.le_of_ble_eq_true rfl, mem_T (i := 456) (by decide +kernel) rfl, by decide +kernel, rfl, fun _ => rfl⟩
theorem fr_RX8_18 : mj_flr RX8 18 8 4 := ⟨_, rfl, Nat.le_of_ble_eq_true rfl, mem_T (i := 459) (by decide +kernel) rfl⟩
theorem fl_RX8_18 : mj_fl RX8 18 8 4 (.array .int) true := ⟨_, rfl, Nat.le_of_ble_eq_true rfl, mem_T (i := 459) (by decide +kernel) rfl, by decide +kernel, rfl, fun _ => rfl⟩
theorem fr_RX8_21 : mj_flr RX8 21 8 5 := ⟨_, rfl, Nat.le_of_ble_eq_true rfl, mem_T (i := 462) (by decide +kernel) rfl⟩
theorem fl_RX8_21 : mj_fl RX8 21 8 5 (.array .int) true := ⟨_, rfl, Nat.le_of_ble_eq_true rfl, mem_T (i := 462) (by decide +kernel) rfl, by decide +kernel, rfl, fun _ => rfl⟩
theorem fr_RX8_24 : mj_flr RX8 24 8 6 := ⟨_, rfl, Nat.le_of_ble_eq_true rfl, mem_T (i := 464) (by decide +kernel) rfl⟩
theorem fl_RX8_24 : mj_fl RX8 24 8 6 (.array .int) true := ⟨_, rfl, Nat.le_of_ble_eq_true rfl, mem_T (i := 464) (by decide +kernel) rfl, by decide +kernel, rfl, fun _ => rfl⟩
theorem fr_RX8_27 : mj_flr RX8 27 8 0 := ⟨_, rfl, Nat.le_of_ble_eq_true rfl, mem_T (i := 450) (by decide +kernel) rfl⟩
theorem fl_RX8_27 : mj_fl RX8 27 8 0 .int false := ⟨_, rfl, Nat.le_of_ble_eq_true rfl, mem_T (i := 450) (by decide +kernel) rfl, by decide +kernel, rfl, fun _ => rfl⟩
theorem fr_RX8_31 : mj_flr RX8 31 8 1 := ⟨_, rfl, Nat.le_of_ble_eq_true rfl, mem_T (i := 453) (by decide +kernel) rfl⟩
theorem fl_RX8_31 : mj_fl RX8 31 8 1 .int false := ⟨_, rfl, Nat.le_of_ble_eq_true rfl, mem_T (i := 453) (by decide +kernel) rfl, by decide +kernel, rfl, fun _ => rfl⟩
theorem fr_RX9_9 : mj_flr RX9 9 9 1 := ⟨_, rfl, Nat.le_of_ble_eq_true rfl, mem_T (i := 307) (by decide +kernel) rfl⟩
theorem fl_RX9_9 : mj_fl RX9 9 9 1 (.array .long) true := ⟨_, rfl, Nat.le_of_ble_eq_true rfl, mem_T (i := 307) (by decide +kernel) rfl, by decide +kernel, rfl, fun _ => rfl⟩
theorem fr_RX9_15 : mj_flr RX9 15 9 2 := ⟨_, rfl, Nat.le_of_ble_eq_true rfl, mem_T (i := 308) (by decide +kernel) rfl⟩
theorem fl_RX9_15 : mj_fl RX9 15 9 2 (.array .int) true := ⟨_, rfl, Nat.le_of_ble_eq_true rfl, mem_T (i := 308) (by decide +kernel) rfl, by decide +kernel, rfl, fun _ => rfl⟩
theorem fr_RX9_19 : mj_flr RX9 19 9 3 := ⟨_, rfl, Nat.le_of_ble_eq_true rfl, mem_T (i := 309) (by decide +kernel) rfl⟩
theorem fl_RX9_19 : mj_fl RX9 19 9 3 (.array .int) true := ⟨_, rfl, Nat.le_of_ble_eq_true rfl, mem_T (i := 309) (by decide +kernel) rfl, by decide +kernel, rfl, fun _ => rfl⟩
theorem fr_RX9_22 : mj_flr RX9 22 9 4 := ⟨_, rfl, Nat.le_of_ble_eq_true rfl, mem_T (i := 310) (by decide +kernel) rfl⟩
theorem fl_RX9_22 : mj_fl RX9 22 9 4 (.array .int) true := ⟨_, rfl, Nat.le_of_ble_eq_true rfl, mem_T (i := 310) (by decide +kernel) rfl, by decide +kernel, rfl, fun _ => rfl⟩
theorem fr_RX9_25 : mj_flr RX9 25 9 5 := ⟨_, rfl, Nat.le_of_ble_eq_true rfl, mem_T (i := 311) (by decide +kernel) rfl⟩
theorem fl_RX9_25 : mj_fl RX9 25 9 5 (.array .long) true := ⟨_, rfl, Nat.le_of_ble_eq_true rfl, mem_T (i := 311) (by decide +kernel) rfl, by decide +kernel, rfl, fun _ => rfl⟩
theorem fl_RX9_28 : mj_fl RX9 28 9 17 .int false := ⟨_, rfl, Nat.le_of_ble_eq_true rfl, mem_T (i := 335) (by decide +kernel) rfl, by decide +kernel, rfl, fun _ => rfl⟩
theorem fr_RX9_32 : mj_flr RX9 32 9 0 := ⟨_, rfl, Nat.le_of_ble_eq_true rfl, mem_T (i := 306) (by decide +kernel) rfl⟩
theorem fl_RX9_32 : mj_fl RX9 32 9 0 (.array .byte) true := ⟨_, rfl, Nat.le_of_ble_eq_true rfl, mem_T (i := 306) (by decide +kernel) rfl, by decide +kernel, rfl, fun _ => rfl⟩
theorem fr_RX9_61 : mj_flr RX9 61 9 6 := ⟨_, rfl, Nat.le_of_ble_eq_true rfl, mem_T (i := 312) (by decide +kernel) rfl⟩
theorem fl_RX9_61 : mj_fl RX9 61 9 6 .int false := ⟨_, rfl, Nat.le_of_ble_eq_true rfl, mem_T (i := 312) (by decide +kernel) rfl, by decide +kernel, rfl, fun _ => rfl⟩
theorem fr_RX9_63 : mj_flr RX9 63 9 7 := ⟨_, rfl, Nat.le_of_ble_eq_true rfl, mem_T (i := 313) (by decide +kernel) rfl⟩
theorem fl_RX9_63 : mj_fl RX9 63 9 7 .int false := ⟨_, rfl, Nat.le_of_ble_eq_true rfl, mem_T (i := 313) (by decide +kernel) rfl, by decide +kernel, rfl, fun _ => rfl⟩
theorem fl_RX9_66 : mj_fl RX9 66 9 16 .int false := ⟨_, rfl, Nat.le_of_ble_eq_true rfl, mem_T (i := 333) (by decide +kernel) rfl, by decide +kernel, rfl, fun _ => rfl⟩
theorem fr_RX9_73 : mj_flr RX9 73 9 8 := ⟨_, rfl, Nat.le_of_ble_eq_true rfl, mem_T (i := 314) (by decide +kernel) rfl⟩
theorem fl_RX9_73 : mj_fl RX9 73 9 8 .int false := ⟨_, rfl, Nat.le_of_ble_eq_true rfl, mem_T (i := 314) (by decide +kernel) rfl, by decide +kernel, rfl, fun _ => rfl⟩
theorem fr_RX9_96 : mj_flr RX9 96 9 9 := ⟨_, rfl, Nat.le_of_ble_eq_true rfl, mem_T (i := 317) (by decide +kernel) rfl⟩
theorem fl_RX9_96 : mj_fl RX9 96 9 9 .int false := ⟨_, rfl, Nat.le_of_ble_eq_true rfl, mem_T (i := 317) (by decide +kernel) rfl, by decide +kernel, rfl, fun _ => rfl⟩
theorem fr_RX9_99 : mj_flr RX9 99 9 14 := ⟨_, rfl, Nat.le_of_ble_eq_true rfl, mem_T (i := 329) (by decide +kernel) rfl⟩
theorem fl_RX9_99 : mj_fl RX9 99 9 14 .int false := ⟨_, rfl, Nat.le_of_ble_eq_true rfl, mem_T (i := 329) (by decide +kernel) rfl, by decide +kernel, rfl, fun _ => rfl⟩
theorem fr_RX9_102 : mj_flr RX9 102 9 11 := ⟨_, rfl, Nat.le_of_ble_eq_true rfl, mem_T (i := 321) (by decide +kernel) rfl⟩
theorem fl_RX9_102 : mj_fl RX9 102 9 11 .int false := ⟨_, rfl, Nat.le_of_ble_eq_true rfl, mem_T (i := 321) (by decide +kernel) rfl, by decide +kernel, rfl, fun _ => rfl⟩
theorem fr_RX9_105 : mj_flr RX9 105 9 13 := ⟨_, rfl, Nat.le_of_ble_eq_true rfl, mem_T (i := 327) (by decide +kernel) rfl⟩
theorem fl_RX9_105 : mj_fl RX9 105 9 13 .long false := ⟨_, rfl, Nat.le_of_ble_eq_true rfl, mem_T (i := 327) (by decide +kernel) rfl, by decide +kernel, rfl, fun _ => rfl⟩
theorem fr_RX9_109 : mj_flr RX9 109 9 12 := ⟨_, rfl, Nat.le_of_ble_eq_true rfl, mem_T (i := 325) (by decide +kernel) rfl⟩
theorem fl_RX9_109 : mj_fl RX9 109 9 12 .int false := ⟨_, rfl, Nat.le_of_ble_eq_true rfl, mem_T (i := 325) (by decide +kernel) rfl, by decide +kernel, rfl, fun _ => rfl⟩
theorem fr_RX9_116 : mj_flr RX9 116 9 10 := ⟨_, rfl, Nat.le_of_ble_eq_true rfl, mem_T (i := 320) (by decide +kernel) rfl⟩
theorem fl_RX9_116 : mj_fl RX9 116 9 10 .int false := ⟨_, rfl, Nat.le_of_ble_eq_true rfl, mem_T (i := 320) (by decide +kernel) rfl, by decide +kernel, rfl, fun _ => rfl⟩
theorem fr_RX9_127 : mj_flr RX9 127 9 15 := ⟨_, rfl, Nat.le_of_ble_eq_true rfl, mem_T (i := 332) (by decide +kernel) rfl⟩
theorem fl_RX9_127 : mj_fl RX9 127 9 15 .int false := ⟨_, rfl, Nat.le_of_ble_eq_true rfl, mem_T (i := 332) (by decide +kernel) rfl, by decide +kernel, rfl, fun _ => rfl⟩
theorem fr_RX11_7 : mj_flr RX11 7 11 0 := ⟨_, rfl, Nat.le_of_ble_eq_true rfl, mem_T (i := 1430) (by decide +kernel) rfl⟩
theorem fl_RX11_7 : mj_fl RX11 7 11 0 (.array .int) true := ⟨_, rfl, Nat.le_of_ble_eq_true rfl, mem_T (i := 1430) (by decide +kernel) rfl, by decide +kernel, rfl, fun _ => rfl⟩
theorem fr_RX11_13 : mj_flr RX11 13 11 9 := ⟨_, rfl, Nat.le_of_ble_eq_true rfl, mem_T (i := 1439) (by decide +kernel) rfl⟩
theorem fl_RX11_13 : mj_fl RX11 13 11 9 .int false := ⟨_, rfl, Nat.le_of_ble_eq_true rfl, mem_T (i := 1439) (by decide +kernel) rfl, by decide +kernel, rfl, fun _ => rfl⟩
theorem fr_RX11_17 : mj_flr RX11 17 11 11 := ⟨_, rfl, Nat.le_of_ble_eq_true rfl, mem_T (i := 1441) (by decide +kernel) rfl⟩
theorem fl_RX11_17 : mj_fl RX11 17 11 11 .int false := ⟨_, rfl, Nat.le_of_ble_eq_true rfl, mem_T (i := 1441) (by decide +kernel) rfl, by decide +kernel, rfl, fun _ => rfl⟩
theorem fr_RX11_20 : mj_flr RX11 20 11 26 := ⟨_, rfl, Nat.le_of_ble_eq_true rfl, mem_T (i := 1456) (by decide +kernel) rfl⟩
theorem fl_RX11_20 : mj_fl RX11 20 11 26 (.array .int) true := ⟨_, rfl, Nat.le_of_ble_eq_true rfl, mem_T (i := 1456) (by decide +kernel) rfl, by decide +kernel, rfl, fun _ => rfl⟩
theorem fr_RX11_23 : mj_flr RX11 23 11 27 := ⟨_, rfl, Nat.le_of_ble_eq_true rfl, mem_T (i := 1457) (by decide +kernel) rfl⟩
theorem fl_RX11_23 : mj_fl RX11 23 11 27 (.array .int) true := ⟨_, rfl, Nat.le_of_ble_eq_true rfl, mem_T (i := 1457) (by decide +kernel) rfl, by decide +kernel, rfl, fun _ => rfl⟩
theorem fr_RX11_26 : mj_flr RX11 26 11 28 := ⟨_, rfl, Nat.le_of_ble_eq_true rfl, mem_T (i := 1458) (by decide +kernel) rfl⟩
theorem fl_RX11_26 : mj_fl RX11 26 11 28 (.array .int) true := ⟨_, rfl, Nat.le_of_ble_eq_true rfl, mem_T (i := 1458) (by decide +kernel) rfl, by decide +kernel, rfl, fun _ => rfl⟩
theorem fr_RX11_29 : mj_flr RX11 29 11 29 := ⟨_, rfl, Nat.le_of_ble_eq_true rfl, mem_T (i := 1459) (by decide +kernel) rfl⟩
theorem fl_RX11_29 : mj_fl RX11 29 11 29 (.array .int) true := ⟨_, rfl, Nat.le_of_ble_eq_true rfl, mem_T (i := 1459) (by decide +kernel) rfl, by decide +kernel, rfl, fun _ => rfl⟩
theorem fr_RX11_32 : mj_flr RX11 32 11 30 := ⟨_, rfl, Nat.le_of_ble_eq_true rfl, mem_T (i := 1460) (by decide +kernel) rfl⟩
theorem fl_RX11_32 : mj_fl RX11 32 11 30 (.array .int) true := ⟨_, rfl, Nat.le_of_ble_eq_true rfl, mem_T (i := 1460) (by decide +kernel) rfl, by decide +kernel, rfl, fun _ => rfl⟩
theorem fr_RX11_35 : mj_flr RX11 35 11 31 := ⟨_, rfl, Nat.le_of_ble_eq_true rfl, mem_T (i := 1461) (by decide +kernel) rfl⟩
theorem fl_RX11_35 : mj_fl RX11 35 11 31 (.array .int) true := ⟨_, rfl, Nat.le_of_ble_eq_true rfl, mem_T (i := 1461) (by decide +kernel) rfl, by decide +kernel, rfl, fun _ => rfl⟩
theorem fr_RX11_38 : mj_flr RX11 38 11 32 := ⟨_, rfl, Nat.le_of_ble_eq_true rfl, mem_T (i := 1462) (by decide +kernel) rfl⟩
theorem fl_RX11_38 : mj_fl RX11 38 11 32 (.array .int) true := ⟨_, rfl, Nat.le_of_ble_eq_true rfl, mem_T (i := 1462) (by decide +kernel) rfl, by decide +kernel, rfl, fun _ => rfl⟩
theorem fr_RX11_41 : mj_flr RX11 41 11 33 := ⟨_, rfl, Nat.le_of_ble_eq_true rfl, mem_T (i := 1463) (by decide +kernel) rfl⟩
theorem fl_RX11_41 : mj_fl RX11 41 11 33 (.array .int) true := ⟨_, rfl, Nat.le_of_ble_eq_true rfl, mem_T (i := 1463) (by decide +kernel) rfl, by decide +kernel, rfl, fun _ => rfl⟩
theorem fr_RX11_44 : mj_flr RX11 44 11 34 := ⟨_, rfl, Nat.le_of_ble_eq_true rfl, mem_T (i := 1464) (by decide +kernel) rfl⟩
theorem fl_RX11_44 : mj_fl RX11 44 11 34 (.array .long) true := ⟨_, rfl, Nat.le_of_ble_eq_true rfl, mem_T (i := 1464) (by decide +kernel) rfl, by decide +kernel, rfl, fun _ => rfl⟩
theorem fr_RX11_48 : mj_flr RX11 48 11 35 := ⟨_, rfl, Nat.le_of_ble_eq_true rfl, mem_T (i := 1465) (by decide +kernel) rfl⟩
theorem fl_RX11_48 : mj_fl RX11 48 11 35 (.array .long) true := ⟨_, rfl, Nat.le_of_ble_eq_true rfl, mem_T (i := 1465) (by decide +kernel) rfl, by decide +kernel, rfl, fun _ => rfl⟩
theorem fr_RX11_51 : mj_flr RX11 51 11 36 := ⟨_, rfl, Nat.le_of_ble_eq_true rfl, mem_T (i := 1466) (by decide +kernel) rfl⟩
theorem fl_RX11_51 : mj_fl RX11 51 11 36 (.array .int) true := ⟨_, rfl, Nat.le_of_ble_eq_true rfl, mem_T (i := 1466) (by decide +kernel) rfl, by decide +kernel, rfl, fun _ => rfl⟩
theorem fr_RX11_54 : mj_flr RX11 54 11 37 := ⟨_, rfl, Nat.le_of_ble_eq_true rfl, mem_T (i := 1467) (by decide +kernel) rfl⟩
theorem fl_RX11_54 : mj_fl RX11 54 11 37 (.array .int) true := ⟨_, rfl, Nat.le_of_ble_eq_true rfl, mem_T (i := 1467) (by decide +kernel) rfl, by decide +kernel, rfl, fun _ => rfl⟩
theorem fr_RX11_57 : mj_flr RX11 57 11 38 := ⟨_, rfl, Nat.le_of_ble_eq_true rfl, mem_T (i := 1468) (by decide +kernel) rfl⟩
theorem fl_RX11_57 : mj_fl RX11 57 11 38 (.array .int) true := ⟨_, rfl, Nat.le_of_ble_eq_true rfl, mem_T (i := 1468) (by decide +kernel) rfl, by decide +kernel, rfl, fun _ => rfl⟩
theorem fr_RX11_60 : mj_flr RX11 60 11 39 := ⟨_, rfl, Nat.le_of_ble_eq_true rfl, mem_T (i := 1469) (by decide +kernel) rfl⟩
theorem fl_RX11_60 : mj_fl RX11 60 11 39 (.array .int) true := ⟨_, rfl, Nat.le_of_ble_eq_true rfl, mem_T (i := 1469) (by decide +kernel) rfl, by decide +kernel, rfl, fun _ => rfl⟩
theorem fr_RX11_63 : mj_flr RX11 63 11 42 := ⟨_, rfl, Nat.le_of_ble_eq_true rfl, mem_T (i := 1472) (by decide +kernel) rfl⟩
theorem fl_RX11_63 : mj_fl RX11 63 11 42 (.array .int) true := ⟨_, rfl, Nat.le_of_ble_eq_true rfl, mem_T (i := 1472) (by decide +kernel) rfl, by decide +kernel, rfl, fun _ => rfl⟩
theorem fr_RX11_66 : mj_flr RX11 66 11 48 := ⟨_, rfl, Nat.le_of_ble_eq_true rfl, mem_T (i := 1478) (by decide +kernel) rfl⟩
theorem fl_RX11_66 : mj_fl RX11 66 11 48 (.array .int) true := ⟨_, rfl, Nat.le_of_ble_eq_true rfl, mem_T (i := 1478) (by decide +kernel) rfl, by decide +kernel, rfl, fun _ => rfl⟩
theorem fr_RX11_69 : mj_flr RX11 69 11 49 := ⟨_, rfl, Nat.le_of_ble_eq_true rfl, mem_T (i := 1479) (by decide +kernel) rfl⟩
theorem fl_RX11_69 : mj_fl RX11 69 11 49 (.array .int) true := ⟨_, rfl, Nat.le_of_ble_eq_true rfl, mem_T (i := 1479) (by decide +kernel) rfl, by decide +kernel, rfl, fun _ => rfl⟩
theorem fr_RX11_72 : mj_flr RX11 72 11 50 := ⟨_, rfl, Nat.le_of_ble_eq_true rfl, mem_T (i := 1480) (by decide +kernel) rfl⟩
theorem fl_RX11_72 : mj_fl RX11 72 11 50 (.array .boolean) true := ⟨_, rfl, Nat.le_of_ble_eq_true rfl, mem_T (i := 1480) (by decide +kernel) rfl, by decide +kernel, rfl, fun _ => rfl⟩
theorem fr_RX11_82 : mj_flr RX11 82 11 1 := ⟨_, rfl, Nat.le_of_ble_eq_true rfl, mem_T (i := 1431) (by decide +kernel) rfl⟩
theorem fl_RX11_82 : mj_fl RX11 82 11 1 .int false := ⟨_, rfl, Nat.le_of_ble_eq_true rfl, mem_T (i := 1431) (by decide +kernel) rfl, by decide +kernel, rfl, fun _ => rfl⟩
theorem fr_RX11_93 : mj_flr RX11 93 11 3 := ⟨_, rfl, Nat.le_of_ble_eq_true rfl, mem_T (i := 1433) (by decide +kernel) rfl⟩
theorem fl_RX11_93 : mj_fl RX11 93 11 3 .int false := ⟨_, rfl, Nat.le_of_ble_eq_true rfl, mem_T (i := 1433) (by decide +kernel) rfl, by decide +kernel, rfl, fun _ => rfl⟩
theorem fr_RX11_96 : mj_flr RX11 96 11 2 := ⟨_, rfl, Nat.le_of_ble_eq_true rfl, mem_T (i := 1432) (by decide +kernel) rfl⟩
theorem fl_RX11_96 : mj_fl RX11 96 11 2 .int false := ⟨_, rfl, Nat.le_of_ble_eq_true rfl, mem_T (i := 1432) (by decide +kernel) rfl, by decide +kernel, rfl, fun _ => rfl⟩
theorem fr_RX11_103 : mj_flr RX11 103 11 4 := ⟨_, rfl, Nat.le_of_ble_eq_true rfl, mem_T (i := 1434) (by decide +kernel) rfl⟩
theorem fl_RX11_103 : mj_fl RX11 103 11 4 .int false := ⟨_, rfl, Nat.le_of_ble_eq_true rfl, mem_T (i := 1434) (by decide +kernel) rfl, by decide +kernel, rfl, fun _ => rfl⟩
theorem fr_RX11_106 : mj_flr RX11 106 11 12 := ⟨_, rfl, Nat.le_of_ble_eq_true rfl, mem_T (i := 1442) (by decide +kernel) rfl⟩
theorem fl_RX11_106 : mj_fl RX11 106 11 12 .long false := ⟨_, rfl, Nat.le_of_ble_eq_true rfl, mem_T (i := 1442) (by decide +kernel) rfl, by decide +kernel, rfl, fun _ => rfl⟩
theorem fr_RX11_110 : mj_flr RX11 110 11 6 := ⟨_, rfl, Nat.le_of_ble_eq_true rfl, mem_T (i := 1436) (by decide +kernel) rfl⟩
theorem fl_RX11_110 : mj_fl RX11 110 11 6 .int false := ⟨_, rfl, Nat.le_of_ble_eq_true rfl, mem_T (i := 1436) (by decide +kernel) rfl, by decide +kernel, rfl, fun _ => rfl⟩
theorem fr_RX11_113 : mj_flr RX11 113 11 7 := ⟨_, rfl, Nat.le_of_ble_eq_true rfl, mem_T (i := 1437) (by decide +kernel) rfl⟩
theorem fl_RX11_113 : mj_fl RX11 113 11 7 .int false := ⟨_, rfl, Nat.le_of_ble_eq_true rfl, mem_T (i := 1437) (by decide +kernel) rfl, by decide +kernel, rfl, fun _ => rfl⟩
theorem fr_RX11_116 : mj_flr RX11 116 11 5 := ⟨_, rfl, Nat.le_of_ble_eq_true rfl, mem_T (i := 1435) (by decide +kernel) rfl⟩
theorem fl_RX11_116 : mj_fl RX11 116 11 5 .int false := ⟨_, rfl, Nat.le_of_ble_eq_true rfl, mem_T (i := 1435) (by decide +kernel) rfl, by decide +kernel, rfl, fun _ => rfl⟩
theorem fr_RX11_126 : mj_flr RX11 126 11 8 := ⟨_, rfl, Nat.le_of_ble_eq_true rfl, mem_T (i := 1438) (by decide +kernel) rfl⟩
theorem fl_RX11_126 : mj_fl RX11 126 11 8 .int false := ⟨_, rfl, Nat.le_of_ble_eq_true rfl, mem_T (i := 1438) (by decide +kernel) rfl, by decide +kernel, rfl, fun _ => rfl⟩
theorem fr_RX11_196 : mj_flr RX11 196 11 13 := ⟨_, rfl, Nat.le_of_ble_eq_true rfl, mem_T (i := 1443) (by decide +kernel) rfl⟩
theorem fl_RX11_196 : mj_fl RX11 196 11 13 .int false := ⟨_, rfl, Nat.le_of_ble_eq_true rfl, mem_T (i := 1443) (by decide +kernel) rfl, by decide +kernel, rfl, fun _ => rfl⟩
theorem fr_RX11_199 : mj_flr RX11 199 11 14 := ⟨_, rfl, Nat.le_of_ble_eq_true rfl, mem_T (i := 1444) (by decide +kernel) rfl⟩
theorem fl_RX11_199 : mj_fl RX11 199 11 14 .int false := ⟨_, rfl, Nat.le_of_ble_eq_true rfl, mem_T (i := 1444) (by decide +kernel) rfl, by decide +kernel, rfl, fun _ => rfl⟩
theorem fr_RX11_202 : mj_flr RX11 202 11 15 := ⟨_, rfl, Nat.le_of_ble_eq_true rfl, mem_T (i := 1445) (by decide +kernel) rfl⟩
theorem fl_RX11_202 : mj_fl RX11 202 11 15 .int false := ⟨_, rfl, Nat.le_of_ble_eq_true rfl, mem_T (i := 1445) (by decide +kernel) rfl, by decide +kernel, rfl, fun _ => rfl⟩
theorem fr_RX11_205 : mj_flr RX11 205 11 16 := ⟨_, rfl, Nat.le_of_ble_eq_true rfl, mem_T (i := 1446) (by decide +kernel) rfl⟩
theorem fl_RX11_205 : mj_fl RX11 205 11 16 .int false := ⟨_, rfl, Nat.le_of_ble_eq_true rfl, mem_T (i := 1446) (by decide +kernel) rfl, by decide +kernel, rfl, fun _ => rfl⟩
theorem fr_RX11_208 : mj_flr RX11 208 11 17 := ⟨_, rfl, Nat.le_of_ble_eq_true rfl, mem_T (i := 1447) (by decide +kernel) rfl⟩
theorem fl_RX11_208 : mj_fl RX11 208 11 17 .int false := ⟨_, rfl, Nat.le_of_ble_eq_true rfl, mem_T (i := 1447) (by decide +kernel) rfl, by decide +kernel, rfl, fun _ => rfl⟩
theorem fr_RX11_211 : mj_flr RX11 211 11 23 := ⟨_, rfl, Nat.le_of_ble_eq_true rfl, mem_T (i := 1453) (by decide +kernel) rfl⟩
theorem fl_RX11_211 : mj_fl RX11 211 11 23 .boolean false := ⟨_, rfl, Nat.le_of_ble_eq_true rfl, mem_T (i := 1453) (by decide +kernel) rfl, by decide +kernel, rfl, fun _ => rfl⟩
theorem fr_RX11_215 : mj_flr RX11 215 11 24 := ⟨_, rfl, Nat.le_of_ble_eq_true rfl, mem_T (i := 1454) (by decide +kernel) rfl⟩
theorem fl_RX11_215 : mj_fl RX11 215 11 24 .boolean false := ⟨_, rfl, Nat.le_of_ble_eq_true rfl, mem_T (i := 1454) (by decide +kernel) rfl, by decide +kernel, rfl, fun _ => rfl⟩
theorem fr_RX11_218 : mj_flr RX11 218 11 25 := ⟨_, rfl, Nat.le_of_ble_eq_true rfl, mem_T (i := 1455) (by decide +kernel) rfl⟩
theorem fl_RX11_218 : mj_fl RX11 218 11 25 .boolean false := ⟨_, rfl, Nat.le_of_ble_eq_true rfl, mem_T (i := 1455) (by decide +kernel) rfl, by decide +kernel, rfl, fun _ => rfl⟩
theorem fr_RX11_240 : mj_flr RX11 240 11 18 := ⟨_, rfl, Nat.le_of_ble_eq_true rfl, mem_T (i := 1448) (by decide +kernel) rfl⟩
theorem fl_RX11_240 : mj_fl RX11 240 11 18 .int false := ⟨_, rfl, Nat.le_of_ble_eq_true rfl, mem_T (i := 1448) (by decide +kernel) rfl, by decide +kernel, rfl, fun _ => rfl⟩
theorem fr_RX11_243 : mj_flr RX11 243 11 19 := ⟨_, rfl, Nat.le_of_ble_eq_true rfl, mem_T (i := 1449) (by decide +kernel) rfl⟩
theorem fl_RX11_243 : mj_fl RX11 243 11 19 .int false := ⟨_, rfl, Nat.le_of_ble_eq_true rfl, mem_T (i := 1449) (by decide +kernel) rfl, by decide +kernel, rfl, fun _ => rfl⟩
theorem fr_RX11_246 : mj_flr RX11 246 11 20 := ⟨_, rfl, Nat.le_of_ble_eq_true rfl, mem_T (i := 1450) (by decide +kernel) rfl⟩
theorem fl_RX11_246 : mj_fl RX11 246 11 20 .int false := ⟨_, rfl, Nat.le_of_ble_eq_true rfl, mem_T (i := 1450) (by decide +kernel) rfl, by decide +kernel, rfl, fun _ => rfl⟩
theorem fr_RX11_249 : mj_flr RX11 249 11 21 := ⟨_, rfl, Nat.le_of_ble_eq_true rfl, mem_T (i := 1451) (by decide +kernel) rfl⟩
theorem fl_RX11_249 : mj_fl RX11 249 11 21 .int false := ⟨_, rfl, Nat.le_of_ble_eq_true rfl, mem_T (i := 1451) (by decide +kernel) rfl, by decide +kernel, rfl, fun _ => rfl⟩
theorem fr_RX11_252 : mj_flr RX11 252 11 22 := ⟨_, rfl, Nat.le_of_ble_eq_true rfl, mem_T (i := 1452) (by decide +kernel) rfl⟩
theorem fl_RX11_252 : mj_fl RX11 252 11 22 .int false := ⟨_, rfl, Nat.le_of_ble_eq_true rfl, mem_T (i := 1452) (by decide +kernel) rfl, by decide +kernel, rfl, fun _ => rfl⟩
theorem fr_RX11_259 : mj_flr RX11 259 11 40 := ⟨_, rfl, Nat.le_of_ble_eq_true rfl, mem_T (i := 1470) (by decide +kernel) rfl⟩
theorem fl_RX11_259 : mj_fl RX11 259 11 40 .int false := ⟨_, rfl, Nat.le_of_ble_eq_true rfl, mem_T (i := 1470) (by decide +kernel) rfl, by decide +kernel, rfl, fun _ => rfl⟩
theorem fr_RX11_262 : mj_flr RX11 262 11 41 := ⟨_, rfl, Nat.le_of_ble_eq_true rfl, mem_T (i := 1471) (by decide +kernel) rfl⟩
theorem fl_RX11_262 : mj_fl RX11 262 11 41 .int false := ⟨_, rfl, Nat.le_of_ble_eq_true rfl, mem_T (i := 1471) (by decide +kernel) rfl, by decide +kernel, rfl, fun _ => rfl⟩
theorem fr_RX11_265 : mj_flr RX11 265 11 44 := ⟨_, rfl, Nat.le_of_ble_eq_true rfl, mem_T (i := 1474) (by decide +kernel) rfl⟩
theorem fl_RX11_265 : mj_fl RX11 265 11 44 .int false := ⟨_, rfl, Nat.le_of_ble_eq_true rfl, mem_T (i := 1474) (by decide +kernel) rfl, by decide +kernel, rfl, fun _ => rfl⟩
theorem fr_RX11_268 : mj_flr RX11 268 11 10 := ⟨_, rfl, Nat.le_of_ble_eq_true rfl, mem_T (i := 1440) (by decide +kernel) rfl⟩
theorem fl_RX11_268 : mj_fl RX11 268 11 10 .int false := ⟨_, rfl, Nat.le_of_ble_eq_true rfl, mem_T (i := 1440) (by decide +kernel) rfl, by decide +kernel, rfl, fun _ => rfl⟩
theorem fr_RX11_442 : mj_flr RX11 442 11 43 := ⟨_, rfl, Nat.le_of_ble_eq_true rfl, mem_T (i := 1473) (by decide +kernel) rfl⟩
theorem fl_RX11_442 : mj_fl RX11 442 11 43 .int false := ⟨_, rfl, Nat.le_of_ble_eq_true rfl, mem_T (i := 1473) (by decide +kernel) rfl, by decide +kernel, rfl, fun _ => rfl⟩
theorem fr_RX11_469 : mj_flr RX11 469 11 45 := ⟨_, rfl, Nat.le_of_ble_eq_true rfl, mem_T (i := 1475) (by decide +kernel) rfl⟩
theorem fl_RX11_469 : mj_fl RX11 469 11 45 .int false := ⟨_, rfl, Nat.le_of_ble_eq_true rfl, mem_T (i := 1475) (by decide +kernel) rfl, by decide +kernel, rfl, fun _ => rfl⟩
theorem fr_RX11_475 : mj_flr RX11 475 11 46 := ⟨_, rfl, Nat.le_of_ble_eq_true rfl, mem_T (i := 1476) (by decide +kernel) rfl⟩
theorem fl_RX11_475 : mj_fl RX11 475 11 46 .int false := ⟨_, rfl, Nat.le_of_ble_eq_true rfl, mem_T (i := 1476) (by decide +kernel) rfl, by decide +kernel, rfl, fun _ => rfl⟩
theorem fr_RX11_478 : mj_flr RX11 478 11 47 := ⟨_, rfl, Nat.le_of_ble_eq_true rfl, mem_T (i := 1477) (by decide +kernel) rfl⟩
theorem fl_RX11_478 : mj_fl RX11 478 11 47 .int false := ⟨_, rfl, Nat.le_of_ble_eq_true rfl, mem_T (i := 1477) (by decide +kernel) rfl, by decide +kernel, rfl, fun _ => rfl⟩
theorem kc_RJ6_265 : Cond.constant RJ6 265 1431655765 ∈ mj_T := mem_T (i := 919) (by decide +kernel) rfl
theorem kc_RJ6_266 : Cond.constant RJ6 266 858993459 ∈ mj_T := mem_T (i := 920) (by decide +kernel) rfl
theorem kc_RJ6_267 : Cond.constant RJ6 267 252645135 ∈ mj_T := mem_T (i := 921) (by decide +kernel) rfl
theorem kl_RX11_151 : Cond.constantLong RX11 151 1668314483 ∈ mj_T := mem_T (i := 1629) (by decide +kernel) rfl
theorem kl_RX11_153 : Cond.constantLong RX11 153 33325525081485939 ∈ mj_T := mem_T (i := 1650) (by decide +kernel) rfl
theorem kl_RX11_155 : Cond.constantLong RX11 155 1801810036 ∈ mj_T := mem_T (i := 1655) (by decide +kernel) rfl
theorem kl_RX11_157 : Cond.constantLong RX11 157 7300710 ∈ mj_T := mem_T (i := 1660) (by decide +kernel) rfl
theorem kl_RX11_159 : Cond.constantLong RX11 159 110386941092709 ∈ mj_T := mem_T (i := 1661) (by decide +kernel) rfl
theorem kl_RX11_161 : Cond.constantLong RX11 161 28526 ∈ mj_T := mem_T (i := 1674) (by decide +kernel) rfl
theorem kl_RX11_163 : Cond.constantLong RX11 163 126896661032037 ∈ mj_T := mem_T (i := 1675) (by decide +kernel) rfl
theorem kl_RX11_165 : Cond.constantLong RX11 165 444301538672 ∈ mj_T := mem_T (i := 1676) (by decide +kernel) rfl
theorem kl_RX11_167 : Cond.constantLong RX11 167 30787899169924452 ∈ mj_T := mem_T (i := 1677) (by decide +kernel) rfl
theorem kl_RX11_169 : Cond.constantLong RX11 169 29807 ∈ mj_T := mem_T (i := 1678) (by decide +kernel) rfl
theorem kl_RX11_129 : Cond.constantLong RX11 129 495873782388 ∈ mj_T := mem_T (i := 1683) (by decide +kernel) rfl
theorem kl_RX11_135 : Cond.constantLong RX11 135 1937010544 ∈ mj_T := mem_T (i := 1684) (by decide +kernel) rfl
theorem kl_RX11_137 : Cond.constantLong RX11 137 427020085613 ∈ mj_T := mem_T (i := 1685) (by decide +kernel) rfl
theorem kl_RX11_139 : Cond.constantLong RX11 139 491260572517 ∈ mj_T := mem_T (i := 1686) (by decide +kernel) rfl
theorem kl_RX11_141 : Cond.constantLong RX11 141 1818326117 ∈ mj_T := mem_T (i := 1687) (by decide +kernel) rfl
theorem kl_RX11_143 : Cond.constantLong RX11 143 1836021349 ∈ mj_T := mem_T (i := 1688) (by decide +kernel) rfl
theorem kl_RX11_145 : Cond.constantLong RX11 145 1953063787 ∈ mj_T := mem_T (i := 1689) (by decide +kernel) rfl
theorem kl_RX11_147 : Cond.constantLong RX11 147 1886156135 ∈ mj_T := mem_T (i := 1690) (by decide +kernel) rfl
theorem kl_RX11_149 : Cond.constantLong RX11 149 129117193008487 ∈ mj_T := mem_T (i := 1691) (by decide +kernel) rfl
theorem kk_bipush_6 : (Int8.ofInt 6).toInt32 = nI 6 := by decide
theorem kk_bipush_7 : (Int8.ofInt 7).toInt32 = nI 7 := by decide
theorem kk_bipush_8 : (Int8.ofInt 8).toInt32 = nI 8 := by decide
theorem kk_bipush_10 : (Int8.ofInt 10).toInt32 = nI 10 := by decide
theorem kk_bipush_15 : (Int8.ofInt 15).toInt32 = nI 15 := by decide
theorem kk_bipush_16 : (Int8.ofInt 16).toInt32 = nI 16 := by decide
theorem kk_bipush_18 : (Int8.ofInt 18).toInt32 = nI 18 := by decide
theorem kk_bipush_19 : (Int8.ofInt 19).toInt32 = nI 19 := by decide
theorem kk_bipush_20 : (Int8.ofInt 20).toInt32 = nI 20 := by decide
theorem kk_bipush_24 : (Int8.ofInt 24).toInt32 = nI 24 := by decide
theorem kk_bipush_32 : (Int8.ofInt 32).toInt32 = nI 32 := by decide
theorem kk_bipush_33 : (Int8.ofInt 33).toInt32 = nI 33 := by decide
theorem kk_bipush_40 : (Int8.ofInt 40).toInt32 = nI 40 := by decide
theorem kk_bipush_48 : (Int8.ofInt 48).toInt32 = nI 48 := by decide
theorem kk_bipush_57 : (Int8.ofInt 57).toInt32 = nI 57 := by decide
theorem kk_bipush_59 : (Int8.ofInt 59).toInt32 = nI 59 := by decide
theorem kk_bipush_63 : (Int8.ofInt 63).toInt32 = nI 63 := by decide
theorem kk_bipush_71 : (Int8.ofInt 71).toInt32 = nI 71 := by decide
theorem kk_bipush_80 : (Int8.ofInt 80).toInt32 = nI 80 := by decide
theorem kk_bipush_97 : (Int8.ofInt 97).toInt32 = nI 97 := by decide
theorem kk_bipush_100 : (Int8.ofInt 100).toInt32 = nI 100 := by decide
theorem kk_bipush_122 : (Int8.ofInt 122).toInt32 = nI 122 := by decide
theorem kk_iconst_m1 : Int32.ofInt (-1) = (-1) := by decide
theorem kk_iconst_0 : Int32.ofInt 0 = nI 0 := by decide
theorem kk_iconst_1 : Int32.ofInt 1 = nI 1 := by decide
theorem kk_iconst_2 : Int32.ofInt 2 = nI 2 := by decide
theorem kk_iconst_3 : Int32.ofInt 3 = nI 3 := by decide
theorem kk_iconst_4 : Int32.ofInt 4 = nI 4 := by decide
theorem kk_iconst_5 : Int32.ofInt 5 = nI 5 := by decide
theorem kk_sipush_137 : (Int16.ofInt 137).toInt32 = nI 137 := by decide
theorem kk_sipush_160 : (Int16.ofInt 160).toInt32 = nI 160 := by decide
theorem kk_sipush_199 : (Int16.ofInt 199).toInt32 = nI 199 := by decide
theorem kk_sipush_255 : (Int16.ofInt 255).toInt32 = nI 255 := by decide
theorem kk_sipush_256 : (Int16.ofInt 256).toInt32 = nI 256 := by decide
theorem kk_sipush_500 : (Int16.ofInt 500).toInt32 = nI 500 := by decide
theorem kk_sipush_512 : (Int16.ofInt 512).toInt32 = nI 512 := by decide
theorem kk_sipush_768 : (Int16.ofInt 768).toInt32 = nI 768 := by decide
theorem kk_sipush_780 : (Int16.ofInt 780).toInt32 = nI 780 := by decide
theorem kk_sipush_800 : (Int16.ofInt 800).toInt32 = nI 800 := by decide
theorem kk_sipush_801 : (Int16.ofInt 801).toInt32 = nI 801 := by decide
theorem kk_sipush_1024 : (Int16.ofInt 1024).toInt32 = nI 1024 := by decide
theorem kk_sipush_1104 : (Int16.ofInt 1104).toInt32 = nI 1104 := by decide
theorem kk_sipush_1184 : (Int16.ofInt 1184).toInt32 = nI 1184 := by decide
theorem kk_sipush_1264 : (Int16.ofInt 1264).toInt32 = nI 1264 := by decide
theorem kk_sipush_1344 : (Int16.ofInt 1344).toInt32 = nI 1344 := by decide
theorem kk_sipush_1424 : (Int16.ofInt 1424).toInt32 = nI 1424 := by decide
theorem kk_sipush_1504 : (Int16.ofInt 1504).toInt32 = nI 1504 := by decide
theorem kk_sipush_1514 : (Int16.ofInt 1514).toInt32 = nI 1514 := by decide
theorem kk_sipush_1524 : (Int16.ofInt 1524).toInt32 = nI 1524 := by decide
theorem kk_sipush_1534 : (Int16.ofInt 1534).toInt32 = nI 1534 := by decide
theorem kk_sipush_1544 : (Int16.ofInt 1544).toInt32 = nI 1544 := by decide
theorem kk_sipush_1554 : (Int16.ofInt 1554).toInt32 = nI 1554 := by decide
theorem kk_sipush_1562 : (Int16.ofInt 1562).toInt32 = nI 1562 := by decide
theorem kk_sipush_1570 : (Int16.ofInt 1570).toInt32 = nI 1570 := by decide
theorem kk_sipush_1571 : (Int16.ofInt 1571).toInt32 = nI 1571 := by decide
theorem kk_sipush_1572 : (Int16.ofInt 1572).toInt32 = nI 1572 := by decide
theorem kk_sipush_1573 : (Int16.ofInt 1573).toInt32 = nI 1573 := by decide
theorem kk_sipush_1574 : (Int16.ofInt 1574).toInt32 = nI 1574 := by decide
theorem kk_sipush_1575 : (Int16.ofInt 1575).toInt32 = nI 1575 := by decide
theorem kk_sipush_1576 : (Int16.ofInt 1576).toInt32 = nI 1576 := by decide
theorem kk_sipush_1577 : (Int16.ofInt 1577).toInt32 = nI 1577 := by decide
theorem kk_sipush_1578 : (Int16.ofInt 1578).toInt32 = nI 1578 := by decide
theorem kk_sipush_1579 : (Int16.ofInt 1579).toInt32 = nI 1579 := by decide
theorem kk_sipush_1600 : (Int16.ofInt 1600).toInt32 = nI 1600 := by decide
theorem kk_sipush_1775 : (Int16.ofInt 1775).toInt32 = nI 1775 := by decide
theorem kk_sipush_3550 : (Int16.ofInt 3550).toInt32 = nI 3550 := by decide
theorem kk_sipush_9999 : (Int16.ofInt 9999).toInt32 = nI 9999 := by decide
theorem kk_sipush_10007 : (Int16.ofInt 10007).toInt32 = nI 10007 := by decide
theorem kk_sipush_28400 : (Int16.ofInt 28400).toInt32 = nI 28400 := by decide
