set_option maxRecDepth 100000 in
theorem wc_651 : am_co mX5_size ∈ am_WS := am_t3 108 rfl rfl
theorem cs_X11_295 : am_cvt RX11 295 mX5_size 1 := ⟨⟨by decide +kernel, by decide +kernel, by decide +kernel⟩, wd_657, wd_649, wd_650, wd_74, wc_651⟩
theorem wd_929 : Cond.methodLink RX11 297 yX5_sort ∈ am_WS := am_t4 146 (by decide +kernel) rfl
theorem wd_930 : Cond.instanceMethod yX5_sort ∈ am_WS := am_t4 147 (by decide +kernel) rfl
theorem wd_931 : Cond.selects RX5 yX5_sort yX5_sort ∈ am_WS := am_t4 148 (by decide +kernel) rfl
set_option maxRecDepth 100000 in
theorem wc_932 : am_co mX5_sort ∈ am_WS := am_t4 149 rfl rfl
theorem cs_X11_297 : am_cvt RX11 297 mX5_sort 1 := ⟨⟨by decide +kernel, by decide +kernel, by decide +kernel⟩, wd_929, wd_930, wd_931, wd_74, wc_932⟩
theorem wd_933 : Cond.methodLink RX11 300 yX5_has ∈ am_WS := am_t4 150 (by decide +kernel) rfl
theorem wd_934 : Cond.instanceMethod yX5_has ∈ am_WS := am_t4 151 (by decide +kernel) rfl
theorem wd_935 : Cond.selects RX5 yX5_has yX5_has ∈ am_WS := am_t4 152 (by decide +kernel) rfl
set_option maxRecDepth 100000 in
theorem wc_936 : am_co mX5_has ∈ am_WS := am_t4 153 rfl rfl
theorem cs_X11_300 : am_cvt RX11 300 mX5_has 3 := ⟨⟨by decide +kernel, by decide +kernel, by decide +kernel⟩, wd_933, wd_934, wd_935, wd_74, wc_936⟩
theorem wd_937 : Cond.methodLink RX11 304 yX5_move ∈ am_WS := am_t4 154 (by decide +kernel) rfl
theorem wd_938 : Cond.instanceMethod yX5_move ∈ am_WS := am_t4 155 (by decide +kernel) rfl
theorem wd_939 : Cond.selects RX5 yX5_move yX5_move ∈ am_WS := am_t4 156 (by decide +kernel) rfl
set_option maxRecDepth 100000 in
theorem wc_940 : am_co mX5_move ∈ am_WS := am_t4 157 rfl rfl
theorem cs_X11_304 : am_cvt RX11 304 mX5_move 5 := ⟨⟨by decide +kernel, by decide +kernel, by decide +kernel⟩, wd_937, wd_938, wd_939, wd_74, wc_940⟩
theorem wd_948 : Cond.methodLink RX11 308 yX11_viewer ∈ am_WS := am_t4 165 (by decide +kernel) rfl
theorem wd_619 : Cond.instanceMethod yX11_viewer ∈ am_WS := am_t3 76 (by decide +kernel) rfl
theorem wd_620 : Cond.selects RX11 yX11_viewer yX11_viewer ∈ am_WS := am_t3 77 (by decide +kernel) rfl
set_option maxRecDepth 100000 in
theorem wc_621 : am_co mX11_viewer ∈ am_WS := am_t3 78 rfl rfl
theorem cs_X11_308 : am_cvt RX11 308 mX11_viewer 2 := ⟨⟨by decide +kernel, by decide +kernel, by decide +kernel⟩, wd_948, wd_619, wd_620, wd_64, wc_621⟩
theorem wd_644 : Cond.methodLink RX11 315 yX5_tellsTour ∈ am_WS := am_t3 101 (by decide +kernel) rfl
theorem wd_645 : Cond.instanceMethod yX5_tellsTour ∈ am_WS := am_t3 102 (by decide +kernel) rfl
theorem wd_646 : Cond.selects RX5 yX5_tellsTour yX5_tellsTour ∈ am_WS := am_t3 103 (by decide +kernel) rfl
set_option maxRecDepth 100000 in
theorem wc_647 : am_co mX5_tellsTour ∈ am_WS := am_t3 104 rfl rfl
theorem cs_X11_315 : am_cvt RX11 315 mX5_tellsTour 1 := ⟨⟨by decide +kernel, by decide +kernel, by decide +kernel⟩, wd_644, wd_645, wd_646, wd_74, wc_647⟩
theorem wd_592 : Cond.methodLink RX11 318 yX10_setCrowd ∈ am_WS := am_t3 49 (by decide +kernel) rfl
theorem wd_593 : Cond.instanceMethod yX10_setCrowd ∈ am_WS := am_t3 50 (by decide +kernel) rfl
theorem wd_594 : Cond.selects RX10 yX10_setCrowd yX10_setCrowd ∈ am_WS := am_t3 51 (by decide +kernel) rfl
set_option maxRecDepth 100000 in
theorem wc_595 : am_co mX10_setCrowd ∈ am_WS := am_t3 52 rfl rfl
theorem cs_X11_318 : am_cvt RX11 318 mX10_setCrowd 1 := ⟨⟨by decide +kernel, by decide +kernel, by decide +kernel⟩, wd_592, wd_593, wd_594, wd_75, wc_595⟩
theorem wd_798 : Cond.methodLink RX11 321 yX11_swap ∈ am_WS := am_t4 15 (by decide +kernel) rfl
theorem wd_800 : Cond.instanceMethod yX11_swap ∈ am_WS := am_t4 17 (by decide +kernel) rfl
theorem wd_30 : Cond.selects RX11 yX11_swap yX11_swap ∈ am_WS := am_ts 30 (by decide +kernel) rfl
set_option maxRecDepth 100000 in
theorem wc_801 : am_co mX11_swap ∈ am_WS := am_t4 18 rfl rfl
theorem cs_X11_321 : am_cvt RX11 321 mX11_swap 2 := ⟨⟨by decide +kernel, by decide +kernel, by decide +kernel⟩, wd_798, wd_800, wd_30, wd_64, wc_801⟩
theorem wd_777 : Cond.methodLink RX11 328 yX10_keptOf ∈ am_WS := am_t3 234 (by decide +kernel) rfl
theorem wd_670 : Cond.instanceMethod yX10_keptOf ∈ am_WS := am_t3 127 (by decide +kernel) rfl
theorem wd_671 : Cond.selects RX10 yX10_keptOf yX10_keptOf ∈ am_WS := am_t3 128 (by decide +kernel) rfl
set_option maxRecDepth 100000 in
theorem wc_672 : am_co mX10_keptOf ∈ am_WS := am_t3 129 rfl rfl
theorem cs_X11_328 : am_cvt RX11 328 mX10_keptOf 3 := ⟨⟨by decide +kernel, by decide +kernel, by decide +kernel⟩, wd_777, wd_670, wd_671, wd_75, wc_672⟩
theorem wd_778 : Cond.methodLink RX11 332 yX11_addGain ∈ am_WS := am_t3 235 (by decide +kernel) rfl
theorem wd_780 : Cond.instanceMethod yX11_addGain ∈ am_WS := am_t3 237 (by decide +kernel) rfl
theorem wd_25 : Cond.selects RX11 yX11_addGain yX11_addGain ∈ am_WS := am_ts 25 (by decide +kernel) rfl
set_option maxRecDepth 100000 in
theorem wc_781 : am_co mX11_addGain ∈ am_WS := am_t3 238 rfl rfl
theorem cs_X11_332 : am_cvt RX11 332 mX11_addGain 3 := ⟨⟨by decide +kernel, by decide +kernel, by decide +kernel⟩, wd_778, wd_780, wd_25, wd_64, wc_781⟩
theorem cs_X0_3 : am_ciN RX0 3 mX9_init 0 "FlatToLet" := ⟨⟨by decide +kernel, by decide +kernel, by decide +kernel⟩, rfl, List.mem_of_getElem? (i := 11) (by decide +kernel), wd_136, wd_66, wc_137⟩
theorem cs_X1_1 : am_ciN RX1 1 mX9_init 0 "FlatToLet" := ⟨⟨by decide +kernel, by decide +kernel, by decide +kernel⟩, rfl, List.mem_of_getElem? (i := 3) (by decide +kernel), wd_136, wd_66, wc_137⟩
theorem cs_X2_1 : am_ciN RX2 1 mX1_init 0 "FlatToLet" := ⟨⟨by decide +kernel, by decide +kernel, by decide +kernel⟩, rfl, List.mem_of_getElem? (i := 7) (by decide +kernel), wd_143, wd_67, wc_144⟩
theorem wd_687 : Cond.methodLink RX2 11 yJ9_max_7cf53 ∈ am_WS := am_t3 144 (by decide +kernel) rfl
theorem cs_X2_11 : am_cs RX2 11 mJ9_max_7cf53 2 := ⟨⟨by decide +kernel, by decide +kernel, by decide +kernel⟩, wd_687, wd_688, wd_81, wc_689⟩
theorem cs_X3_1 : am_ciN RX3 1 mX7_init 0 "FlatToLet" := ⟨⟨by decide +kernel, by decide +kernel, by decide +kernel⟩, rfl, List.mem_of_getElem? (i := 9) (by decide +kernel), wd_150, wd_68, wc_151⟩
theorem cs_X4_29 : am_csN RX4 29 mX11_set 3 "FlatToLet" := ⟨⟨by decide +kernel, by decide +kernel, by decide +kernel⟩, List.mem_of_getElem? (i := 15) (by decide +kernel), wd_354, wd_64, wc_355⟩
theorem cs_X4_54 : am_csN RX4 54 mX11_at 2 "FlatToLet" := ⟨⟨by decide +kernel, by decide +kernel, by decide +kernel⟩, List.mem_of_getElem? (i := 16) (by decide +kernel), wd_365, wd_64, wc_366⟩
theorem wd_367 : Cond.methodLink RX4 61 yX4_isLetter ∈ am_WS := am_t2 64 (by decide +kernel) rfl
theorem wd_368 : Cond.static yX4_isLetter ∈ am_WS := am_t2 65 (by decide +kernel) rfl
set_option maxRecDepth 100000 in
theorem wc_369 : am_co mX4_isLetter ∈ am_WS := am_t2 66 rfl rfl
theorem cs_X4_61 : am_cs RX4 61 mX4_isLetter 1 := ⟨⟨by decide +kernel, by decide +kernel, by decide +kernel⟩, wd_367, wd_368, wd_73, wc_369⟩
theorem wd_396 : Cond.methodLink RX4 73 yX4_isDigit ∈ am_WS := am_t2 93 (by decide +kernel) rfl
theorem wd_397 : Cond.static yX4_isDigit ∈ am_WS := am_t2 94 (by decide +kernel) rfl
set_option maxRecDepth 100000 in
theorem wc_398 : am_co mX4_isDigit ∈ am_WS := am_t2 95 rfl rfl
theorem cs_X4_73 : am_cs RX4 73 mX4_isDigit 1 := ⟨⟨by decide +kernel, by decide +kernel, by decide +kernel⟩, wd_396, wd_397, wd_73, wc_398⟩
theorem wd_403 : Cond.methodLink RX4 79 yX4_isSign ∈ am_WS := am_t2 100 (by decide +kernel) rfl
theorem wd_404 : Cond.static yX4_isSign ∈ am_WS := am_t2 101 (by decide +kernel) rfl
set_option maxRecDepth 100000 in
theorem wc_405 : am_co mX4_isSign ∈ am_WS := am_t2 102 rfl rfl
theorem cs_X4_79 : am_cs RX4 79 mX4_isSign 1 := ⟨⟨by decide +kernel, by decide +kernel, by decide +kernel⟩, wd_403, wd_404, wd_73, wc_405⟩
theorem wd_457 : Cond.methodLink RX4 148 yX8_isName ∈ am_WS := am_t2 154 (by decide +kernel) rfl
theorem wd_443 : Cond.static yX8_isName ∈ am_WS := am_t2 140 (by decide +kernel) rfl
set_option maxRecDepth 100000 in
theorem wc_444 : am_co mX8_isName ∈ am_WS := am_t2 141 rfl rfl
theorem cs_X4_148 : am_cs RX4 148 mX8_isName 1 := ⟨⟨by decide +kernel, by decide +kernel, by decide +kernel⟩, wd_457, wd_443, wd_72, wc_444⟩
theorem wd_360 : Cond.methodLink RX4 33 yX4_findTokens ∈ am_WS := am_t2 57 (by decide +kernel) rfl
theorem wd_362 : Cond.instanceMethod yX4_findTokens ∈ am_WS := am_t2 59 (by decide +kernel) rfl
theorem wd_0 : Cond.selects RX4 yX4_findTokens yX4_findTokens ∈ am_WS := am_ts 0 (by decide +kernel) rfl
set_option maxRecDepth 100000 in
theorem wc_363 : am_co mX4_findTokens ∈ am_WS := am_t2 60 rfl rfl
theorem cs_X4_33 : am_cvt RX4 33 mX4_findTokens 0 := ⟨⟨by decide +kernel, by decide +kernel, by decide +kernel⟩, wd_360, wd_362, wd_0, wd_73, wc_363⟩
theorem wd_406 : Cond.methodLink RX4 39 yX4_advance ∈ am_WS := am_t2 103 (by decide +kernel) rfl
theorem wd_408 : Cond.instanceMethod yX4_advance ∈ am_WS := am_t2 105 (by decide +kernel) rfl
theorem wd_5 : Cond.selects RX4 yX4_advance yX4_advance ∈ am_WS := am_ts 5 (by decide +kernel) rfl
set_option maxRecDepth 100000 in
theorem wc_409 : am_co mX4_advance ∈ am_WS := am_t2 106 rfl rfl
theorem cs_X4_39 : am_cvt RX4 39 mX4_advance 0 := ⟨⟨by decide +kernel, by decide +kernel, by decide +kernel⟩, wd_406, wd_408, wd_5, wd_73, wc_409⟩
theorem wd_410 : Cond.methodLink RX4 42 yX8_start ∈ am_WS := am_t2 107 (by decide +kernel) rfl
theorem wd_411 : Cond.instanceMethod yX8_start ∈ am_WS := am_t2 108 (by decide +kernel) rfl
theorem wd_412 : Cond.selects RX8 yX8_start yX8_start ∈ am_WS := am_t2 109 (by decide +kernel) rfl
set_option maxRecDepth 100000 in
theorem wc_413 : am_co mX8_start ∈ am_WS := am_t2 110 rfl rfl
theorem cs_X4_42 : am_cvt RX4 42 mX8_start 0 := ⟨⟨by decide +kernel, by decide +kernel, by decide +kernel⟩, wd_410, wd_411, wd_412, wd_72, wc_413⟩
theorem wd_414 : Cond.methodLink RX4 47 yX4_readPart ∈ am_WS := am_t2 111 (by decide +kernel) rfl
theorem wd_416 : Cond.instanceMethod yX4_readPart ∈ am_WS := am_t2 113 (by decide +kernel) rfl
theorem wd_6 : Cond.selects RX4 yX4_readPart yX4_readPart ∈ am_WS := am_ts 6 (by decide +kernel) rfl
set_option maxRecDepth 100000 in
theorem wc_417 : am_co mX4_readPart ∈ am_WS := am_t2 114 rfl rfl
theorem cs_X4_47 : am_cvt RX4 47 mX4_readPart 2 := ⟨⟨by decide +kernel, by decide +kernel, by decide +kernel⟩, wd_414, wd_416, wd_6, wd_73, wc_417⟩
theorem wd_370 : Cond.methodLink RX4 65 yX4_word ∈ am_WS := am_t2 67 (by decide +kernel) rfl
theorem wd_372 : Cond.instanceMethod yX4_word ∈ am_WS := am_t2 69 (by decide +kernel) rfl
theorem wd_1 : Cond.selects RX4 yX4_word yX4_word ∈ am_WS := am_ts 1 (by decide +kernel) rfl
set_option maxRecDepth 100000 in
theorem wc_373 : am_co mX4_word ∈ am_WS := am_t2 70 rfl rfl
theorem cs_X4_65 : am_cvt RX4 65 mX4_word 2 := ⟨⟨by decide +kernel, by decide +kernel, by decide +kernel⟩, wd_370, wd_372, wd_1, wd_73, wc_373⟩
theorem wd_392 : Cond.methodLink RX4 69 yX4_note ∈ am_WS := am_t2 89 (by decide +kernel) rfl
theorem wd_394 : Cond.instanceMethod yX4_note ∈ am_WS := am_t2 91 (by decide +kernel) rfl
theorem wd_3 : Cond.selects RX4 yX4_note yX4_note ∈ am_WS := am_ts 3 (by decide +kernel) rfl
set_option maxRecDepth 100000 in
theorem wc_395 : am_co mX4_note ∈ am_WS := am_t2 92 rfl rfl
theorem cs_X4_69 : am_cvt RX4 69 mX4_note 2 := ⟨⟨by decide +kernel, by decide +kernel, by decide +kernel⟩, wd_392, wd_394, wd_3, wd_73, wc_395⟩
theorem wd_399 : Cond.methodLink RX4 76 yX4_number ∈ am_WS := am_t2 96 (by decide +kernel) rfl
theorem wd_401 : Cond.instanceMethod yX4_number ∈ am_WS := am_t2 98 (by decide +kernel) rfl
theorem wd_4 : Cond.selects RX4 yX4_number yX4_number ∈ am_WS := am_ts 4 (by decide +kernel) rfl
set_option maxRecDepth 100000 in
theorem wc_402 : am_co mX4_number ∈ am_WS := am_t2 99 rfl rfl
theorem cs_X4_76 : am_cvt RX4 76 mX4_number 2 := ⟨⟨by decide +kernel, by decide +kernel, by decide +kernel⟩, wd_399, wd_401, wd_4, wd_73, wc_402⟩
theorem wd_375 : Cond.methodLink RX4 84 yX4_spells ∈ am_WS := am_t2 72 (by decide +kernel) rfl
theorem wd_377 : Cond.instanceMethod yX4_spells ∈ am_WS := am_t2 74 (by decide +kernel) rfl
theorem wd_2 : Cond.selects RX4 yX4_spells yX4_spells ∈ am_WS := am_ts 2 (by decide +kernel) rfl
set_option maxRecDepth 100000 in
theorem wc_378 : am_co mX4_spells ∈ am_WS := am_t2 75 rfl rfl
theorem cs_X4_84 : am_cvt RX4 84 mX4_spells 3 := ⟨⟨by decide +kernel, by decide +kernel, by decide +kernel⟩, wd_375, wd_377, wd_2, wd_73, wc_378⟩
theorem wd_379 : Cond.methodLink RX4 110 yJ0_length_8abf5 ∈ am_WS := am_t2 76 (by decide +kernel) rfl
theorem cs_X4_110 : am_cvt RX4 110 mJ0_length_8abf5 0 := ⟨⟨by decide +kernel, by decide +kernel, by decide +kernel⟩, wd_379, wd_302, wd_303, wd_76, wc_304⟩
theorem wd_380 : Cond.methodLink RX4 116 yJ0_charAt_5068e ∈ am_WS := am_t2 77 (by decide +kernel) rfl
theorem cs_X4_116 : am_cvt RX4 116 mJ0_charAt_5068e 1 := ⟨⟨by decide +kernel, by decide +kernel, by decide +kernel⟩, wd_380, wd_312, wd_313, wd_76, wc_314⟩
theorem wd_418 : Cond.methodLink RX4 120 yX4_passed ∈ am_WS := am_t2 115 (by decide +kernel) rfl
theorem wd_420 : Cond.instanceMethod yX4_passed ∈ am_WS := am_t2 117 (by decide +kernel) rfl
theorem wd_7 : Cond.selects RX4 yX4_passed yX4_passed ∈ am_WS := am_ts 7 (by decide +kernel) rfl
set_option maxRecDepth 100000 in
theorem wc_421 : am_co mX4_passed ∈ am_WS := am_t2 118 rfl rfl
theorem cs_X4_120 : am_cvt RX4 120 mX4_passed 1 := ⟨⟨by decide +kernel, by decide +kernel, by decide +kernel⟩, wd_418, wd_420, wd_7, wd_73, wc_421⟩
theorem wd_422 : Cond.methodLink RX4 123 yX4_readOr ∈ am_WS := am_t2 119 (by decide +kernel) rfl
theorem wd_424 : Cond.instanceMethod yX4_readOr ∈ am_WS := am_t2 121 (by decide +kernel) rfl
theorem wd_8 : Cond.selects RX4 yX4_readOr yX4_readOr ∈ am_WS := am_ts 8 (by decide +kernel) rfl
set_option maxRecDepth 100000 in
theorem wc_425 : am_co mX4_readOr ∈ am_WS := am_t2 122 rfl rfl
theorem cs_X4_123 : am_cvt RX4 123 mX4_readOr 1 := ⟨⟨by decide +kernel, by decide +kernel, by decide +kernel⟩, wd_422, wd_424, wd_8, wd_73, wc_425⟩
theorem wd_458 : Cond.methodLink RX4 126 yX8_endPart ∈ am_WS := am_t2 155 (by decide +kernel) rfl
theorem wd_459 : Cond.instanceMethod yX8_endPart ∈ am_WS := am_t2 156 (by decide +kernel) rfl
theorem wd_460 : Cond.selects RX8 yX8_endPart yX8_endPart ∈ am_WS := am_t2 157 (by decide +kernel) rfl
set_option maxRecDepth 100000 in
theorem wc_461 : am_co mX8_endPart ∈ am_WS := am_t2 158 rfl rfl
theorem cs_X4_126 : am_cvt RX4 126 mX8_endPart 1 := ⟨⟨by decide +kernel, by decide +kernel, by decide +kernel⟩, wd_458, wd_459, wd_460, wd_72, wc_461⟩
theorem wd_426 : Cond.methodLink RX4 130 yX4_readAnd ∈ am_WS := am_t2 123 (by decide +kernel) rfl
theorem wd_428 : Cond.instanceMethod yX4_readAnd ∈ am_WS := am_t2 125 (by decide +kernel) rfl
theorem wd_9 : Cond.selects RX4 yX4_readAnd yX4_readAnd ∈ am_WS := am_ts 9 (by decide +kernel) rfl
set_option maxRecDepth 100000 in
theorem wc_429 : am_co mX4_readAnd ∈ am_WS := am_t2 126 rfl rfl
theorem cs_X4_130 : am_cvt RX4 130 mX4_readAnd 1 := ⟨⟨by decide +kernel, by decide +kernel, by decide +kernel⟩, wd_426, wd_428, wd_9, wd_73, wc_429⟩
theorem wd_434 : Cond.methodLink RX4 133 yX8_add ∈ am_WS := am_t2 131 (by decide +kernel) rfl
theorem wd_435 : Cond.instanceMethod yX8_add ∈ am_WS := am_t2 132 (by decide +kernel) rfl
theorem wd_436 : Cond.selects RX8 yX8_add yX8_add ∈ am_WS := am_t2 133 (by decide +kernel) rfl
set_option maxRecDepth 100000 in
theorem wc_437 : am_co mX8_add ∈ am_WS := am_t2 134 rfl rfl
theorem cs_X4_133 : am_cvt RX4 133 mX8_add 1 := ⟨⟨by decide +kernel, by decide +kernel, by decide +kernel⟩, wd_434, wd_435, wd_436, wd_72, wc_437⟩
theorem wd_430 : Cond.methodLink RX4 136 yX4_readNot ∈ am_WS := am_t2 127 (by decide +kernel) rfl
theorem wd_432 : Cond.instanceMethod yX4_readNot ∈ am_WS := am_t2 129 (by decide +kernel) rfl
theorem wd_10 : Cond.selects RX4 yX4_readNot yX4_readNot ∈ am_WS := am_ts 10 (by decide +kernel) rfl
set_option maxRecDepth 100000 in
theorem wc_433 : am_co mX4_readNot ∈ am_WS := am_t2 130 rfl rfl
theorem cs_X4_136 : am_cvt RX4 136 mX4_readNot 1 := ⟨⟨by decide +kernel, by decide +kernel, by decide +kernel⟩, wd_430, wd_432, wd_10, wd_73, wc_433⟩
theorem wd_445 : Cond.methodLink RX4 139 yX4_readSum ∈ am_WS := am_t2 142 (by decide +kernel) rfl
theorem wd_447 : Cond.instanceMethod yX4_readSum ∈ am_WS := am_t2 144 (by decide +kernel) rfl
theorem wd_11 : Cond.selects RX4 yX4_readSum yX4_readSum ∈ am_WS := am_ts 11 (by decide +kernel) rfl
set_option maxRecDepth 100000 in
theorem wc_448 : am_co mX4_readSum ∈ am_WS := am_t2 145 rfl rfl
theorem cs_X4_139 : am_cvt RX4 139 mX4_readSum 1 := ⟨⟨by decide +kernel, by decide +kernel, by decide +kernel⟩, wd_445, wd_447, wd_11, wd_73, wc_448⟩
theorem wd_449 : Cond.methodLink RX4 142 yX4_readTerm ∈ am_WS := am_t2 146 (by decide +kernel) rfl
theorem wd_451 : Cond.instanceMethod yX4_readTerm ∈ am_WS := am_t2 148 (by decide +kernel) rfl
theorem wd_12 : Cond.selects RX4 yX4_readTerm yX4_readTerm ∈ am_WS := am_ts 12 (by decide +kernel) rfl
set_option maxRecDepth 100000 in
theorem wc_452 : am_co mX4_readTerm ∈ am_WS := am_t2 149 rfl rfl
theorem cs_X4_142 : am_cvt RX4 142 mX4_readTerm 1 := ⟨⟨by decide +kernel, by decide +kernel, by decide +kernel⟩, wd_449, wd_451, wd_12, wd_73, wc_452⟩
theorem wd_453 : Cond.methodLink RX4 145 yX4_readOne ∈ am_WS := am_t2 150 (by decide +kernel) rfl
theorem wd_455 : Cond.instanceMethod yX4_readOne ∈ am_WS := am_t2 152 (by decide +kernel) rfl
theorem wd_13 : Cond.selects RX4 yX4_readOne yX4_readOne ∈ am_WS := am_ts 13 (by decide +kernel) rfl
set_option maxRecDepth 100000 in
theorem wc_456 : am_co mX4_readOne ∈ am_WS := am_t2 153 rfl rfl
theorem cs_X4_145 : am_cvt RX4 145 mX4_readOne 1 := ⟨⟨by decide +kernel, by decide +kernel, by decide +kernel⟩, wd_453, wd_455, wd_13, wd_73, wc_456⟩
theorem cs_X5_21 : am_csN RX5 21 mX11_at 2 "FlatToLet" := ⟨⟨by decide +kernel, by decide +kernel, by decide +kernel⟩, List.mem_of_getElem? (i := 23) (by decide +kernel), wd_365, wd_64, wc_366⟩
theorem cs_X5_25 : am_csN RX5 25 mX11_set 3 "FlatToLet" := ⟨⟨by decide +kernel, by decide +kernel, by decide +kernel⟩, List.mem_of_getElem? (i := 26) (by decide +kernel), wd_354, wd_64, wc_355⟩
theorem cs_X5_43 : am_csN RX5 43 mX11_within 2 "FlatToLet" := ⟨⟨by decide +kernel, by decide +kernel, by decide +kernel⟩, List.mem_of_getElem? (i := 24) (by decide +kernel), wd_439, wd_64, wc_440⟩
theorem wd_648 : Cond.methodLink RX5 29 yX5_size ∈ am_WS := am_t3 105 (by decide +kernel) rfl
theorem cs_X5_29 : am_cvt RX5 29 mX5_size 1 := ⟨⟨by decide +kernel, by decide +kernel, by decide +kernel⟩, wd_648, wd_649, wd_650, wd_74, wc_651⟩
theorem wd_652 : Cond.methodLink RX5 39 yX5_read ∈ am_WS := am_t3 109 (by decide +kernel) rfl
theorem cs_X5_39 : am_cvt RX5 39 mX5_read 2 := ⟨⟨by decide +kernel, by decide +kernel, by decide +kernel⟩, wd_652, wd_653, wd_654, wd_74, wc_655⟩
theorem cs_X6_28 : am_csN RX6 28 mX11_at 2 "FlatToLet" := ⟨⟨by decide +kernel, by decide +kernel, by decide +kernel⟩, List.mem_of_getElem? (i := 27) (by decide +kernel), wd_365, wd_64, wc_366⟩
theorem cs_X6_32 : am_csN RX6 32 mX11_set 3 "FlatToLet" := ⟨⟨by decide +kernel, by decide +kernel, by decide +kernel⟩, List.mem_of_getElem? (i := 28) (by decide +kernel), wd_354, wd_64, wc_355⟩
theorem cs_X7_1 : am_ciN RX7 1 mX9_init 0 "FlatToLet" := ⟨⟨by decide +kernel, by decide +kernel, by decide +kernel⟩, rfl, List.mem_of_getElem? (i := 5) (by decide +kernel), wd_136, wd_66, wc_137⟩
theorem cs_X8_34 : am_csN RX8 34 mX11_within 2 "FlatToLet" := ⟨⟨by decide +kernel, by decide +kernel, by decide +kernel⟩, List.mem_of_getElem? (i := 17) (by decide +kernel), wd_439, wd_64, wc_440⟩
theorem cs_X8_38 : am_csN RX8 38 mX11_set 3 "FlatToLet" := ⟨⟨by decide +kernel, by decide +kernel, by decide +kernel⟩, List.mem_of_getElem? (i := 18) (by decide +kernel), wd_354, wd_64, wc_355⟩
theorem wd_442 : Cond.methodLink RX8 42 yX8_isName ∈ am_WS := am_t2 139 (by decide +kernel) rfl
theorem cs_X8_42 : am_cs RX8 42 mX8_isName 1 := ⟨⟨by decide +kernel, by decide +kernel, by decide +kernel⟩, wd_442, wd_443, wd_72, wc_444⟩
theorem cs_X8_46 : am_csN RX8 46 mX11_at 2 "FlatToLet" := ⟨⟨by decide +kernel, by decide +kernel, by decide +kernel⟩, List.mem_of_getElem? (i := 21) (by decide +kernel), wd_365, wd_64, wc_366⟩
theorem wd_612 : Cond.methodLink RX8 50 yX8_joined ∈ am_WS := am_t3 69 (by decide +kernel) rfl
theorem wd_613 : Cond.static yX8_joined ∈ am_WS := am_t3 70 (by decide +kernel) rfl
set_option maxRecDepth 100000 in
theorem wc_614 : am_co mX8_joined ∈ am_WS := am_t3 71 rfl rfl
theorem cs_X8_50 : am_cs RX8 50 mX8_joined 3 := ⟨⟨by decide +kernel, by decide +kernel, by decide +kernel⟩, wd_612, wd_613, wd_72, wc_614⟩
theorem wd_616 : Cond.static yX11_bound ∈ am_WS := am_t3 73 (by decide +kernel) rfl
set_option maxRecDepth 100000 in
theorem wc_617 : am_co mX11_bound ∈ am_WS := am_t3 74 rfl rfl
theorem cs_X8_54 : am_csN RX8 54 mX11_bound 3 "FlatToLet" := ⟨⟨by decide +kernel, by decide +kernel, by decide +kernel⟩, List.mem_of_getElem? (i := 22) (by decide +kernel), wd_616, wd_64, wc_617⟩
theorem cs_X10_26 : am_ciN RX10 26 mX9_init 0 "FlatToLet" := ⟨⟨by decide +kernel, by decide +kernel, by decide +kernel⟩, rfl, List.mem_of_getElem? (i := 14) (by decide +kernel), wd_136, wd_66, wc_137⟩
theorem cs_X10_41 : am_csN RX10 41 mX11_at 2 "FlatToLet" := ⟨⟨by decide +kernel, by decide +kernel, by decide +kernel⟩, List.mem_of_getElem? (i := 19) (by decide +kernel), wd_365, wd_64, wc_366⟩
theorem cs_X10_45 : am_csN RX10 45 mX11_set 3 "FlatToLet" := ⟨⟨by decide +kernel, by decide +kernel, by decide +kernel⟩, List.mem_of_getElem? (i := 20) (by decide +kernel), wd_354, wd_64, wc_355⟩
theorem wd_563 : Cond.methodLink RX10 54 yX10_setHour ∈ am_WS := am_t3 20 (by decide +kernel) rfl
theorem cs_X10_54 : am_cvt RX10 54 mX10_setHour 1 := ⟨⟨by decide +kernel, by decide +kernel, by decide +kernel⟩, wd_563, wd_564, wd_565, wd_75, wc_566⟩
theorem wd_587 : Cond.methodLink RX10 74 yX8_mindNames ∈ am_WS := am_t3 44 (by decide +kernel) rfl
theorem wd_588 : Cond.instanceMethod yX8_mindNames ∈ am_WS := am_t3 45 (by decide +kernel) rfl
theorem wd_589 : Cond.selects RX8 yX8_mindNames yX8_mindNames ∈ am_WS := am_t3 46 (by decide +kernel) rfl
set_option maxRecDepth 100000 in
theorem wc_590 : am_co mX8_mindNames ∈ am_WS := am_t3 47 rfl rfl
theorem cs_X10_74 : am_cvt RX10 74 mX8_mindNames 2 := ⟨⟨by decide +kernel, by decide +kernel, by decide +kernel⟩, wd_587, wd_588, wd_589, wd_72, wc_590⟩
theorem wd_600 : Cond.methodLink RX10 81 yX10_lookAtNoRoom ∈ am_WS := am_t3 57 (by decide +kernel) rfl
theorem wd_602 : Cond.instanceMethod yX10_lookAtNoRoom ∈ am_WS := am_t3 59 (by decide +kernel) rfl
theorem wd_17 : Cond.selects RX10 yX10_lookAtNoRoom yX10_lookAtNoRoom ∈ am_WS := am_ts 17 (by decide +kernel) rfl
set_option maxRecDepth 100000 in
theorem wc_603 : am_co mX10_lookAtNoRoom ∈ am_WS := am_t3 60 rfl rfl
theorem cs_X10_81 : am_cvt RX10 81 mX10_lookAtNoRoom 0 := ⟨⟨by decide +kernel, by decide +kernel, by decide +kernel⟩, wd_600, wd_602, wd_17, wd_75, wc_603⟩
theorem wd_604 : Cond.methodLink RX10 84 yX10_lookAt ∈ am_WS := am_t3 61 (by decide +kernel) rfl
theorem wd_606 : Cond.instanceMethod yX10_lookAt ∈ am_WS := am_t3 63 (by decide +kernel) rfl
theorem wd_18 : Cond.selects RX10 yX10_lookAt yX10_lookAt ∈ am_WS := am_ts 18 (by decide +kernel) rfl
set_option maxRecDepth 100000 in
theorem wc_607 : am_co mX10_lookAt ∈ am_WS := am_t3 64 rfl rfl
theorem cs_X10_84 : am_cvt RX10 84 mX10_lookAt 1 := ⟨⟨by decide +kernel, by decide +kernel, by decide +kernel⟩, wd_604, wd_606, wd_18, wd_75, wc_607⟩
theorem wd_608 : Cond.methodLink RX10 87 yX8_said ∈ am_WS := am_t3 65 (by decide +kernel) rfl
theorem wd_609 : Cond.instanceMethod yX8_said ∈ am_WS := am_t3 66 (by decide +kernel) rfl
theorem wd_610 : Cond.selects RX8 yX8_said yX8_said ∈ am_WS := am_t3 67 (by decide +kernel) rfl
set_option maxRecDepth 100000 in
theorem wc_611 : am_co mX8_said ∈ am_WS := am_t3 68 rfl rfl
theorem cs_X10_87 : am_cvt RX10 87 mX8_said 3 := ⟨⟨by decide +kernel, by decide +kernel, by decide +kernel⟩, wd_608, wd_609, wd_610, wd_72, wc_611⟩
theorem wd_669 : Cond.methodLink RX10 99 yX10_keptOf ∈ am_WS := am_t3 126 (by decide +kernel) rfl
theorem cs_X10_99 : am_cvt RX10 99 mX10_keptOf 3 := ⟨⟨by decide +kernel, by decide +kernel, by decide +kernel⟩, wd_669, wd_670, wd_671, wd_75, wc_672⟩
theorem wd_714 : Cond.methodLink RX10 103 yX10_mind ∈ am_WS := am_t3 171 (by decide +kernel) rfl
theorem cs_X10_103 : am_cvt RX10 103 mX10_mind 0 := ⟨⟨by decide +kernel, by decide +kernel, by decide +kernel⟩, wd_714, wd_666, wd_667, wd_75, wc_668⟩
theorem wd_86 : Cond.methodLink RL 9 yX11_init ∈ am_WS := am_t1 23 (by decide +kernel) rfl
theorem wd_87 : Cond.instanceMethod yX11_init ∈ am_WS := am_t1 24 (by decide +kernel) rfl
set_option maxRecDepth 100000 in
theorem wc_88 : am_co mX11_init ∈ am_WS := am_t1 25 rfl rfl
theorem cs_L_9 : am_ci RL 9 mX11_init 0 := ⟨⟨by decide +kernel, by decide +kernel, by decide +kernel⟩, rfl, wd_86, wd_87, wd_64, wc_88⟩
theorem wd_80 : Cond.initialized RX12 ∈ am_WS := am_t1 17 (by decide +kernel) rfl
theorem wd_958 : Cond.methodLink RL 12 yX12_init ∈ am_WS := am_t4 175 (by decide +kernel) rfl
theorem wd_959 : Cond.instanceMethod yX12_init ∈ am_WS := am_t4 176 (by decide +kernel) rfl
set_option maxRecDepth 100000 in
theorem wc_960 : am_co mX12_init ∈ am_WS := am_t4 177 rfl rfl
theorem cs_L_12 : am_ci RL 12 mX12_init 0 := ⟨⟨by decide +kernel, by decide +kernel, by decide +kernel⟩, rfl, wd_958, wd_959, wd_80, wc_960⟩
theorem wd_512 : Cond.methodLink RL 13 yX11_count ∈ am_WS := am_t2 209 (by decide +kernel) rfl
theorem wd_513 : Cond.instanceMethod yX11_count ∈ am_WS := am_t2 210 (by decide +kernel) rfl
theorem wd_514 : Cond.selects RX11 yX11_count yX11_count ∈ am_WS := am_t2 211 (by decide +kernel) rfl
set_option maxRecDepth 100000 in
theorem wc_515 : am_co mX11_count ∈ am_WS := am_t2 212 rfl rfl
theorem cs_L_13 : am_cvt RL 13 mX11_count 1 := ⟨⟨by decide +kernel, by decide +kernel, by decide +kernel⟩, wd_512, wd_513, wd_514, wd_64, wc_515⟩
theorem wd_1127 : Cond.methodLink RL 17 yX12_count ∈ am_WS := am_t5 104 (by decide +kernel) rfl
theorem wd_1128 : Cond.instanceMethod yX12_count ∈ am_WS := am_t5 105 (by decide +kernel) rfl
theorem wd_1129 : Cond.selects RX12 yX12_count yX12_count ∈ am_WS := am_t5 106 (by decide +kernel) rfl
set_option maxRecDepth 100000 in
theorem wc_1130 : am_co mX12_count ∈ am_WS := am_t5 107 rfl rfl
theorem cs_L_17 : am_cvt RL 17 mX12_count 1 := ⟨⟨by decide +kernel, by decide +kernel, by decide +kernel⟩, wd_1127, wd_1128, wd_1129, wd_80, wc_1130⟩
theorem wd_516 : Cond.methodLink RL 18 yX11_hours ∈ am_WS := am_t2 213 (by decide +kernel) rfl
theorem wd_517 : Cond.instanceMethod yX11_hours ∈ am_WS := am_t2 214 (by decide +kernel) rfl
theorem wd_518 : Cond.selects RX11 yX11_hours yX11_hours ∈ am_WS := am_t2 215 (by decide +kernel) rfl
set_option maxRecDepth 100000 in
theorem wc_519 : am_co mX11_hours ∈ am_WS := am_t2 216 rfl rfl
theorem cs_L_18 : am_cvt RL 18 mX11_hours 1 := ⟨⟨by decide +kernel, by decide +kernel, by decide +kernel⟩, wd_516, wd_517, wd_518, wd_64, wc_519⟩
theorem wd_1131 : Cond.methodLink RL 21 yX12_hours ∈ am_WS := am_t5 108 (by decide +kernel) rfl
theorem wd_1132 : Cond.instanceMethod yX12_hours ∈ am_WS := am_t5 109 (by decide +kernel) rfl
theorem wd_1133 : Cond.selects RX12 yX12_hours yX12_hours ∈ am_WS := am_t5 110 (by decide +kernel) rfl
set_option maxRecDepth 100000 in
theorem wc_1134 : am_co mX12_hours ∈ am_WS := am_t5 111 rfl rfl
theorem cs_L_21 : am_cvt RL 21 mX12_hours 1 := ⟨⟨by decide +kernel, by decide +kernel, by decide +kernel⟩, wd_1131, wd_1132, wd_1133, wd_80, wc_1134⟩
theorem wd_521 : Cond.methodLink RL 22 yX11_room ∈ am_WS := am_t2 218 (by decide +kernel) rfl
theorem wd_522 : Cond.instanceMethod yX11_room ∈ am_WS := am_t2 219 (by decide +kernel) rfl
theorem wd_523 : Cond.selects RX11 yX11_room yX11_room ∈ am_WS := am_t2 220 (by decide +kernel) rfl
set_option maxRecDepth 100000 in
theorem wc_524 : am_co mX11_room ∈ am_WS := am_t2 221 rfl rfl
theorem cs_L_22 : am_cvt RL 22 mX11_room 3 := ⟨⟨by decide +kernel, by decide +kernel, by decide +kernel⟩, wd_521, wd_522, wd_523, wd_64, wc_524⟩
theorem wd_1135 : Cond.methodLink RL 26 yX12_room ∈ am_WS := am_t5 112 (by decide +kernel) rfl
theorem wd_1136 : Cond.instanceMethod yX12_room ∈ am_WS := am_t5 113 (by decide +kernel) rfl
theorem wd_1137 : Cond.selects RX12 yX12_room yX12_room ∈ am_WS := am_t5 114 (by decide +kernel) rfl
set_option maxRecDepth 100000 in
theorem wc_1138 : am_co mX12_room ∈ am_WS := am_t5 115 rfl rfl
theorem cs_L_26 : am_cvt RL 26 mX12_room 3 := ⟨⟨by decide +kernel, by decide +kernel, by decide +kernel⟩, wd_1135, wd_1136, wd_1137, wd_80, wc_1138⟩
theorem wd_527 : Cond.methodLink RL 27 yX11_told ∈ am_WS := am_t2 224 (by decide +kernel) rfl
theorem wd_528 : Cond.instanceMethod yX11_told ∈ am_WS := am_t2 225 (by decide +kernel) rfl
theorem wd_529 : Cond.selects RX11 yX11_told yX11_told ∈ am_WS := am_t2 226 (by decide +kernel) rfl
set_option maxRecDepth 100000 in
theorem wc_530 : am_co mX11_told ∈ am_WS := am_t2 227 rfl rfl
theorem cs_L_27 : am_cvt RL 27 mX11_told 2 := ⟨⟨by decide +kernel, by decide +kernel, by decide +kernel⟩, wd_527, wd_528, wd_529, wd_64, wc_530⟩
theorem wd_1142 : Cond.methodLink RL 31 yX12_told ∈ am_WS := am_t5 119 (by decide +kernel) rfl
theorem wd_1143 : Cond.instanceMethod yX12_told ∈ am_WS := am_t5 120 (by decide +kernel) rfl
theorem wd_1144 : Cond.selects RX12 yX12_told yX12_told ∈ am_WS := am_t5 121 (by decide +kernel) rfl
set_option maxRecDepth 100000 in
theorem wc_1145 : am_co mX12_told ∈ am_WS := am_t5 122 rfl rfl
theorem cs_L_31 : am_cvt RL 31 mX12_told 2 := ⟨⟨by decide +kernel, by decide +kernel, by decide +kernel⟩, wd_1142, wd_1143, wd_1144, wd_80, wc_1145⟩
theorem wd_531 : Cond.methodLink RL 32 yX11_feed ∈ am_WS := am_t2 228 (by decide +kernel) rfl
theorem wd_532 : Cond.instanceMethod yX11_feed ∈ am_WS := am_t2 229 (by decide +kernel) rfl
theorem wd_533 : Cond.selects RX11 yX11_feed yX11_feed ∈ am_WS := am_t2 230 (by decide +kernel) rfl
set_option maxRecDepth 100000 in
theorem wc_534 : am_co mX11_feed ∈ am_WS := am_t2 231 rfl rfl
theorem cs_L_32 : am_cvt RL 32 mX11_feed 6 := ⟨⟨by decide +kernel, by decide +kernel, by decide +kernel⟩, wd_531, wd_532, wd_533, wd_64, wc_534⟩
theorem wd_1146 : Cond.methodLink RL 36 yX12_feed ∈ am_WS := am_t5 123 (by decide +kernel) rfl
theorem wd_1147 : Cond.instanceMethod yX12_feed ∈ am_WS := am_t5 124 (by decide +kernel) rfl
theorem wd_1148 : Cond.selects RX12 yX12_feed yX12_feed ∈ am_WS := am_t5 125 (by decide +kernel) rfl
set_option maxRecDepth 100000 in
theorem wc_1149 : am_co mX12_feed ∈ am_WS := am_t5 126 rfl rfl
theorem cs_L_36 : am_cvt RL 36 mX12_feed 6 := ⟨⟨by decide +kernel, by decide +kernel, by decide +kernel⟩, wd_1146, wd_1147, wd_1148, wd_80, wc_1149⟩
theorem wd_538 : Cond.methodLink RL 37 yX11_text ∈ am_WS := am_t2 235 (by decide +kernel) rfl
theorem wd_539 : Cond.instanceMethod yX11_text ∈ am_WS := am_t2 236 (by decide +kernel) rfl
theorem wd_540 : Cond.selects RX11 yX11_text yX11_text ∈ am_WS := am_t2 237 (by decide +kernel) rfl
set_option maxRecDepth 100000 in
theorem wc_541 : am_co mX11_text ∈ am_WS := am_t2 238 rfl rfl
theorem cs_L_37 : am_cvt RL 37 mX11_text 0 := ⟨⟨by decide +kernel, by decide +kernel, by decide +kernel⟩, wd_538, wd_539, wd_540, wd_64, wc_541⟩
theorem wd_1153 : Cond.methodLink RL 41 yX12_text ∈ am_WS := am_t5 130 (by decide +kernel) rfl
theorem wd_963 : Cond.instanceMethod yX12_text ∈ am_WS := am_t4 180 (by decide +kernel) rfl
theorem wd_964 : Cond.selects RX12 yX12_text yX12_text ∈ am_WS := am_t4 181 (by decide +kernel) rfl
set_option maxRecDepth 100000 in
theorem wc_965 : am_co mX12_text ∈ am_WS := am_t4 182 rfl rfl
theorem cs_L_41 : am_cvt RL 41 mX12_text 0 := ⟨⟨by decide +kernel, by decide +kernel, by decide +kernel⟩, wd_1153, wd_963, wd_964, wd_80, wc_965⟩
theorem wd_542 : Cond.methodLink RL 42 yX11_force ∈ am_WS := am_t2 239 (by decide +kernel) rfl
theorem wd_543 : Cond.instanceMethod yX11_force ∈ am_WS := am_t3 0 (by decide +kernel) rfl
theorem wd_544 : Cond.selects RX11 yX11_force yX11_force ∈ am_WS := am_t3 1 (by decide +kernel) rfl
set_option maxRecDepth 100000 in
theorem wc_545 : am_co mX11_force ∈ am_WS := am_t3 2 rfl rfl
theorem cs_L_42 : am_cvt RL 42 mX11_force 1 := ⟨⟨by decide +kernel, by decide +kernel, by decide +kernel⟩, wd_542, wd_543, wd_544, wd_64, wc_545⟩
theorem wd_1154 : Cond.methodLink RL 45 yX12_force ∈ am_WS := am_t5 131 (by decide +kernel) rfl
theorem wd_1155 : Cond.instanceMethod yX12_force ∈ am_WS := am_t5 132 (by decide +kernel) rfl
theorem wd_1156 : Cond.selects RX12 yX12_force yX12_force ∈ am_WS := am_t5 133 (by decide +kernel) rfl
set_option maxRecDepth 100000 in
theorem wc_1157 : am_co mX12_force ∈ am_WS := am_t5 134 rfl rfl
theorem cs_L_45 : am_cvt RL 45 mX12_force 1 := ⟨⟨by decide +kernel, by decide +kernel, by decide +kernel⟩, wd_1154, wd_1155, wd_1156, wd_80, wc_1157⟩
theorem wd_546 : Cond.methodLink RL 46 yX11_asks ∈ am_WS := am_t3 3 (by decide +kernel) rfl
theorem wd_547 : Cond.instanceMethod yX11_asks ∈ am_WS := am_t3 4 (by decide +kernel) rfl
theorem wd_548 : Cond.selects RX11 yX11_asks yX11_asks ∈ am_WS := am_t3 5 (by decide +kernel) rfl
set_option maxRecDepth 100000 in
theorem wc_549 : am_co mX11_asks ∈ am_WS := am_t3 6 rfl rfl
theorem cs_L_46 : am_cvt RL 46 mX11_asks 4 := ⟨⟨by decide +kernel, by decide +kernel, by decide +kernel⟩, wd_546, wd_547, wd_548, wd_64, wc_549⟩
theorem wd_1158 : Cond.methodLink RL 50 yX12_asks ∈ am_WS := am_t5 135 (by decide +kernel) rfl
theorem wd_1159 : Cond.instanceMethod yX12_asks ∈ am_WS := am_t5 136 (by decide +kernel) rfl
theorem wd_1160 : Cond.selects RX12 yX12_asks yX12_asks ∈ am_WS := am_t5 137 (by decide +kernel) rfl
set_option maxRecDepth 100000 in
theorem wc_1161 : am_co mX12_asks ∈ am_WS := am_t5 138 rfl rfl
theorem cs_L_50 : am_cvt RL 50 mX12_asks 4 := ⟨⟨by decide +kernel, by decide +kernel, by decide +kernel⟩, wd_1158, wd_1159, wd_1160, wd_80, wc_1161⟩
theorem wd_618 : Cond.methodLink RL 51 yX11_viewer ∈ am_WS := am_t3 75 (by decide +kernel) rfl
theorem cs_L_51 : am_cvt RL 51 mX11_viewer 2 := ⟨⟨by decide +kernel, by decide +kernel, by decide +kernel⟩, wd_618, wd_619, wd_620, wd_64, wc_621⟩
theorem wd_1180 : Cond.methodLink RL 54 yX12_viewer ∈ am_WS := am_t5 157 (by decide +kernel) rfl
theorem wd_1181 : Cond.instanceMethod yX12_viewer ∈ am_WS := am_t5 158 (by decide +kernel) rfl
theorem wd_1182 : Cond.selects RX12 yX12_viewer yX12_viewer ∈ am_WS := am_t5 159 (by decide +kernel) rfl
set_option maxRecDepth 100000 in
theorem wc_1183 : am_co mX12_viewer ∈ am_WS := am_t5 160 rfl rfl
theorem cs_L_54 : am_cvt RL 54 mX12_viewer 2 := ⟨⟨by decide +kernel, by decide +kernel, by decide +kernel⟩, wd_1180, wd_1181, wd_1182, wd_80, wc_1183⟩
theorem wd_623 : Cond.methodLink RL 55 yX11_put ∈ am_WS := am_t3 80 (by decide +kernel) rfl
theorem wd_624 : Cond.instanceMethod yX11_put ∈ am_WS := am_t3 81 (by decide +kernel) rfl
theorem wd_625 : Cond.selects RX11 yX11_put yX11_put ∈ am_WS := am_t3 82 (by decide +kernel) rfl
set_option maxRecDepth 100000 in
theorem wc_626 : am_co mX11_put ∈ am_WS := am_t3 83 rfl rfl
theorem cs_L_55 : am_cvt RL 55 mX11_put 3 := ⟨⟨by decide +kernel, by decide +kernel, by decide +kernel⟩, wd_623, wd_624, wd_625, wd_64, wc_626⟩
theorem wd_1185 : Cond.methodLink RL 58 yX12_put ∈ am_WS := am_t5 162 (by decide +kernel) rfl
theorem wd_1186 : Cond.instanceMethod yX12_put ∈ am_WS := am_t5 163 (by decide +kernel) rfl
theorem wd_1187 : Cond.selects RX12 yX12_put yX12_put ∈ am_WS := am_t5 164 (by decide +kernel) rfl
set_option maxRecDepth 100000 in
theorem wc_1188 : am_co mX12_put ∈ am_WS := am_t5 165 rfl rfl
theorem cs_L_58 : am_cvt RL 58 mX12_put 3 := ⟨⟨by decide +kernel, by decide +kernel, by decide +kernel⟩, wd_1185, wd_1186, wd_1187, wd_80, wc_1188⟩
theorem wd_627 : Cond.methodLink RL 59 yX11_one ∈ am_WS := am_t3 84 (by decide +kernel) rfl
theorem wd_628 : Cond.instanceMethod yX11_one ∈ am_WS := am_t3 85 (by decide +kernel) rfl
theorem wd_629 : Cond.selects RX11 yX11_one yX11_one ∈ am_WS := am_t3 86 (by decide +kernel) rfl
set_option maxRecDepth 100000 in
theorem wc_630 : am_co mX11_one ∈ am_WS := am_t3 87 rfl rfl
theorem cs_L_59 : am_cvt RL 59 mX11_one 2 := ⟨⟨by decide +kernel, by decide +kernel, by decide +kernel⟩, wd_627, wd_628, wd_629, wd_64, wc_630⟩
theorem wd_1189 : Cond.methodLink RL 62 yX12_one ∈ am_WS := am_t5 166 (by decide +kernel) rfl
theorem wd_1190 : Cond.instanceMethod yX12_one ∈ am_WS := am_t5 167 (by decide +kernel) rfl
theorem wd_1191 : Cond.selects RX12 yX12_one yX12_one ∈ am_WS := am_t5 168 (by decide +kernel) rfl
set_option maxRecDepth 100000 in
theorem wc_1192 : am_co mX12_one ∈ am_WS := am_t5 169 rfl rfl
theorem cs_L_62 : am_cvt RL 62 mX12_one 2 := ⟨⟨by decide +kernel, by decide +kernel, by decide +kernel⟩, wd_1189, wd_1190, wd_1191, wd_80, wc_1192⟩
theorem wd_631 : Cond.methodLink RL 63 yX11_tour ∈ am_WS := am_t3 88 (by decide +kernel) rfl
theorem wd_632 : Cond.instanceMethod yX11_tour ∈ am_WS := am_t3 89 (by decide +kernel) rfl
theorem wd_633 : Cond.selects RX11 yX11_tour yX11_tour ∈ am_WS := am_t3 90 (by decide +kernel) rfl
set_option maxRecDepth 100000 in
theorem wc_634 : am_co mX11_tour ∈ am_WS := am_t3 91 rfl rfl
theorem cs_L_63 : am_cvt RL 63 mX11_tour 4 := ⟨⟨by decide +kernel, by decide +kernel, by decide +kernel⟩, wd_631, wd_632, wd_633, wd_64, wc_634⟩
theorem wd_1193 : Cond.methodLink RL 66 yX12_tour ∈ am_WS := am_t5 170 (by decide +kernel) rfl
theorem wd_1194 : Cond.instanceMethod yX12_tour ∈ am_WS := am_t5 171 (by decide +kernel) rfl
theorem wd_1195 : Cond.selects RX12 yX12_tour yX12_tour ∈ am_WS := am_t5 172 (by decide +kernel) rfl
set_option maxRecDepth 100000 in
theorem wc_1196 : am_co mX12_tour ∈ am_WS := am_t5 173 rfl rfl
theorem cs_L_66 : am_cvt RL 66 mX12_tour 4 := ⟨⟨by decide +kernel, by decide +kernel, by decide +kernel⟩, wd_1193, wd_1194, wd_1195, wd_80, wc_1196⟩
theorem wd_742 : Cond.methodLink RL 67 yX11_shown ∈ am_WS := am_t3 199 (by decide +kernel) rfl
theorem wd_743 : Cond.instanceMethod yX11_shown ∈ am_WS := am_t3 200 (by decide +kernel) rfl
theorem wd_744 : Cond.selects RX11 yX11_shown yX11_shown ∈ am_WS := am_t3 201 (by decide +kernel) rfl
set_option maxRecDepth 100000 in
theorem wc_745 : am_co mX11_shown ∈ am_WS := am_t3 202 rfl rfl
theorem cs_L_67 : am_cvt RL 67 mX11_shown 3 := ⟨⟨by decide +kernel, by decide +kernel, by decide +kernel⟩, wd_742, wd_743, wd_744, wd_64, wc_745⟩
theorem wd_1223 : Cond.methodLink RL 70 yX12_shown ∈ am_WS := am_t5 200 (by decide +kernel) rfl
theorem wd_1224 : Cond.instanceMethod yX12_shown ∈ am_WS := am_t5 201 (by decide +kernel) rfl
theorem wd_1225 : Cond.selects RX12 yX12_shown yX12_shown ∈ am_WS := am_t5 202 (by decide +kernel) rfl
set_option maxRecDepth 100000 in
theorem wc_1226 : am_co mX12_shown ∈ am_WS := am_t5 203 rfl rfl
theorem cs_L_70 : am_cvt RL 70 mX12_shown 3 := ⟨⟨by decide +kernel, by decide +kernel, by decide +kernel⟩, wd_1223, wd_1224, wd_1225, wd_80, wc_1226⟩
theorem wd_768 : Cond.methodLink RL 71 yX11_best ∈ am_WS := am_t3 225 (by decide +kernel) rfl
theorem wd_769 : Cond.instanceMethod yX11_best ∈ am_WS := am_t3 226 (by decide +kernel) rfl
theorem wd_770 : Cond.selects RX11 yX11_best yX11_best ∈ am_WS := am_t3 227 (by decide +kernel) rfl
set_option maxRecDepth 100000 in
theorem wc_771 : am_co mX11_best ∈ am_WS := am_t3 228 rfl rfl
theorem cs_L_71 : am_cvt RL 71 mX11_best 3 := ⟨⟨by decide +kernel, by decide +kernel, by decide +kernel⟩, wd_768, wd_769, wd_770, wd_64, wc_771⟩
theorem wd_1239 : Cond.methodLink RL 74 yX12_best ∈ am_WS := am_t5 216 (by decide +kernel) rfl
theorem wd_1240 : Cond.instanceMethod yX12_best ∈ am_WS := am_t5 217 (by decide +kernel) rfl
theorem wd_1241 : Cond.selects RX12 yX12_best yX12_best ∈ am_WS := am_t5 218 (by decide +kernel) rfl
set_option maxRecDepth 100000 in
theorem wc_1242 : am_co mX12_best ∈ am_WS := am_t5 219 rfl rfl
theorem cs_L_74 : am_cvt RL 74 mX12_best 3 := ⟨⟨by decide +kernel, by decide +kernel, by decide +kernel⟩, wd_1239, wd_1240, wd_1241, wd_80, wc_1242⟩
theorem wd_802 : Cond.methodLink RL 75 yX11_when ∈ am_WS := am_t4 19 (by decide +kernel) rfl
theorem wd_803 : Cond.instanceMethod yX11_when ∈ am_WS := am_t4 20 (by decide +kernel) rfl
theorem wd_804 : Cond.selects RX11 yX11_when yX11_when ∈ am_WS := am_t4 21 (by decide +kernel) rfl
set_option maxRecDepth 100000 in
theorem wc_805 : am_co mX11_when ∈ am_WS := am_t4 22 rfl rfl
theorem cs_L_75 : am_cvt RL 75 mX11_when 3 := ⟨⟨by decide +kernel, by decide +kernel, by decide +kernel⟩, wd_802, wd_803, wd_804, wd_64, wc_805⟩
theorem wd_1253 : Cond.methodLink RL 78 yX12_when ∈ am_WS := am_t5 230 (by decide +kernel) rfl
theorem wd_1254 : Cond.instanceMethod yX12_when ∈ am_WS := am_t5 231 (by decide +kernel) rfl
theorem wd_1255 : Cond.selects RX12 yX12_when yX12_when ∈ am_WS := am_t5 232 (by decide +kernel) rfl
set_option maxRecDepth 100000 in
theorem wc_1256 : am_co mX12_when ∈ am_WS := am_t5 233 rfl rfl
theorem cs_L_78 : am_cvt RL 78 mX12_when 3 := ⟨⟨by decide +kernel, by decide +kernel, by decide +kernel⟩, wd_1253, wd_1254, wd_1255, wd_80, wc_1256⟩
theorem wd_807 : Cond.methodLink RL 79 yX11_together ∈ am_WS := am_t4 24 (by decide +kernel) rfl
theorem wd_808 : Cond.instanceMethod yX11_together ∈ am_WS := am_t4 25 (by decide +kernel) rfl
theorem wd_809 : Cond.selects RX11 yX11_together yX11_together ∈ am_WS := am_t4 26 (by decide +kernel) rfl
set_option maxRecDepth 100000 in
theorem wc_810 : am_co mX11_together ∈ am_WS := am_t4 27 rfl rfl
theorem cs_L_79 : am_cvt RL 79 mX11_together 2 := ⟨⟨by decide +kernel, by decide +kernel, by decide +kernel⟩, wd_807, wd_808, wd_809, wd_64, wc_810⟩
theorem wd_1257 : Cond.methodLink RL 82 yX12_together ∈ am_WS := am_t5 234 (by decide +kernel) rfl
theorem wd_1258 : Cond.instanceMethod yX12_together ∈ am_WS := am_t5 235 (by decide +kernel) rfl
theorem wd_1259 : Cond.selects RX12 yX12_together yX12_together ∈ am_WS := am_t5 236 (by decide +kernel) rfl
set_option maxRecDepth 100000 in
theorem wc_1260 : am_co mX12_together ∈ am_WS := am_t5 237 rfl rfl
theorem cs_L_82 : am_cvt RL 82 mX12_together 2 := ⟨⟨by decide +kernel, by decide +kernel, by decide +kernel⟩, wd_1257, wd_1258, wd_1259, wd_80, wc_1260⟩
theorem wd_811 : Cond.methodLink RL 83 yX11_without ∈ am_WS := am_t4 28 (by decide +kernel) rfl
theorem wd_812 : Cond.instanceMethod yX11_without ∈ am_WS := am_t4 29 (by decide +kernel) rfl
theorem wd_813 : Cond.selects RX11 yX11_without yX11_without ∈ am_WS := am_t4 30 (by decide +kernel) rfl
set_option maxRecDepth 100000 in
theorem wc_814 : am_co mX11_without ∈ am_WS := am_t4 31 rfl rfl
theorem cs_L_83 : am_cvt RL 83 mX11_without 3 := ⟨⟨by decide +kernel, by decide +kernel, by decide +kernel⟩, wd_811, wd_812, wd_813, wd_64, wc_814⟩
theorem wd_1261 : Cond.methodLink RL 86 yX12_without ∈ am_WS := am_t5 238 (by decide +kernel) rfl
theorem wd_1262 : Cond.instanceMethod yX12_without ∈ am_WS := am_t5 239 (by decide +kernel) rfl
theorem wd_1263 : Cond.selects RX12 yX12_without yX12_without ∈ am_WS := am_t6 0 (by decide +kernel) rfl
set_option maxRecDepth 100000 in
theorem wc_1264 : am_co mX12_without ∈ am_WS := am_t6 1 rfl rfl
theorem cs_L_86 : am_cvt RL 86 mX12_without 3 := ⟨⟨by decide +kernel, by decide +kernel, by decide +kernel⟩, wd_1261, wd_1262, wd_1263, wd_80, wc_1264⟩
theorem wd_815 : Cond.methodLink RL 87 yX11_paint ∈ am_WS := am_t4 32 (by decide +kernel) rfl
theorem wd_816 : Cond.instanceMethod yX11_paint ∈ am_WS := am_t4 33 (by decide +kernel) rfl
theorem wd_817 : Cond.selects RX11 yX11_paint yX11_paint ∈ am_WS := am_t4 34 (by decide +kernel) rfl
set_option maxRecDepth 100000 in
theorem wc_818 : am_co mX11_paint ∈ am_WS := am_t4 35 rfl rfl
theorem cs_L_87 : am_cvt RL 87 mX11_paint 3 := ⟨⟨by decide +kernel, by decide +kernel, by decide +kernel⟩, wd_815, wd_816, wd_817, wd_64, wc_818⟩
theorem wd_1265 : Cond.methodLink RL 90 yX12_paint ∈ am_WS := am_t6 2 (by decide +kernel) rfl
theorem wd_1266 : Cond.instanceMethod yX12_paint ∈ am_WS := am_t6 3 (by decide +kernel) rfl
theorem wd_1267 : Cond.selects RX12 yX12_paint yX12_paint ∈ am_WS := am_t6 4 (by decide +kernel) rfl
set_option maxRecDepth 100000 in
theorem wc_1268 : am_co mX12_paint ∈ am_WS := am_t6 5 rfl rfl
theorem cs_L_90 : am_cvt RL 90 mX12_paint 3 := ⟨⟨by decide +kernel, by decide +kernel, by decide +kernel⟩, wd_1265, wd_1266, wd_1267, wd_80, wc_1268⟩
theorem wd_823 : Cond.methodLink RL 91 yX11_tenant ∈ am_WS := am_t4 40 (by decide +kernel) rfl
theorem wd_824 : Cond.instanceMethod yX11_tenant ∈ am_WS := am_t4 41 (by decide +kernel) rfl
theorem wd_825 : Cond.selects RX11 yX11_tenant yX11_tenant ∈ am_WS := am_t4 42 (by decide +kernel) rfl
set_option maxRecDepth 100000 in
theorem wc_826 : am_co mX11_tenant ∈ am_WS := am_t4 43 rfl rfl
theorem cs_L_91 : am_cvt RL 91 mX11_tenant 3 := ⟨⟨by decide +kernel, by decide +kernel, by decide +kernel⟩, wd_823, wd_824, wd_825, wd_64, wc_826⟩
theorem wd_1269 : Cond.methodLink RL 94 yX12_tenant ∈ am_WS := am_t6 6 (by decide +kernel) rfl
theorem wd_1270 : Cond.instanceMethod yX12_tenant ∈ am_WS := am_t6 7 (by decide +kernel) rfl
theorem wd_1271 : Cond.selects RX12 yX12_tenant yX12_tenant ∈ am_WS := am_t6 8 (by decide +kernel) rfl
set_option maxRecDepth 100000 in
theorem wc_1272 : am_co mX12_tenant ∈ am_WS := am_t6 9 rfl rfl
theorem cs_L_94 : am_cvt RL 94 mX12_tenant 3 := ⟨⟨by decide +kernel, by decide +kernel, by decide +kernel⟩, wd_1269, wd_1270, wd_1271, wd_80, wc_1272⟩
theorem wd_827 : Cond.methodLink RL 95 yX11_waits ∈ am_WS := am_t4 44 (by decide +kernel) rfl
theorem wd_828 : Cond.instanceMethod yX11_waits ∈ am_WS := am_t4 45 (by decide +kernel) rfl
theorem wd_829 : Cond.selects RX11 yX11_waits yX11_waits ∈ am_WS := am_t4 46 (by decide +kernel) rfl
set_option maxRecDepth 100000 in
theorem wc_830 : am_co mX11_waits ∈ am_WS := am_t4 47 rfl rfl
theorem cs_L_95 : am_cvt RL 95 mX11_waits 4 := ⟨⟨by decide +kernel, by decide +kernel, by decide +kernel⟩, wd_827, wd_828, wd_829, wd_64, wc_830⟩
theorem wd_1273 : Cond.methodLink RL 99 yX12_waits ∈ am_WS := am_t6 10 (by decide +kernel) rfl
theorem wd_1274 : Cond.instanceMethod yX12_waits ∈ am_WS := am_t6 11 (by decide +kernel) rfl
theorem wd_1275 : Cond.selects RX12 yX12_waits yX12_waits ∈ am_WS := am_t6 12 (by decide +kernel) rfl
set_option maxRecDepth 100000 in
theorem wc_1276 : am_co mX12_waits ∈ am_WS := am_t6 13 rfl rfl
theorem cs_L_99 : am_cvt RL 99 mX12_waits 4 := ⟨⟨by decide +kernel, by decide +kernel, by decide +kernel⟩, wd_1273, wd_1274, wd_1275, wd_80, wc_1276⟩
theorem wd_840 : Cond.methodLink RL 100 yX11_judge ∈ am_WS := am_t4 57 (by decide +kernel) rfl
theorem wd_841 : Cond.instanceMethod yX11_judge ∈ am_WS := am_t4 58 (by decide +kernel) rfl
theorem wd_842 : Cond.selects RX11 yX11_judge yX11_judge ∈ am_WS := am_t4 59 (by decide +kernel) rfl
