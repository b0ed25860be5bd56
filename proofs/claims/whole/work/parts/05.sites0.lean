theorem am_ts {w : Cond} (k : Nat) (h : (k2_sels lw_privs)[k]? = some w) (hg : goodWord w = true) : w ∈ am_WS := List.mem_filter.mpr ⟨List.mem_append_left _ (List.mem_of_getElem? h), hg⟩
theorem am_t1 {w : Cond} (k : Nat) (h : tables_1_1[k]? = some w) (hg : goodWord w = true) : w ∈ am_WS := List.mem_filter.mpr ⟨List.mem_append_right _ (List.mem_append_left _ (List.mem_of_getElem? h)), hg⟩
theorem am_t2 {w : Cond} (k : Nat) (h : tables_1_2[k]? = some w) (hg : goodWord w = true) : w ∈ am_WS := List.mem_filter.mpr ⟨List.mem_append_right _ (List.mem_append_right _ (List.mem_append_left _ (List.mem_of_getElem? h))), hg⟩
theorem am_t3 {w : Cond} (k : Nat) (h : tables_1_3[k]? = some w) (hg : goodWord w = true) : w ∈ am_WS := List.mem_filter.mpr ⟨List.mem_append_right _ (List.mem_append_right _ (List.mem_append_right _ (List.mem_append_left _ (List.mem_of_getElem? h)))), hg⟩
theorem am_t4 {w : Cond} (k : Nat) (h : tables_1_4[k]? = some w) (hg : goodWord w = true) : w ∈ am_WS := List.mem_filter.mpr ⟨List.mem_append_right _ (List.mem_append_right _ (List.mem_append_right _ (List.mem_append_right _ (List.mem_append_left _ (List.mem_of_getElem? h))))), hg⟩
theorem am_t5 {w : Cond} (k : Nat) (h : tables_1_5[k]? = some w) (hg : goodWord w = true) : w ∈ am_WS := List.mem_filter.mpr ⟨List.mem_append_right _ (List.mem_append_right _ (List.mem_append_right _ (List.mem_append_right _ (List.mem_append_right _ (List.mem_append_left _ (List.mem_of_getElem? h)))))), hg⟩
theorem am_t6 {w : Cond} (k : Nat) (h : tables_1_6[k]? = some w) (hg : goodWord w = true) : w ∈ am_WS := List.mem_filter.mpr ⟨List.mem_append_right _ (List.mem_append_right _ (List.mem_append_right _ (List.mem_append_right _ (List.mem_append_right _ (List.mem_append_right _ (List.mem_of_getElem? h)))))), hg⟩
theorem am_inL {ws : List Cond} (ps : List Nat) (h : ws.map some = ps.map (fun i => lw_tbl[i]?)) (hg : ws.all goodWord = true) : ∀ w ∈ ws, w ∈ am_WS := by
  intro w hw
  have h1 : some w ∈ ps.map (fun i => lw_tbl[i]?) := by rw [← h]; exact List.mem_map.mpr ⟨w, hw, rfl⟩
  obtain ⟨i, -, hi⟩ := List.mem_map.mp h1
  exact am_in i hi (List.all_eq_true.mp hg w hw)
def mX0_init : am_M := (yX0_init, cX0_init, 1, none)
def mX0_likes : am_M := (yX0_likes, cX0_likes, 4, (some .int))
def mX0_offers : am_M := (yX0_offers, cX0_offers, 4, (some .int))
def mX1_init : am_M := (yX1_init, cX1_init, 1, none)
def mX1_likes : am_M := (yX1_likes, cX1_likes, 5, (some .int))
def mX1_keeps : am_M := (yX1_keeps, cX1_keeps, 6, (some .int))
def mX2_init : am_M := (yX2_init, cX2_init, 1, none)
def mX2_likes : am_M := (yX2_likes, cX2_likes, 5, (some .int))
def mX2_offers : am_M := (yX2_offers, cX2_offers, 4, (some .int))
def mX3_init : am_M := (yX3_init, cX3_init, 1, none)
def mX3_keeps : am_M := (yX3_keeps, cX3_keeps, 6, (some .int))
def mX3_offers : am_M := (yX3_offers, cX3_offers, 4, (some .int))
def mX4_init : am_M := (yX4_init, cX4_init, 2, none)
def mX4_take : am_M := (yX4_take, cX4_take, 2, none)
def mX4_fault : am_M := (yX4_fault, cX4_fault, 2, (some .int))
def mX4_findTokens : am_M := (yX4_findTokens, cX4_findTokens, 4, none)
def mX4_note : am_M := (yX4_note, cX4_note, 3, none)
def mX4_isLetter : am_M := (yX4_isLetter, cX4_isLetter, 1, (some .boolean))
def mX4_isDigit : am_M := (yX4_isDigit, cX4_isDigit, 1, (some .boolean))
def mX4_isSign : am_M := (yX4_isSign, cX4_isSign, 1, (some .boolean))
def mX4_number : am_M := (yX4_number, cX4_number, 5, (some .int))
def mX4_word : am_M := (yX4_word, cX4_word, 3, (some .int))
def mX4_spells : am_M := (yX4_spells, cX4_spells, 5, (some .boolean))
def mX4_advance : am_M := (yX4_advance, cX4_advance, 1, none)
def mX4_passed : am_M := (yX4_passed, cX4_passed, 2, (some .boolean))
def mX4_readPart : am_M := (yX4_readPart, cX4_readPart, 3, (some .boolean))
def mX4_readOr : am_M := (yX4_readOr, cX4_readOr, 4, (some .boolean))
def mX4_readAnd : am_M := (yX4_readAnd, cX4_readAnd, 4, (some .boolean))
def mX4_readNot : am_M := (yX4_readNot, cX4_readNot, 3, (some .boolean))
def mX4_readSum : am_M := (yX4_readSum, cX4_readSum, 5, (some .boolean))
def mX4_readTerm : am_M := (yX4_readTerm, cX4_readTerm, 4, (some .boolean))
def mX4_readOne : am_M := (yX4_readOne, cX4_readOne, 3, (some .boolean))
def mX5_init : am_M := (yX5_init, cX5_init, 1, none)
def mX5_sort : am_M := (yX5_sort, cX5_sort, 2, (some .int))
def mX5_isMissing : am_M := (yX5_isMissing, cX5_isMissing, 2, (some .boolean))
def mX5_size : am_M := (yX5_size, cX5_size, 2, (some .int))
def mX5_lay : am_M := (yX5_lay, cX5_lay, 5, none)
def mX5_read : am_M := (yX5_read, cX5_read, 3, (some .int))
def mX5_write : am_M := (yX5_write, cX5_write, 5, none)
def mX5_has : am_M := (yX5_has, cX5_has, 4, (some .boolean))
def mX5_move : am_M := (yX5_move, cX5_move, 8, none)
def mX5_tellsTour : am_M := (yX5_tellsTour, cX5_tellsTour, 5, (some .boolean))
def mX6_init : am_M := (yX6_init, cX6_init, 1, none)
def mX6_become : am_M := (yX6_become, cX6_become, 3, none)
def mX7_init : am_M := (yX7_init, cX7_init, 1, none)
def mX7_keeps : am_M := (yX7_keeps, cX7_keeps, 6, (some .int))
def mX7_offers : am_M := (yX7_offers, cX7_offers, 5, (some .int))
def mX8_init : am_M := (yX8_init, cX8_init, 1, none)
def mX8_start : am_M := (yX8_start, cX8_start, 1, none)
def mX8_add : am_M := (yX8_add, cX8_add, 2, (some .boolean))
def mX8_endPart : am_M := (yX8_endPart, cX8_endPart, 2, none)
def mX8_mindNames : am_M := (yX8_mindNames, cX8_mindNames, 4, (some .boolean))
def mX8_isName : am_M := (yX8_isName, cX8_isName, 1, (some .boolean))
def mX8_said : am_M := (yX8_said, cX8_said, 9, (some .int))
def mX8_joined : am_M := (yX8_joined, cX8_joined, 3, (some .int))
def mX9_init : am_M := (yX9_init, cX9_init, 1, none)
def mX9_likes : am_M := (yX9_likes, cX9_likes, 4, (some .int))
def mX9_keeps : am_M := (yX9_keeps, cX9_keeps, 6, (some .int))
def mX9_offers : am_M := (yX9_offers, cX9_offers, 4, (some .int))
def mX10_init : am_M := (yX10_init, cX10_init, 2, none)
def mX10_suppose : am_M := (yX10_suppose, cX10_suppose, 3, none)
def mX10_walk : am_M := (yX10_walk, cX10_walk, 5, none)
def mX10_setKind : am_M := (yX10_setKind, cX10_setKind, 2, none)
def mX10_setMore : am_M := (yX10_setMore, cX10_setMore, 2, none)
def mX10_setCrowd : am_M := (yX10_setCrowd, cX10_setCrowd, 2, none)
def mX10_setLaw : am_M := (yX10_setLaw, cX10_setLaw, 2, none)
def mX10_setLight : am_M := (yX10_setLight, cX10_setLight, 3, none)
def mX10_setDamp : am_M := (yX10_setDamp, cX10_setDamp, 3, none)
def mX10_setRich : am_M := (yX10_setRich, cX10_setRich, 2, none)
def mX10_setHour : am_M := (yX10_setHour, cX10_setHour, 2, none)
def mX10_lookAt : am_M := (yX10_lookAt, cX10_lookAt, 2, none)
def mX10_lookAtNoRoom : am_M := (yX10_lookAtNoRoom, cX10_lookAtNoRoom, 1, none)
def mX10_said : am_M := (yX10_said, cX10_said, 3, (some .int))
def mX10_liked : am_M := (yX10_liked, cX10_liked, 2, (some .int))
def mX10_keptOf : am_M := (yX10_keptOf, cX10_keptOf, 5, (some .int))
def mX10_mind : am_M := (yX10_mind, cX10_mind, 4, (some .int))
def mX10_offer : am_M := (yX10_offer, cX10_offer, 2, (some .int))
def mX11_init : am_M := (yX11_init, cX11_init, 2, none)
def mX11_count : am_M := (yX11_count, cX11_count, 2, (some .int))
def mX11_hours : am_M := (yX11_hours, cX11_hours, 3, (some .int))
def mX11_room : am_M := (yX11_room, cX11_room, 6, (some .int))
def mX11_told : am_M := (yX11_told, cX11_told, 3, (some .int))
def mX11_feed : am_M := (yX11_feed, cX11_feed, 7, (some .int))
def mX11_text : am_M := (yX11_text, cX11_text, 3, (some .int))
def mX11_force : am_M := (yX11_force, cX11_force, 3, (some .int))
def mX11_asks : am_M := (yX11_asks, cX11_asks, 5, (some .int))
def mX11_viewer : am_M := (yX11_viewer, cX11_viewer, 4, (some .int))
def mX11_put : am_M := (yX11_put, cX11_put, 6, (some .int))
def mX11_one : am_M := (yX11_one, cX11_one, 3, (some .int))
def mX11_tour : am_M := (yX11_tour, cX11_tour, 6, (some .int))
def mX11_shown : am_M := (yX11_shown, cX11_shown, 6, (some .int))
def mX11_best : am_M := (yX11_best, cX11_best, 9, (some .int))
def mX11_when : am_M := (yX11_when, cX11_when, 9, (some .int))
def mX11_together : am_M := (yX11_together, cX11_together, 10, (some .int))
def mX11_without : am_M := (yX11_without, cX11_without, 8, (some .int))
def mX11_paint : am_M := (yX11_paint, cX11_paint, 6, (some .int))
def mX11_tenant : am_M := (yX11_tenant, cX11_tenant, 11, (some .int))
def mX11_waits : am_M := (yX11_waits, cX11_waits, 11, (some .long))
def mX11_judge : am_M := (yX11_judge, cX11_judge, 5, (some .int))
def mX11_kinds : am_M := (yX11_kinds, cX11_kinds, 8, (some .int))
def mX11_riches : am_M := (yX11_riches, cX11_riches, 9, (some .int))
def mX11_rooms : am_M := (yX11_rooms, cX11_rooms, 12, (some .int))
def mX11_laws : am_M := (yX11_laws, cX11_laws, 7, (some .int))
def mX11_film : am_M := (yX11_film, cX11_film, 6, (some .int))
def mX11_drawn : am_M := (yX11_drawn, cX11_drawn, 4, (some .int))
def mX11_odds : am_M := (yX11_odds, cX11_odds, 7, (some .long))
def mX11_image : am_M := (yX11_image, cX11_image, 1, (some .int))
def mX11_back : am_M := (yX11_back, cX11_back, 1, (some .int))
def mX11_sheet : am_M := (yX11_sheet, cX11_sheet, 4, (some .int))
def mX11_cell : am_M := (yX11_cell, cX11_cell, 4, (some .int))
def mX11_copy : am_M := (yX11_copy, cX11_copy, 6, (some .int))
def mX11_viewersBy : am_M := (yX11_viewersBy, cX11_viewersBy, 8, (some .int))
def mX11_taken : am_M := (yX11_taken, cX11_taken, 5, (some .int))
def mX11_within : am_M := (yX11_within, cX11_within, 2, (some .boolean))
def mX11_isByte : am_M := (yX11_isByte, cX11_isByte, 1, (some .boolean))
def mX11_isCrowd : am_M := (yX11_isCrowd, cX11_isCrowd, 1, (some .boolean))
def mX11_isViewer : am_M := (yX11_isViewer, cX11_isViewer, 2, (some .boolean))
def mX11_areViewers : am_M := (yX11_areViewers, cX11_areViewers, 2, (some .boolean))
def mX11_bound : am_M := (yX11_bound, cX11_bound, 3, (some .int))
def mX11_at : am_M := (yX11_at, cX11_at, 2, (some .int))
def mX11_set : am_M := (yX11_set, cX11_set, 3, none)
def mX11_kindAt : am_M := (yX11_kindAt, cX11_kindAt, 3, (some (.object "FlatToLet$Viewer")))
def mX11_isOfKind : am_M := (yX11_isOfKind, cX11_isOfKind, 2, (some .boolean))
def mX11_startTour : am_M := (yX11_startTour, cX11_startTour, 3, (some .int))
def mX11_startTold : am_M := (yX11_startTold, cX11_startTold, 5, (some .int))
def mX11_letCome : am_M := (yX11_letCome, cX11_letCome, 3, none)
def mX11_firstOtherwise : am_M := (yX11_firstOtherwise, cX11_firstOtherwise, 4, (some .int))
def mX11_fillOffers : am_M := (yX11_fillOffers, cX11_fillOffers, 4, none)
def mX11_firstOfMost : am_M := (yX11_firstOfMost, cX11_firstOfMost, 4, (some .int))
def mX11_mostOffered : am_M := (yX11_mostOffered, cX11_mostOffered, 3, (some .int))
def mX11_firstOrder : am_M := (yX11_firstOrder, cX11_firstOrder, 3, none)
def mX11_nextOrder : am_M := (yX11_nextOrder, cX11_nextOrder, 6, (some .boolean))
def mX11_swap : am_M := (yX11_swap, cX11_swap, 4, none)
def mX11_digitsOfOrder : am_M := (yX11_digitsOfOrder, cX11_digitsOfOrder, 3, (some .int))
def mX11_drawOrder : am_M := (yX11_drawOrder, cX11_drawOrder, 5, none)
def mX11_fillGains : am_M := (yX11_fillGains, cX11_fillGains, 5, none)
def mX11_addGain : am_M := (yX11_addGain, cX11_addGain, 5, none)
def mX11_gainOfOrder : am_M := (yX11_gainOfOrder, cX11_gainOfOrder, 4, (some .int))
def mX11_takenOfOrder : am_M := (yX11_takenOfOrder, cX11_takenOfOrder, 6, (some .int))
def mX11_inLowestTerms : am_M := (yX11_inLowestTerms, cX11_inLowestTerms, 7, (some .long))
def mX12_init : am_M := (yX12_init, cX12_init, 2, none)
def mX12_in : am_M := (yX12_in, cX12_in, 3, (some .boolean))
def mX12_within : am_M := (yX12_within, cX12_within, 3, (some .int))
def mX12_isViewer : am_M := (yX12_isViewer, cX12_isViewer, 2, (some .boolean))
def mX12_isRoom : am_M := (yX12_isRoom, cX12_isRoom, 1, (some .boolean))
def mX12_count : am_M := (yX12_count, cX12_count, 2, (some .int))
def mX12_hours : am_M := (yX12_hours, cX12_hours, 3, (some .int))
def mX12_room : am_M := (yX12_room, cX12_room, 5, (some .int))
def mX12_told : am_M := (yX12_told, cX12_told, 3, (some .int))
def mX12_isByte : am_M := (yX12_isByte, cX12_isByte, 1, (some .boolean))
def mX12_feed : am_M := (yX12_feed, cX12_feed, 8, (some .int))
def mX12_wordFrom : am_M := (yX12_wordFrom, cX12_wordFrom, 6, (some .int))
def mX12_next : am_M := (yX12_next, cX12_next, 3, none)
def mX12_rank : am_M := (yX12_rank, cX12_rank, 1, (some .int))
def mX12_puts : am_M := (yX12_puts, cX12_puts, 2, none)
def mX12_unwinds : am_M := (yX12_unwinds, cX12_unwinds, 3, none)
def mX12_holds : am_M := (yX12_holds, cX12_holds, 2, none)
def mX12_opensOne : am_M := (yX12_opensOne, cX12_opensOne, 2, (some .boolean))
def mX12_between : am_M := (yX12_between, cX12_between, 2, (some .boolean))
def mX12_signOf : am_M := (yX12_signOf, cX12_signOf, 1, (some .int))
def mX12_eRead : am_M := (yX12_eRead, cX12_eRead, 4, (some .boolean))
def mX12_text : am_M := (yX12_text, cX12_text, 3, (some .int))
def mX12_two : am_M := (yX12_two, cX12_two, 3, (some .int))
def mX12_says : am_M := (yX12_says, cX12_says, 5, (some .int))
def mX12_force : am_M := (yX12_force, cX12_force, 3, (some .int))
def mX12_asksOf : am_M := (yX12_asksOf, cX12_asksOf, 5, (some .int))
def mX12_asks : am_M := (yX12_asks, cX12_asks, 6, (some .int))
def mX12_viewer : am_M := (yX12_viewer, cX12_viewer, 3, (some .int))
def mX12_put : am_M := (yX12_put, cX12_put, 5, (some .int))
def mX12_one : am_M := (yX12_one, cX12_one, 3, (some .int))
def mX12_likesOf : am_M := (yX12_likesOf, cX12_likesOf, 6, (some .int))
def mX12_keepsOf : am_M := (yX12_keepsOf, cX12_keepsOf, 8, (some .int))
def mX12_offersOf : am_M := (yX12_offersOf, cX12_offersOf, 6, (some .int))
def mX12_reads : am_M := (yX12_reads, cX12_reads, 5, (some .int))
def mX12_mindOf : am_M := (yX12_mindOf, cX12_mindOf, 6, (some .int))
def mX12_offerOf : am_M := (yX12_offerOf, cX12_offerOf, 3, (some .int))
def mX12_tour : am_M := (yX12_tour, cX12_tour, 6, (some .int))
def mX12_crowdOf : am_M := (yX12_crowdOf, cX12_crowdOf, 4, (some .int))
def mX12_shows : am_M := (yX12_shows, cX12_shows, 5, none)
def mX12_isSome : am_M := (yX12_isSome, cX12_isSome, 2, (some .boolean))
def mX12_shown : am_M := (yX12_shown, cX12_shown, 5, (some .int))
def mX12_addsMinds : am_M := (yX12_addsMinds, cX12_addsMinds, 10, none)
def mX12_digitsOf : am_M := (yX12_digitsOf, cX12_digitsOf, 8, (some .int))
def mX12_best : am_M := (yX12_best, cX12_best, 9, (some .int))
def mX12_when : am_M := (yX12_when, cX12_when, 9, (some .int))
def mX12_together : am_M := (yX12_together, cX12_together, 12, (some .int))
def mX12_without : am_M := (yX12_without, cX12_without, 10, (some .int))
def mX12_paint : am_M := (yX12_paint, cX12_paint, 8, (some .int))
def mX12_tenant : am_M := (yX12_tenant, cX12_tenant, 13, (some .int))
def mX12_lowest : am_M := (yX12_lowest, cX12_lowest, 11, (some .long))
def mX12_isOrder : am_M := (yX12_isOrder, cX12_isOrder, 6, (some .boolean))
def mX12_takenOf : am_M := (yX12_takenOf, cX12_takenOf, 6, (some .int))
def mX12_waits : am_M := (yX12_waits, cX12_waits, 13, (some .long))
def mX12_toldWrong : am_M := (yX12_toldWrong, cX12_toldWrong, 4, (some .int))
def mX12_unlike : am_M := (yX12_unlike, cX12_unlike, 6, (some .int))
def mX12_judge : am_M := (yX12_judge, cX12_judge, 5, (some .int))
def mX12_kinds : am_M := (yX12_kinds, cX12_kinds, 10, (some .int))
def mX12_riches : am_M := (yX12_riches, cX12_riches, 11, (some .int))
def mX12_rooms : am_M := (yX12_rooms, cX12_rooms, 13, (some .int))
def mX12_laws : am_M := (yX12_laws, cX12_laws, 8, (some .int))
def mX12_film : am_M := (yX12_film, cX12_film, 7, (some .int))
def mX12_orders : am_M := (yX12_orders, cX12_orders, 7, none)
def mX12_drawn : am_M := (yX12_drawn, cX12_drawn, 6, (some .int))
def mX12_odds : am_M := (yX12_odds, cX12_odds, 9, (some .long))
def mX12_image : am_M := (yX12_image, cX12_image, 2, (some .int))
def mX12_back : am_M := (yX12_back, cX12_back, 2, (some .int))
def mX12_sheet : am_M := (yX12_sheet, cX12_sheet, 5, (some .int))
def mX12_cell : am_M := (yX12_cell, cX12_cell, 4, (some .int))
def mX12_copy : am_M := (yX12_copy, cX12_copy, 10, (some .int))
def mX12_viewersBy : am_M := (yX12_viewersBy, cX12_viewersBy, 9, (some .int))
def mX12_isUnder : am_M := (yX12_isUnder, cX12_isUnder, 2, (some .boolean))
def mX12_taken : am_M := (yX12_taken, cX12_taken, 3, (some .int))
def mJ6_bitCount_0f7a4 : am_M := (yJ6_bitCount_0f7a4, cJ6_bitCount_0f7a4, 1, (some .int))
def mJ9_max_7cf53 : am_M := (yJ9_max_7cf53, cJ9_max_7cf53, 2, (some .int))
def mJ0_length_8abf5 : am_M := (yJ0_length_8abf5, cJ0_length_8abf5, 1, (some .int))
def mJ0_charAt_5068e : am_M := (yJ0_charAt_5068e, cJ0_charAt_5068e, 2, (some .char))
def mJ0_coder_7d493 : am_M := (yJ0_coder_7d493, cJ0_coder_7d493, 1, (some .byte))
def mJ0_isLatin1_aae02 : am_M := (yJ0_isLatin1_aae02, cJ0_isLatin1_aae02, 1, (some .boolean))
def mJ0_checkIndex_df160 : am_M := (yJ0_checkIndex_df160, cJ0_checkIndex_df160, 2, none)
def mJ1_charAt_3b067 : am_M := (yJ1_charAt_3b067, cJ1_charAt_3b067, 2, (some .char))
def mJ2_getChar_3b067 : am_M := (yJ2_getChar_3b067, cJ2_getChar_3b067, 2, (some .char))
def mJ2_length_9d52b : am_M := (yJ2_length_9d52b, cJ2_length_9d52b, 1, (some .int))
def mJ2_charAt_3b067 : am_M := (yJ2_charAt_3b067, cJ2_charAt_3b067, 2, (some .char))
def mJ2_checkIndex_2214a : am_M := (yJ2_checkIndex_2214a, cJ2_checkIndex_2214a, 2, none)
def mJ3_checkIndex_8e157 : am_M := (yJ3_checkIndex_8e157, cJ3_checkIndex_8e157, 3, (some .int))
def mL_law : am_M := (yL_law, cL_law, 4, some .boolean)
theorem uin_X0 : ∀ w ∈ u_ws RX0 TX0 0, w ∈ am_WS := am_inL [] (by decide +kernel) (by decide +kernel)
theorem uin_X1 : ∀ w ∈ u_ws RX1 TX1 0, w ∈ am_WS := am_inL [] (by decide +kernel) (by decide +kernel)
theorem uin_X2 : ∀ w ∈ u_ws RX2 TX2 0, w ∈ am_WS := am_inL [] (by decide +kernel) (by decide +kernel)
theorem uin_X3 : ∀ w ∈ u_ws RX3 TX3 0, w ∈ am_WS := am_inL [] (by decide +kernel) (by decide +kernel)
theorem uin_X4 : ∀ w ∈ u_ws RX4 TX4 8, w ∈ am_WS := am_inL [219, 221, 223, 225, 227, 229, 231, 233] (by decide +kernel) (by decide +kernel)
theorem uin_X5 : ∀ w ∈ u_ws RX5 TX5 3, w ∈ am_WS := am_inL [245, 247, 249] (by decide +kernel) (by decide +kernel)
theorem uin_X6 : ∀ w ∈ u_ws RX6 TX6 7, w ∈ am_WS := am_inL [116, 118, 120, 122, 124, 126, 128] (by decide +kernel) (by decide +kernel)
theorem uin_X7 : ∀ w ∈ u_ws RX7 TX7 0, w ∈ am_WS := am_inL [] (by decide +kernel) (by decide +kernel)
theorem uin_X8 : ∀ w ∈ u_ws RX8 TX8 7, w ∈ am_WS := am_inL [189, 191, 193, 195, 197, 199, 201] (by decide +kernel) (by decide +kernel)
theorem uin_X9 : ∀ w ∈ u_ws RX9 TX9 0, w ∈ am_WS := am_inL [] (by decide +kernel) (by decide +kernel)
theorem uin_X10 : ∀ w ∈ u_ws RX10 TX10 13, w ∈ am_WS := am_inL [273, 275, 277, 279, 281, 283, 285, 287, 289, 291, 293, 295, 297] (by decide +kernel) (by decide +kernel)
theorem uin_X11 : ∀ w ∈ u_ws RX11 TX11 16, w ∈ am_WS := am_inL [478, 480, 482, 484, 486, 488, 490, 492, 494, 496, 498, 500, 502, 504, 506, 508] (by decide +kernel) (by decide +kernel)
theorem uin_X12 : ∀ w ∈ u_ws RX12 TX12 39, w ∈ am_WS := am_inL [1048, 1050, 1052, 1054, 1056, 1058, 1060, 1062, 1064, 1066, 1068, 1070, 1072, 1074, 1076, 1078, 1080, 1082, 1084, 1086, 1088, 1090, 1092, 1094, 1096, 1098, 1100, 1102, 1104, 1106, 1108, 1110, 1112, 1114, 1116, 1118, 1120, 1122, 1124] (by decide +kernel) (by decide +kernel)
theorem wd_98 : Cond.fieldLink RX6 9 "FlatToLet$State" "light" "[I" ∈ am_WS := am_t1 35 (by decide +kernel) rfl
theorem fl_X6_9 : am_fl RX6 9 6 0 := ⟨RX6, TX6, 7, rfl, by decide, uin_X6, wd_98⟩
theorem fp_X6_9 : am_fp RX6 9 6 0 (.array .int) true := ⟨RX6, TX6, 7, tyX6, rfl, by decide, uin_X6, wd_98, tyX6_ok, nmX6, rfl, by decide +kernel, fun _ => rfl⟩
theorem wd_99 : Cond.fieldLink RX10 38 "FlatToLet$State" "light" "[I" ∈ am_WS := am_t1 36 (by decide +kernel) rfl
theorem fl_X10_38 : am_fl RX10 38 6 0 := ⟨RX6, TX6, 7, rfl, by decide, uin_X6, wd_99⟩
theorem wd_100 : Cond.fieldLink RX11 133 "FlatToLet$State" "light" "[I" ∈ am_WS := am_t1 37 (by decide +kernel) rfl
theorem fl_X11_133 : am_fl RX11 133 6 0 := ⟨RX6, TX6, 7, rfl, by decide, uin_X6, wd_100⟩
theorem wd_101 : Cond.fieldLink RX6 15 "FlatToLet$State" "damp" "[I" ∈ am_WS := am_t1 38 (by decide +kernel) rfl
theorem fl_X6_15 : am_fl RX6 15 6 1 := ⟨RX6, TX6, 7, rfl, by decide, uin_X6, wd_101⟩
theorem fp_X6_15 : am_fp RX6 15 6 1 (.array .int) true := ⟨RX6, TX6, 7, tyX6, rfl, by decide, uin_X6, wd_101, tyX6_ok, nmX6, rfl, by decide +kernel, fun _ => rfl⟩
theorem wd_102 : Cond.fieldLink RX10 49 "FlatToLet$State" "damp" "[I" ∈ am_WS := am_t1 39 (by decide +kernel) rfl
theorem fl_X10_49 : am_fl RX10 49 6 1 := ⟨RX6, TX6, 7, rfl, by decide, uin_X6, wd_102⟩
theorem wd_103 : Cond.fieldLink RX11 136 "FlatToLet$State" "damp" "[I" ∈ am_WS := am_t1 40 (by decide +kernel) rfl
theorem fl_X11_136 : am_fl RX11 136 6 1 := ⟨RX6, TX6, 7, rfl, by decide, uin_X6, wd_103⟩
theorem wd_104 : Cond.fieldLink RX6 18 "FlatToLet$State" "rich" "[I" ∈ am_WS := am_t1 41 (by decide +kernel) rfl
theorem fl_X6_18 : am_fl RX6 18 6 2 := ⟨RX6, TX6, 7, rfl, by decide, uin_X6, wd_104⟩
theorem fp_X6_18 : am_fp RX6 18 6 2 (.array .int) true := ⟨RX6, TX6, 7, tyX6, rfl, by decide, uin_X6, wd_104, tyX6_ok, nmX6, rfl, by decide +kernel, fun _ => rfl⟩
theorem wd_105 : Cond.fieldLink RX11 170 "FlatToLet$State" "rich" "[I" ∈ am_WS := am_t1 42 (by decide +kernel) rfl
theorem fl_X11_170 : am_fl RX11 170 6 2 := ⟨RX6, TX6, 7, rfl, by decide, uin_X6, wd_105⟩
theorem wd_106 : Cond.fieldLink RX6 21 "FlatToLet$State" "quiet" "[I" ∈ am_WS := am_t1 43 (by decide +kernel) rfl
theorem fl_X6_21 : am_fl RX6 21 6 3 := ⟨RX6, TX6, 7, rfl, by decide, uin_X6, wd_106⟩
theorem fp_X6_21 : am_fp RX6 21 6 3 (.array .int) true := ⟨RX6, TX6, 7, tyX6, rfl, by decide, uin_X6, wd_106, tyX6_ok, nmX6, rfl, by decide +kernel, fun _ => rfl⟩
theorem wd_107 : Cond.fieldLink RX11 173 "FlatToLet$State" "quiet" "[I" ∈ am_WS := am_t1 44 (by decide +kernel) rfl
theorem fl_X11_173 : am_fl RX11 173 6 3 := ⟨RX6, TX6, 7, rfl, by decide, uin_X6, wd_107⟩
theorem wd_108 : Cond.fieldLink RX11 120 "FlatToLet$State" "viewers" "I" ∈ am_WS := am_t1 45 (by decide +kernel) rfl
theorem fl_X11_120 : am_fl RX11 120 6 4 := ⟨RX6, TX6, 7, rfl, by decide, uin_X6, wd_108⟩
theorem fp_X11_120 : am_fp RX11 120 6 4 .int false := ⟨RX6, TX6, 7, tyX6, rfl, by decide, uin_X6, wd_108, tyX6_ok, nmX6, rfl, by decide +kernel, fun h => absurd h (by decide)⟩
theorem wd_109 : Cond.fieldLink RX6 36 "FlatToLet$State" "viewers" "I" ∈ am_WS := am_t1 46 (by decide +kernel) rfl
theorem fl_X6_36 : am_fl RX6 36 6 4 := ⟨RX6, TX6, 7, rfl, by decide, uin_X6, wd_109⟩
theorem fp_X6_36 : am_fp RX6 36 6 4 .int false := ⟨RX6, TX6, 7, tyX6, rfl, by decide, uin_X6, wd_109, tyX6_ok, nmX6, rfl, by decide +kernel, fun _ => rfl⟩
theorem wd_110 : Cond.fieldLink RX6 24 "FlatToLet$State" "hour" "I" ∈ am_WS := am_t1 47 (by decide +kernel) rfl
theorem fl_X6_24 : am_fl RX6 24 6 5 := ⟨RX6, TX6, 7, rfl, by decide, uin_X6, wd_110⟩
theorem fp_X6_24 : am_fp RX6 24 6 5 .int false := ⟨RX6, TX6, 7, tyX6, rfl, by decide, uin_X6, wd_110, tyX6_ok, nmX6, rfl, by decide +kernel, fun _ => rfl⟩
theorem wd_111 : Cond.fieldLink RX11 123 "FlatToLet$State" "hour" "I" ∈ am_WS := am_t1 48 (by decide +kernel) rfl
theorem fl_X11_123 : am_fl RX11 123 6 5 := ⟨RX6, TX6, 7, rfl, by decide, uin_X6, wd_111⟩
theorem fp_X11_123 : am_fp RX11 123 6 5 .int false := ⟨RX6, TX6, 7, tyX6, rfl, by decide, uin_X6, wd_111, tyX6_ok, nmX6, rfl, by decide +kernel, fun h => absurd h (by decide)⟩
theorem wd_112 : Cond.fieldLink RX10 50 "FlatToLet$State" "hour" "I" ∈ am_WS := am_t1 49 (by decide +kernel) rfl
theorem fl_X10_50 : am_fl RX10 50 6 5 := ⟨RX6, TX6, 7, rfl, by decide, uin_X6, wd_112⟩
theorem wd_113 : Cond.fieldLink RX10 58 "FlatToLet$State" "law" "I" ∈ am_WS := am_t1 50 (by decide +kernel) rfl
theorem fl_X10_58 : am_fl RX10 58 6 6 := ⟨RX6, TX6, 7, rfl, by decide, uin_X6, wd_113⟩
theorem wd_114 : Cond.fieldLink RX11 126 "FlatToLet$State" "law" "I" ∈ am_WS := am_t1 51 (by decide +kernel) rfl
theorem fl_X11_126 : am_fl RX11 126 6 6 := ⟨RX6, TX6, 7, rfl, by decide, uin_X6, wd_114⟩
theorem fp_X11_126 : am_fp RX11 126 6 6 .int false := ⟨RX6, TX6, 7, tyX6, rfl, by decide, uin_X6, wd_114, tyX6_ok, nmX6, rfl, by decide +kernel, fun h => absurd h (by decide)⟩
theorem wd_115 : Cond.fieldLink RX6 39 "FlatToLet$State" "law" "I" ∈ am_WS := am_t1 52 (by decide +kernel) rfl
theorem fl_X6_39 : am_fl RX6 39 6 6 := ⟨RX6, TX6, 7, rfl, by decide, uin_X6, wd_115⟩
theorem fp_X6_39 : am_fp RX6 39 6 6 .int false := ⟨RX6, TX6, 7, tyX6, rfl, by decide, uin_X6, wd_115, tyX6_ok, nmX6, rfl, by decide +kernel, fun _ => rfl⟩
theorem wd_181 : Cond.fieldLink RX8 9 "FlatToLet$Texts" "steps" "[I" ∈ am_WS := am_t1 118 (by decide +kernel) rfl
theorem fl_X8_9 : am_fl RX8 9 8 0 := ⟨RX8, TX8, 7, rfl, by decide, uin_X8, wd_181⟩
theorem fp_X8_9 : am_fp RX8 9 8 0 (.array .int) true := ⟨RX8, TX8, 7, tyX8, rfl, by decide, uin_X8, wd_181, tyX8_ok, nmX8, rfl, by decide +kernel, fun _ => rfl⟩
theorem wd_182 : Cond.fieldLink RX8 15 "FlatToLet$Texts" "ends" "[I" ∈ am_WS := am_t1 119 (by decide +kernel) rfl
theorem fl_X8_15 : am_fl RX8 15 8 1 := ⟨RX8, TX8, 7, rfl, by decide, uin_X8, wd_182⟩
theorem fp_X8_15 : am_fp RX8 15 8 1 (.array .int) true := ⟨RX8, TX8, 7, tyX8, rfl, by decide, uin_X8, wd_182, tyX8_ok, nmX8, rfl, by decide +kernel, fun _ => rfl⟩
theorem wd_183 : Cond.fieldLink RX8 18 "FlatToLet$Texts" "named" "[I" ∈ am_WS := am_t1 120 (by decide +kernel) rfl
theorem fl_X8_18 : am_fl RX8 18 8 2 := ⟨RX8, TX8, 7, rfl, by decide, uin_X8, wd_183⟩
theorem fp_X8_18 : am_fp RX8 18 8 2 (.array .int) true := ⟨RX8, TX8, 7, tyX8, rfl, by decide, uin_X8, wd_183, tyX8_ok, nmX8, rfl, by decide +kernel, fun _ => rfl⟩
theorem wd_184 : Cond.fieldLink RX8 21 "FlatToLet$Texts" "stack" "[I" ∈ am_WS := am_t1 121 (by decide +kernel) rfl
theorem fl_X8_21 : am_fl RX8 21 8 3 := ⟨RX8, TX8, 7, rfl, by decide, uin_X8, wd_184⟩
theorem fp_X8_21 : am_fp RX8 21 8 3 (.array .int) true := ⟨RX8, TX8, 7, tyX8, rfl, by decide, uin_X8, wd_184, tyX8_ok, nmX8, rfl, by decide +kernel, fun _ => rfl⟩
theorem wd_185 : Cond.fieldLink RX11 117 "FlatToLet$Texts" "count" "I" ∈ am_WS := am_t1 122 (by decide +kernel) rfl
theorem fl_X11_117 : am_fl RX11 117 8 4 := ⟨RX8, TX8, 7, rfl, by decide, uin_X8, wd_185⟩
theorem fp_X11_117 : am_fp RX11 117 8 4 .int false := ⟨RX8, TX8, 7, tyX8, rfl, by decide, uin_X8, wd_185, tyX8_ok, nmX8, rfl, by decide +kernel, fun h => absurd h (by decide)⟩
theorem wd_186 : Cond.fieldLink RX8 24 "FlatToLet$Texts" "count" "I" ∈ am_WS := am_t1 123 (by decide +kernel) rfl
theorem fl_X8_24 : am_fl RX8 24 8 4 := ⟨RX8, TX8, 7, rfl, by decide, uin_X8, wd_186⟩
theorem wd_187 : Cond.fieldLink RX8 28 "FlatToLet$Texts" "written" "I" ∈ am_WS := am_t1 124 (by decide +kernel) rfl
theorem fl_X8_28 : am_fl RX8 28 8 5 := ⟨RX8, TX8, 7, rfl, by decide, uin_X8, wd_187⟩
theorem fp_X8_28 : am_fp RX8 28 8 5 .int false := ⟨RX8, TX8, 7, tyX8, rfl, by decide, uin_X8, wd_187, tyX8_ok, nmX8, rfl, by decide +kernel, fun _ => rfl⟩
theorem wd_188 : Cond.fieldLink RX8 31 "FlatToLet$Texts" "names" "I" ∈ am_WS := am_t1 125 (by decide +kernel) rfl
theorem fl_X8_31 : am_fl RX8 31 8 6 := ⟨RX8, TX8, 7, rfl, by decide, uin_X8, wd_188⟩
theorem fp_X8_31 : am_fp RX8 31 8 6 .int false := ⟨RX8, TX8, 7, tyX8, rfl, by decide, uin_X8, wd_188, tyX8_ok, nmX8, rfl, by decide +kernel, fun _ => rfl⟩
theorem wd_210 : Cond.fieldLink RX4 9 "FlatToLet$Reader" "tape" "[I" ∈ am_WS := am_t1 147 (by decide +kernel) rfl
theorem fl_X4_9 : am_fl RX4 9 4 0 := ⟨RX4, TX4, 8, rfl, by decide, uin_X4, wd_210⟩
theorem fp_X4_9 : am_fp RX4 9 4 0 (.array .int) true := ⟨RX4, TX4, 8, tyX4, rfl, by decide, uin_X4, wd_210, tyX4_ok, nmX4, rfl, by decide +kernel, fun _ => rfl⟩
theorem wd_211 : Cond.fieldLink RX11 113 "FlatToLet$Reader" "size" "I" ∈ am_WS := am_t1 148 (by decide +kernel) rfl
theorem fl_X11_113 : am_fl RX11 113 4 1 := ⟨RX4, TX4, 8, rfl, by decide, uin_X4, wd_211⟩
theorem fp_X11_113 : am_fp RX11 113 4 1 .int false := ⟨RX4, TX4, 8, tyX4, rfl, by decide, uin_X4, wd_211, tyX4_ok, nmX4, rfl, by decide +kernel, fun h => absurd h (by decide)⟩
theorem wd_212 : Cond.fieldLink RX4 25 "FlatToLet$Reader" "size" "I" ∈ am_WS := am_t1 149 (by decide +kernel) rfl
theorem fl_X4_25 : am_fl RX4 25 4 1 := ⟨RX4, TX4, 8, rfl, by decide, uin_X4, wd_212⟩
theorem fp_X4_25 : am_fp RX4 25 4 1 .int false := ⟨RX4, TX4, 8, tyX4, rfl, by decide, uin_X4, wd_212, tyX4_ok, nmX4, rfl, by decide +kernel, fun _ => rfl⟩
theorem wd_213 : Cond.fieldLink RX4 21 "FlatToLet$Reader" "texts" "LFlatToLet$Texts;" ∈ am_WS := am_t1 150 (by decide +kernel) rfl
theorem fl_X4_21 : am_fl RX4 21 4 2 := ⟨RX4, TX4, 8, rfl, by decide, uin_X4, wd_213⟩
theorem fp_X4_21 : am_fp RX4 21 4 2 (.object "FlatToLet$Texts") true := ⟨RX4, TX4, 8, tyX4, rfl, by decide, uin_X4, wd_213, tyX4_ok, nmX4, rfl, by decide +kernel, fun _ => rfl⟩
theorem wd_214 : Cond.fieldLink RX4 15 "FlatToLet$Reader" "tokens" "[I" ∈ am_WS := am_t1 151 (by decide +kernel) rfl
theorem fl_X4_15 : am_fl RX4 15 4 3 := ⟨RX4, TX4, 8, rfl, by decide, uin_X4, wd_214⟩
theorem fp_X4_15 : am_fp RX4 15 4 3 (.array .int) true := ⟨RX4, TX4, 8, tyX4, rfl, by decide, uin_X4, wd_214, tyX4_ok, nmX4, rfl, by decide +kernel, fun _ => rfl⟩
theorem wd_215 : Cond.fieldLink RX4 18 "FlatToLet$Reader" "places" "[I" ∈ am_WS := am_t1 152 (by decide +kernel) rfl
theorem fl_X4_18 : am_fl RX4 18 4 4 := ⟨RX4, TX4, 8, rfl, by decide, uin_X4, wd_215⟩
theorem fp_X4_18 : am_fp RX4 18 4 4 (.array .int) true := ⟨RX4, TX4, 8, tyX4, rfl, by decide, uin_X4, wd_215, tyX4_ok, nmX4, rfl, by decide +kernel, fun _ => rfl⟩
theorem wd_216 : Cond.fieldLink RX4 58 "FlatToLet$Reader" "known" "I" ∈ am_WS := am_t1 153 (by decide +kernel) rfl
theorem fl_X4_58 : am_fl RX4 58 4 5 := ⟨RX4, TX4, 8, rfl, by decide, uin_X4, wd_216⟩
theorem fp_X4_58 : am_fp RX4 58 4 5 .int false := ⟨RX4, TX4, 8, tyX4, rfl, by decide, uin_X4, wd_216, tyX4_ok, nmX4, rfl, by decide +kernel, fun _ => rfl⟩
theorem wd_217 : Cond.fieldLink RX4 51 "FlatToLet$Reader" "token" "I" ∈ am_WS := am_t1 154 (by decide +kernel) rfl
theorem fl_X4_51 : am_fl RX4 51 4 6 := ⟨RX4, TX4, 8, rfl, by decide, uin_X4, wd_217⟩
theorem fp_X4_51 : am_fp RX4 51 4 6 .int false := ⟨RX4, TX4, 8, tyX4, rfl, by decide, uin_X4, wd_217, tyX4_ok, nmX4, rfl, by decide +kernel, fun _ => rfl⟩
theorem wd_218 : Cond.fieldLink RX4 36 "FlatToLet$Reader" "seen" "I" ∈ am_WS := am_t1 155 (by decide +kernel) rfl
theorem fl_X4_36 : am_fl RX4 36 4 7 := ⟨RX4, TX4, 8, rfl, by decide, uin_X4, wd_218⟩
theorem fp_X4_36 : am_fp RX4 36 4 7 .int false := ⟨RX4, TX4, 8, tyX4, rfl, by decide, uin_X4, wd_218, tyX4_ok, nmX4, rfl, by decide +kernel, fun _ => rfl⟩
theorem wd_242 : Cond.fieldLink RX5 9 "FlatToLet$Sheets" "cells" "[I" ∈ am_WS := am_t1 179 (by decide +kernel) rfl
theorem fl_X5_9 : am_fl RX5 9 5 0 := ⟨RX5, TX5, 3, rfl, by decide, uin_X5, wd_242⟩
theorem fp_X5_9 : am_fp RX5 9 5 0 (.array .int) true := ⟨RX5, TX5, 3, tyX5, rfl, by decide, uin_X5, wd_242, tyX5_ok, nmX5, rfl, by decide +kernel, fun _ => rfl⟩
theorem wd_243 : Cond.fieldLink RX5 15 "FlatToLet$Sheets" "sorts" "[I" ∈ am_WS := am_t1 180 (by decide +kernel) rfl
theorem fl_X5_15 : am_fl RX5 15 5 1 := ⟨RX5, TX5, 3, rfl, by decide, uin_X5, wd_243⟩
theorem fp_X5_15 : am_fp RX5 15 5 1 (.array .int) true := ⟨RX5, TX5, 3, tyX5, rfl, by decide, uin_X5, wd_243, tyX5_ok, nmX5, rfl, by decide +kernel, fun _ => rfl⟩
theorem wd_244 : Cond.fieldLink RX5 18 "FlatToLet$Sheets" "sizes" "[I" ∈ am_WS := am_t1 181 (by decide +kernel) rfl
theorem fl_X5_18 : am_fl RX5 18 5 2 := ⟨RX5, TX5, 3, rfl, by decide, uin_X5, wd_244⟩
theorem fp_X5_18 : am_fp RX5 18 5 2 (.array .int) true := ⟨RX5, TX5, 3, tyX5, rfl, by decide, uin_X5, wd_244, tyX5_ok, nmX5, rfl, by decide +kernel, fun _ => rfl⟩
theorem wd_260 : Cond.fieldLink RX10 34 "FlatToLet$Visit" "texts" "LFlatToLet$Texts;" ∈ am_WS := am_t1 197 (by decide +kernel) rfl
theorem fl_X10_34 : am_fl RX10 34 10 0 := ⟨RX10, TX10, 13, rfl, by decide, uin_X10, wd_260⟩
theorem fp_X10_34 : am_fp RX10 34 10 0 (.object "FlatToLet$Texts") true := ⟨RX10, TX10, 13, tyX10, rfl, by decide, uin_X10, wd_260, tyX10_ok, nmX10, rfl, by decide +kernel, fun _ => rfl⟩
theorem wd_261 : Cond.fieldLink RX10 9 "FlatToLet$Visit" "light" "[I" ∈ am_WS := am_t1 198 (by decide +kernel) rfl
theorem fl_X10_9 : am_fl RX10 9 10 1 := ⟨RX10, TX10, 13, rfl, by decide, uin_X10, wd_261⟩
theorem fp_X10_9 : am_fp RX10 9 10 1 (.array .int) true := ⟨RX10, TX10, 13, tyX10, rfl, by decide, uin_X10, wd_261, tyX10_ok, nmX10, rfl, by decide +kernel, fun _ => rfl⟩
theorem wd_262 : Cond.fieldLink RX10 15 "FlatToLet$Visit" "damp" "[I" ∈ am_WS := am_t1 199 (by decide +kernel) rfl
theorem fl_X10_15 : am_fl RX10 15 10 2 := ⟨RX10, TX10, 13, rfl, by decide, uin_X10, wd_262⟩
theorem fp_X10_15 : am_fp RX10 15 10 2 (.array .int) true := ⟨RX10, TX10, 13, tyX10, rfl, by decide, uin_X10, wd_262, tyX10_ok, nmX10, rfl, by decide +kernel, fun _ => rfl⟩
theorem wd_263 : Cond.fieldLink RX10 18 "FlatToLet$Visit" "walked" "[I" ∈ am_WS := am_t1 200 (by decide +kernel) rfl
theorem fl_X10_18 : am_fl RX10 18 10 3 := ⟨RX10, TX10, 13, rfl, by decide, uin_X10, wd_263⟩
theorem fp_X10_18 : am_fp RX10 18 10 3 (.array .int) true := ⟨RX10, TX10, 13, tyX10, rfl, by decide, uin_X10, wd_263, tyX10_ok, nmX10, rfl, by decide +kernel, fun _ => rfl⟩
theorem wd_264 : Cond.fieldLink RX10 21 "FlatToLet$Visit" "names" "[I" ∈ am_WS := am_t1 201 (by decide +kernel) rfl
theorem fl_X10_21 : am_fl RX10 21 10 4 := ⟨RX10, TX10, 13, rfl, by decide, uin_X10, wd_264⟩
theorem fp_X10_21 : am_fp RX10 21 10 4 (.array .int) true := ⟨RX10, TX10, 13, tyX10, rfl, by decide, uin_X10, wd_264, tyX10_ok, nmX10, rfl, by decide +kernel, fun _ => rfl⟩
theorem wd_265 : Cond.fieldLink RX10 65 "FlatToLet$Visit" "length" "I" ∈ am_WS := am_t1 202 (by decide +kernel) rfl
theorem fl_X10_65 : am_fl RX10 65 10 5 := ⟨RX10, TX10, 13, rfl, by decide, uin_X10, wd_265⟩
theorem fp_X10_65 : am_fp RX10 65 10 5 .int false := ⟨RX10, TX10, 13, tyX10, rfl, by decide, uin_X10, wd_265, tyX10_ok, nmX10, rfl, by decide +kernel, fun _ => rfl⟩
theorem wd_266 : Cond.fieldLink RX10 27 "FlatToLet$Visit" "kind" "LFlatToLet$Viewer;" ∈ am_WS := am_t1 203 (by decide +kernel) rfl
theorem fl_X10_27 : am_fl RX10 27 10 6 := ⟨RX10, TX10, 13, rfl, by decide, uin_X10, wd_266⟩
theorem fp_X10_27 : am_fp RX10 27 10 6 (.object "FlatToLet$Viewer") false := ⟨RX10, TX10, 13, tyX10, rfl, by decide, uin_X10, wd_266, tyX10_ok, nmX10, rfl, by decide +kernel, fun _ => rfl⟩
theorem wd_267 : Cond.fieldLink RX10 68 "FlatToLet$Visit" "more" "I" ∈ am_WS := am_t1 204 (by decide +kernel) rfl
theorem fl_X10_68 : am_fl RX10 68 10 7 := ⟨RX10, TX10, 13, rfl, by decide, uin_X10, wd_267⟩
theorem fp_X10_68 : am_fp RX10 68 10 7 .int false := ⟨RX10, TX10, 13, tyX10, rfl, by decide, uin_X10, wd_267, tyX10_ok, nmX10, rfl, by decide +kernel, fun _ => rfl⟩
theorem wd_268 : Cond.fieldLink RX10 71 "FlatToLet$Visit" "crowd" "I" ∈ am_WS := am_t1 205 (by decide +kernel) rfl
theorem fl_X10_71 : am_fl RX10 71 10 8 := ⟨RX10, TX10, 13, rfl, by decide, uin_X10, wd_268⟩
theorem fp_X10_71 : am_fp RX10 71 10 8 .int false := ⟨RX10, TX10, 13, tyX10, rfl, by decide, uin_X10, wd_268, tyX10_ok, nmX10, rfl, by decide +kernel, fun _ => rfl⟩
theorem wd_269 : Cond.fieldLink RX10 61 "FlatToLet$Visit" "law" "I" ∈ am_WS := am_t1 206 (by decide +kernel) rfl
theorem fl_X10_61 : am_fl RX10 61 10 9 := ⟨RX10, TX10, 13, rfl, by decide, uin_X10, wd_269⟩
theorem fp_X10_61 : am_fp RX10 61 10 9 .int false := ⟨RX10, TX10, 13, tyX10, rfl, by decide, uin_X10, wd_269, tyX10_ok, nmX10, rfl, by decide +kernel, fun _ => rfl⟩
theorem wd_270 : Cond.fieldLink RX10 80 "FlatToLet$Visit" "hour" "I" ∈ am_WS := am_t1 207 (by decide +kernel) rfl
theorem fl_X10_80 : am_fl RX10 80 10 10 := ⟨RX10, TX10, 13, rfl, by decide, uin_X10, wd_270⟩
theorem fp_X10_80 : am_fp RX10 80 10 10 .int false := ⟨RX10, TX10, 13, tyX10, rfl, by decide, uin_X10, wd_270, tyX10_ok, nmX10, rfl, by decide +kernel, fun _ => rfl⟩
theorem wd_271 : Cond.fieldLink RX10 31 "FlatToLet$Visit" "minds" "[I" ∈ am_WS := am_t1 208 (by decide +kernel) rfl
theorem fl_X10_31 : am_fl RX10 31 10 11 := ⟨RX10, TX10, 13, rfl, by decide, uin_X10, wd_271⟩
theorem fp_X10_31 : am_fp RX10 31 10 11 (.array .int) true := ⟨RX10, TX10, 13, tyX10, rfl, by decide, uin_X10, wd_271, tyX10_ok, nmX10, rfl, by decide +kernel, fun _ => rfl⟩
theorem wd_272 : Cond.fieldLink RX10 62 "FlatToLet$Visit" "known" "I" ∈ am_WS := am_t1 209 (by decide +kernel) rfl
theorem fl_X10_62 : am_fl RX10 62 10 12 := ⟨RX10, TX10, 13, rfl, by decide, uin_X10, wd_272⟩
theorem fp_X10_62 : am_fp RX10 62 10 12 .int false := ⟨RX10, TX10, 13, tyX10, rfl, by decide, uin_X10, wd_272, tyX10_ok, nmX10, rfl, by decide +kernel, fun _ => rfl⟩
theorem wd_462 : Cond.fieldLink RX11 10 "FlatToLet" "now" "LFlatToLet$State;" ∈ am_WS := am_t2 159 (by decide +kernel) rfl
theorem fl_X11_10 : am_fl RX11 10 11 0 := ⟨RX11, TX11, 16, rfl, by decide, uin_X11, wd_462⟩
theorem fp_X11_10 : am_fp RX11 10 11 0 (.object "FlatToLet$State") true := ⟨RX11, TX11, 16, tyX11, rfl, by decide, uin_X11, wd_462, tyX11_ok, nmX11, rfl, by decide +kernel, fun _ => rfl⟩
theorem wd_463 : Cond.fieldLink RX11 16 "FlatToLet" "kept" "LFlatToLet$State;" ∈ am_WS := am_t2 160 (by decide +kernel) rfl
theorem fl_X11_16 : am_fl RX11 16 11 1 := ⟨RX11, TX11, 16, rfl, by decide, uin_X11, wd_463⟩
theorem fp_X11_16 : am_fp RX11 16 11 1 (.object "FlatToLet$State") true := ⟨RX11, TX11, 16, tyX11, rfl, by decide, uin_X11, wd_463, tyX11_ok, nmX11, rfl, by decide +kernel, fun _ => rfl⟩
theorem wd_464 : Cond.fieldLink RX11 288 "FlatToLet" "imageKept" "Z" ∈ am_WS := am_t2 161 (by decide +kernel) rfl
theorem fl_X11_288 : am_fl RX11 288 11 2 := ⟨RX11, TX11, 16, rfl, by decide, uin_X11, wd_464⟩
theorem fp_X11_288 : am_fp RX11 288 11 2 .boolean false := ⟨RX11, TX11, 16, tyX11, rfl, by decide, uin_X11, wd_464, tyX11_ok, nmX11, rfl, by decide +kernel, fun _ => rfl⟩
theorem wd_465 : Cond.fieldLink RX11 37 "FlatToLet" "kinds" "[LFlatToLet$Viewer;" ∈ am_WS := am_t2 162 (by decide +kernel) rfl
theorem fl_X11_37 : am_fl RX11 37 11 3 := ⟨RX11, TX11, 16, rfl, by decide, uin_X11, wd_465⟩
theorem fp_X11_37 : am_fp RX11 37 11 3 (.array (.object "FlatToLet$Viewer")) true := ⟨RX11, TX11, 16, tyX11, rfl, by decide, uin_X11, wd_465, tyX11_ok, nmX11, rfl, by decide +kernel, fun _ => rfl⟩
theorem wd_466 : Cond.fieldLink RX11 41 "FlatToLet" "plain" "LFlatToLet$Viewer;" ∈ am_WS := am_t2 163 (by decide +kernel) rfl
theorem fl_X11_41 : am_fl RX11 41 11 4 := ⟨RX11, TX11, 16, rfl, by decide, uin_X11, wd_466⟩
theorem fp_X11_41 : am_fp RX11 41 11 4 (.object "FlatToLet$Viewer") true := ⟨RX11, TX11, 16, tyX11, rfl, by decide, uin_X11, wd_466, tyX11_ok, nmX11, rfl, by decide +kernel, fun _ => rfl⟩
theorem wd_467 : Cond.fieldLink RX11 45 "FlatToLet" "kindOf" "[I" ∈ am_WS := am_t2 164 (by decide +kernel) rfl
theorem fl_X11_45 : am_fl RX11 45 11 5 := ⟨RX11, TX11, 16, rfl, by decide, uin_X11, wd_467⟩
theorem fp_X11_45 : am_fp RX11 45 11 5 (.array .int) true := ⟨RX11, TX11, 16, tyX11, rfl, by decide, uin_X11, wd_467, tyX11_ok, nmX11, rfl, by decide +kernel, fun _ => rfl⟩
theorem wd_468 : Cond.fieldLink RX11 49 "FlatToLet" "moreOf" "[I" ∈ am_WS := am_t2 165 (by decide +kernel) rfl
theorem fl_X11_49 : am_fl RX11 49 11 6 := ⟨RX11, TX11, 16, rfl, by decide, uin_X11, wd_468⟩
theorem fp_X11_49 : am_fp RX11 49 11 6 (.array .int) true := ⟨RX11, TX11, 16, tyX11, rfl, by decide, uin_X11, wd_468, tyX11_ok, nmX11, rfl, by decide +kernel, fun _ => rfl⟩
theorem wd_469 : Cond.fieldLink RX11 55 "FlatToLet" "texts" "LFlatToLet$Texts;" ∈ am_WS := am_t2 166 (by decide +kernel) rfl
theorem fl_X11_55 : am_fl RX11 55 11 7 := ⟨RX11, TX11, 16, rfl, by decide, uin_X11, wd_469⟩
theorem fp_X11_55 : am_fp RX11 55 11 7 (.object "FlatToLet$Texts") true := ⟨RX11, TX11, 16, tyX11, rfl, by decide, uin_X11, wd_469, tyX11_ok, nmX11, rfl, by decide +kernel, fun _ => rfl⟩
theorem wd_470 : Cond.fieldLink RX11 64 "FlatToLet" "reader" "LFlatToLet$Reader;" ∈ am_WS := am_t2 167 (by decide +kernel) rfl
theorem fl_X11_64 : am_fl RX11 64 11 8 := ⟨RX11, TX11, 16, rfl, by decide, uin_X11, wd_470⟩
theorem fp_X11_64 : am_fp RX11 64 11 8 (.object "FlatToLet$Reader") true := ⟨RX11, TX11, 16, tyX11, rfl, by decide, uin_X11, wd_470, tyX11_ok, nmX11, rfl, by decide +kernel, fun _ => rfl⟩
theorem wd_471 : Cond.fieldLink RX11 71 "FlatToLet" "sheets" "LFlatToLet$Sheets;" ∈ am_WS := am_t2 168 (by decide +kernel) rfl
theorem fl_X11_71 : am_fl RX11 71 11 9 := ⟨RX11, TX11, 16, rfl, by decide, uin_X11, wd_471⟩
