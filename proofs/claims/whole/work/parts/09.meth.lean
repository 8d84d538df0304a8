/-! the methods of the program, by program -/
theorem am_m1 {x : Cond} (i : Nat) (h : tables_1_1[i]? = some x) (hg : goodWord x = true) : x ∈ am_G := by
  have h := List.mem_of_getElem? h
  exact List.mem_filter.mpr ⟨List.mem_append_right _ (List.mem_append_left _ (h)), hg⟩
theorem am_m2 {x : Cond} (i : Nat) (h : tables_1_2[i]? = some x) (hg : goodWord x = true) : x ∈ am_G := by
  have h := List.mem_of_getElem? h
  exact List.mem_filter.mpr ⟨List.mem_append_right _ (List.mem_append_right _ (List.mem_append_left _ (h))), hg⟩
theorem am_m3 {x : Cond} (i : Nat) (h : tables_1_3[i]? = some x) (hg : goodWord x = true) : x ∈ am_G := by
  have h := List.mem_of_getElem? h
  exact List.mem_filter.mpr ⟨List.mem_append_right _ (List.mem_append_right _ (List.mem_append_right _ (List.mem_append_left _ (h)))), hg⟩
theorem am_m4 {x : Cond} (i : Nat) (h : tables_1_4[i]? = some x) (hg : goodWord x = true) : x ∈ am_G := by
  have h := List.mem_of_getElem? h
  exact List.mem_filter.mpr ⟨List.mem_append_right _ (List.mem_append_right _ (List.mem_append_right _ (List.mem_append_right _ (List.mem_append_left _ (h))))), hg⟩
theorem am_m5 {x : Cond} (i : Nat) (h : tables_1_5[i]? = some x) (hg : goodWord x = true) : x ∈ am_G := by
  have h := List.mem_of_getElem? h
  exact List.mem_filter.mpr ⟨List.mem_append_right _ (List.mem_append_right _ (List.mem_append_right _ (List.mem_append_right _ (List.mem_append_right _ (List.mem_append_left _ (h)))))), hg⟩
theorem am_m6 {x : Cond} (i : Nat) (h : tables_1_6[i]? = some x) (hg : goodWord x = true) : x ∈ am_G := by
  have h := List.mem_of_getElem? h
  exact List.mem_filter.mpr ⟨List.mem_append_right _ (List.mem_append_right _ (List.mem_append_right _ (List.mem_append_right _ (List.mem_append_right _ (List.mem_append_right _ (List.mem_append_left _ (h))))))), hg⟩
theorem am_m7 {x : Cond} (i : Nat) (h : tables_1_7[i]? = some x) (hg : goodWord x = true) : x ∈ am_G := by
  have h := List.mem_of_getElem? h
  exact List.mem_filter.mpr ⟨List.mem_append_right _ (List.mem_append_right _ (List.mem_append_right _ (List.mem_append_right _ (List.mem_append_right _ (List.mem_append_right _ (List.mem_append_right _ (List.mem_append_left _ (h)))))))), hg⟩
theorem am_m8 {x : Cond} (i : Nat) (h : tables_1_8[i]? = some x) (hg : goodWord x = true) : x ∈ am_G := by
  have h := List.mem_of_getElem? h
  exact List.mem_filter.mpr ⟨List.mem_append_right _ (List.mem_append_right _ (List.mem_append_right _ (List.mem_append_right _ (List.mem_append_right _ (List.mem_append_right _ (List.mem_append_right _ (List.mem_append_right _ (List.mem_append_left _ (h))))))))), hg⟩
theorem am_m9 {x : Cond} (i : Nat) (h : tables_1_9[i]? = some x) (hg : goodWord x = true) : x ∈ am_G := by
  have h := List.mem_of_getElem? h
  exact List.mem_filter.mpr ⟨List.mem_append_right _ (List.mem_append_right _ (List.mem_append_right _ (List.mem_append_right _ (List.mem_append_right _ (List.mem_append_right _ (List.mem_append_right _ (List.mem_append_right _ (List.mem_append_right _ (List.mem_append_left _ (h)))))))))), hg⟩
theorem am_m10 {x : Cond} (i : Nat) (h : tables_1_10[i]? = some x) (hg : goodWord x = true) : x ∈ am_G := by
  have h := List.mem_of_getElem? h
  exact List.mem_filter.mpr ⟨List.mem_append_right _ (List.mem_append_right _ (List.mem_append_right _ (List.mem_append_right _ (List.mem_append_right _ (List.mem_append_right _ (List.mem_append_right _ (List.mem_append_right _ (List.mem_append_right _ (List.mem_append_right _ (List.mem_append_left _ (h))))))))))), hg⟩
theorem am_m11 {x : Cond} (i : Nat) (h : tables_1_11[i]? = some x) (hg : goodWord x = true) : x ∈ am_G := by
  have h := List.mem_of_getElem? h
  exact List.mem_filter.mpr ⟨List.mem_append_right _ (List.mem_append_right _ (List.mem_append_right _ (List.mem_append_right _ (List.mem_append_right _ (List.mem_append_right _ (List.mem_append_right _ (List.mem_append_right _ (List.mem_append_right _ (List.mem_append_right _ (List.mem_append_right _ (h))))))))))), hg⟩
theorem am_mp1 {x : Cond} (i : Nat) (h : (k2_sels lw_privs_1)[i]? = some x) (hg : goodWord x = true) : x ∈ am_G := by
  have h := List.mem_of_getElem? h
  obtain ⟨q, h, e⟩ := List.mem_map.mp h
  exact List.mem_filter.mpr ⟨List.mem_append_left _ (List.mem_map.mpr ⟨q, List.mem_append_left _ (h), e⟩), hg⟩
theorem am_mp2 {x : Cond} (i : Nat) (h : (k2_sels lw_privs_2)[i]? = some x) (hg : goodWord x = true) : x ∈ am_G := by
  have h := List.mem_of_getElem? h
  obtain ⟨q, h, e⟩ := List.mem_map.mp h
  exact List.mem_filter.mpr ⟨List.mem_append_left _ (List.mem_map.mpr ⟨q, List.mem_append_right _ (List.mem_append_left _ (h)), e⟩), hg⟩
theorem am_mp3 {x : Cond} (i : Nat) (h : (k2_sels lw_privs_3)[i]? = some x) (hg : goodWord x = true) : x ∈ am_G := by
  have h := List.mem_of_getElem? h
  obtain ⟨q, h, e⟩ := List.mem_map.mp h
  exact List.mem_filter.mpr ⟨List.mem_append_left _ (List.mem_map.mpr ⟨q, List.mem_append_right _ (List.mem_append_right _ (List.mem_append_left _ (h))), e⟩), hg⟩
theorem am_mp4 {x : Cond} (i : Nat) (h : (k2_sels lw_privs_4)[i]? = some x) (hg : goodWord x = true) : x ∈ am_G := by
  have h := List.mem_of_getElem? h
  obtain ⟨q, h, e⟩ := List.mem_map.mp h
  exact List.mem_filter.mpr ⟨List.mem_append_left _ (List.mem_map.mpr ⟨q, List.mem_append_right _ (List.mem_append_right _ (List.mem_append_right _ (List.mem_append_left _ (h)))), e⟩), hg⟩
theorem am_mp5 {x : Cond} (i : Nat) (h : (k2_sels lw_privs_5)[i]? = some x) (hg : goodWord x = true) : x ∈ am_G := by
  have h := List.mem_of_getElem? h
  obtain ⟨q, h, e⟩ := List.mem_map.mp h
  exact List.mem_filter.mpr ⟨List.mem_append_left _ (List.mem_map.mpr ⟨q, List.mem_append_right _ (List.mem_append_right _ (List.mem_append_right _ (List.mem_append_right _ (List.mem_append_left _ (h))))), e⟩), hg⟩
theorem am_mp6 {x : Cond} (i : Nat) (h : (k2_sels lw_privs_6)[i]? = some x) (hg : goodWord x = true) : x ∈ am_G := by
  have h := List.mem_of_getElem? h
  obtain ⟨q, h, e⟩ := List.mem_map.mp h
  exact List.mem_filter.mpr ⟨List.mem_append_left _ (List.mem_map.mpr ⟨q, List.mem_append_right _ (List.mem_append_right _ (List.mem_append_right _ (List.mem_append_right _ (List.mem_append_right _ (List.mem_append_left _ (h)))))), e⟩), hg⟩
theorem am_mp7 {x : Cond} (i : Nat) (h : (k2_sels lw_privs_7)[i]? = some x) (hg : goodWord x = true) : x ∈ am_G := by
  have h := List.mem_of_getElem? h
  obtain ⟨q, h, e⟩ := List.mem_map.mp h
  exact List.mem_filter.mpr ⟨List.mem_append_left _ (List.mem_map.mpr ⟨q, List.mem_append_right _ (List.mem_append_right _ (List.mem_append_right _ (List.mem_append_right _ (List.mem_append_right _ (List.mem_append_right _ (List.mem_append_left _ (h))))))), e⟩), hg⟩
theorem am_mp8 {x : Cond} (i : Nat) (h : (k2_sels lw_privs_8)[i]? = some x) (hg : goodWord x = true) : x ∈ am_G := by
  have h := List.mem_of_getElem? h
  obtain ⟨q, h, e⟩ := List.mem_map.mp h
  exact List.mem_filter.mpr ⟨List.mem_append_left _ (List.mem_map.mpr ⟨q, List.mem_append_right _ (List.mem_append_right _ (List.mem_append_right _ (List.mem_append_right _ (List.mem_append_right _ (List.mem_append_right _ (List.mem_append_right _ (List.mem_append_left _ (h)))))))), e⟩), hg⟩
theorem am_mp9 {x : Cond} (i : Nat) (h : (k2_sels lw_privs_9)[i]? = some x) (hg : goodWord x = true) : x ∈ am_G := by
  have h := List.mem_of_getElem? h
  obtain ⟨q, h, e⟩ := List.mem_map.mp h
  exact List.mem_filter.mpr ⟨List.mem_append_left _ (List.mem_map.mpr ⟨q, List.mem_append_right _ (List.mem_append_right _ (List.mem_append_right _ (List.mem_append_right _ (List.mem_append_right _ (List.mem_append_right _ (List.mem_append_right _ (List.mem_append_right _ (List.mem_append_left _ (h))))))))), e⟩), hg⟩
theorem am_mp10 {x : Cond} (i : Nat) (h : (k2_sels lw_privs_10)[i]? = some x) (hg : goodWord x = true) : x ∈ am_G := by
  have h := List.mem_of_getElem? h
  obtain ⟨q, h, e⟩ := List.mem_map.mp h
  exact List.mem_filter.mpr ⟨List.mem_append_left _ (List.mem_map.mpr ⟨q, List.mem_append_right _ (List.mem_append_right _ (List.mem_append_right _ (List.mem_append_right _ (List.mem_append_right _ (List.mem_append_right _ (List.mem_append_right _ (List.mem_append_right _ (List.mem_append_right _ (h))))))))), e⟩), hg⟩
abbrev zX0_init : am_Z := (RX0, yX0_init, cX0_init, 1, none, [])
abbrev zX0_sendAllAway : am_Z := (RX0, yX0_sendAllAway, cX0_sendAllAway, 2, none, [])
abbrev zX0_nextUp : am_Z := (RX0, yX0_nextUp, cX0_nextUp, 3, (some .int), [])
abbrev zX0_sell : am_Z := (RX0, yX0_sell, cX0_sell, 8, none, [])
abbrev zX0_got : am_Z := (RX0, yX0_got, cX0_got, 2, (some .int), [])
abbrev zX0_paid : am_Z := (RX0, yX0_paid, cX0_paid, 2, (some .int), [])
abbrev zX0_priceOf : am_Z := (RX0, yX0_priceOf, cX0_priceOf, 4, (some .int), [])
abbrev zX0_takings : am_Z := (RX0, yX0_takings, cX0_takings, 5, (some .int), [])
abbrev zX0_wantedFor : am_Z := (RX0, yX0_wantedFor, cX0_wantedFor, 5, (some .int), [])
abbrev zX0_open : am_Z := (RX0, yX0_open, cX0_open, 5, none, [])
abbrev zX0_countBids : am_Z := (RX0, yX0_countBids, cX0_countBids, 3, none, [])
abbrev zX0_look : am_Z := (RX0, yX0_look, cX0_look, 3, none, [])
abbrev zX0_isLetIn : am_Z := (RX0, yX0_isLetIn, cX0_isLetIn, 2, (some .boolean), [])
abbrev zX0_standing : am_Z := (RX0, yX0_standing, cX0_standing, 2, (some .int), [])
abbrev zX0_sellByRule : am_Z := (RX0, yX0_sellByRule, cX0_sellByRule, 5, none, [])
abbrev zX0_serve : am_Z := (RX0, yX0_serve, cX0_serve, 5, none, [])
abbrev zX1_init : am_Z := (RX1, yX1_init, cX1_init, 1, none, [])
abbrev zX1_isRight : am_Z := (RX1, yX1_isRight, cX1_isRight, 3, (some .boolean), [])
abbrev zX1_lastStep : am_Z := (RX1, yX1_lastStep, cX1_lastStep, 3, (some .int), [])
abbrev zX1_areRight : am_Z := (RX1, yX1_areRight, cX1_areRight, 3, (some .boolean), [])
abbrev zX1_areRightIn : am_Z := (RX1, yX1_areRightIn, cX1_areRightIn, 4, (some .boolean), [])
abbrev zX1_seek : am_Z := (RX1, yX1_seek, cX1_seek, 7, none, [])
abbrev zX1_lookWithout : am_Z := (RX1, yX1_lookWithout, cX1_lookWithout, 4, none, [])
abbrev zX1_keep : am_Z := (RX1, yX1_keep, cX1_keep, 3, none, [])
abbrev zX1_fits : am_Z := (RX1, yX1_fits, cX1_fits, 7, (some .boolean), [])
abbrev zX2_init : am_Z := (RX2, yX2_init, cX2_init, 1, none, [])
abbrev zX2_fogBetween : am_Z := (RX2, yX2_fogBetween, cX2_fogBetween, 11, (some .int), [])
abbrev zX2_isClear : am_Z := (RX2, yX2_isClear, cX2_isClear, 5, (some .boolean), [])
abbrev zX2_seeEachOther : am_Z := (RX2, yX2_seeEachOther, cX2_seeEachOther, 5, (some .boolean), [])
abbrev zX2_watchesOn : am_Z := (RX2, yX2_watchesOn, cX2_watchesOn, 6, (some .int), [])
abbrev zX2_watchesEver : am_Z := (RX2, yX2_watchesEver, cX2_watchesEver, 4, (some .int), [])
abbrev zX2_walkersOn : am_Z := (RX2, yX2_walkersOn, cX2_walkersOn, 6, (some .int), [])
abbrev zX2_isHid : am_Z := (RX2, yX2_isHid, cX2_isHid, 4, (some .boolean), [])
abbrev zX2_needOn : am_Z := (RX2, yX2_needOn, cX2_needOn, 7, (some .int), [])
abbrev zX2_leastFor : am_Z := (RX2, yX2_leastFor, cX2_leastFor, 6, (some .int), [])
abbrev zX2_cheapest : am_Z := (RX2, yX2_cheapest, cX2_cheapest, 7, (some .int), [])
abbrev zX2_moveOn : am_Z := (RX2, yX2_moveOn, cX2_moveOn, 8, none, [])
abbrev zX2_before : am_Z := (RX2, yX2_before, cX2_before, 5, (some .int), [])
abbrev zX3_init : am_Z := (RX3, yX3_init, cX3_init, 1, none, [])
abbrev zX3_reset : am_Z := (RX3, yX3_reset, cX3_reset, 1, none, [])
abbrev zX3_has : am_Z := (RX3, yX3_has, cX3_has, 3, (some .boolean), [])
abbrev zX3_lotOn : am_Z := (RX3, yX3_lotOn, cX3_lotOn, 2, (some .int), [])
abbrev zX3_giveTo : am_Z := (RX3, yX3_giveTo, cX3_giveTo, 3, none, [])
abbrev zX3_floorOf : am_Z := (RX3, yX3_floorOf, cX3_floorOf, 2, (some .int), [])
abbrev zX3_pathAt : am_Z := (RX3, yX3_pathAt, cX3_pathAt, 4, (some .int), [])
abbrev zX3_putPath : am_Z := (RX3, yX3_putPath, cX3_putPath, 4, none, [])
abbrev zX3_comes : am_Z := (RX3, yX3_comes, cX3_comes, 2, (some .int), [])
abbrev zX3_movesOf : am_Z := (RX3, yX3_movesOf, cX3_movesOf, 2, (some .int), [])
abbrev zX3_leaves : am_Z := (RX3, yX3_leaves, cX3_leaves, 2, (some .int), [])
abbrev zX3_cellOf : am_Z := (RX3, yX3_cellOf, cX3_cellOf, 4, (some .int), [])
abbrev zX4_init : am_Z := (RX4, yX4_init, cX4_init, 1, none, [])
abbrev zX4_take : am_Z := (RX4, yX4_take, cX4_take, 4, none, [])
abbrev zX4_give : am_Z := (RX4, yX4_give, cX4_give, 4, none, [])
abbrev zX5_init : am_Z := (RX5, yX5_init, cX5_init, 2, none, [])
abbrev zX5_readInto : am_Z := (RX5, yX5_readInto, cX5_readInto, 3, none, [])
abbrev zX5_readClause : am_Z := (RX5, yX5_readClause, cX5_readClause, 3, none, [])
abbrev zX5_clauseKind : am_Z := (RX5, yX5_clauseKind, cX5_clauseKind, 1, (some .int), [])
abbrev zX5_readPort : am_Z := (RX5, yX5_readPort, cX5_readPort, 3, none, [])
abbrev zX5_needRoom : am_Z := (RX5, yX5_needRoom, cX5_needRoom, 2, none, [])
abbrev zX5_addIfFine : am_Z := (RX5, yX5_addIfFine, cX5_addIfFine, 5, none, [])
abbrev zX5_readStep : am_Z := (RX5, yX5_readStep, cX5_readStep, 1, (some .int), [])
abbrev zX5_readCell : am_Z := (RX5, yX5_readCell, cX5_readCell, 3, (some .int), [])
abbrev zX5_readBlock : am_Z := (RX5, yX5_readBlock, cX5_readBlock, 1, none, [])
abbrev zX5_readBank : am_Z := (RX5, yX5_readBank, cX5_readBank, 5, none, [])
abbrev zX5_readWind : am_Z := (RX5, yX5_readWind, cX5_readWind, 5, none, [])
abbrev zX5_readThin : am_Z := (RX5, yX5_readThin, cX5_readThin, 3, none, [])
abbrev zX5_readLamp : am_Z := (RX5, yX5_readLamp, cX5_readLamp, 3, none, [])
abbrev zX5_readSteamer : am_Z := (RX5, yX5_readSteamer, cX5_readSteamer, 3, none, [])
abbrev zX5_readLot : am_Z := (RX5, yX5_readLot, cX5_readLot, 3, none, [])
abbrev zX5_blockIsOwned : am_Z := (RX5, yX5_blockIsOwned, cX5_blockIsOwned, 3, (some .boolean), [])
abbrev zX5_ownBlock : am_Z := (RX5, yX5_ownBlock, cX5_ownBlock, 3, none, [])
abbrev zX5_readWalk : am_Z := (RX5, yX5_readWalk, cX5_readWalk, 4, none, [])
abbrev zX5_walksInPort : am_Z := (RX5, yX5_walksInPort, cX5_walksInPort, 8, (some .boolean), [])
abbrev zX5_readWatch : am_Z := (RX5, yX5_readWatch, cX5_readWatch, 2, none, [])
abbrev zX5_readSight : am_Z := (RX5, yX5_readSight, cX5_readSight, 2, none, [])
abbrev zX5_readShip : am_Z := (RX5, yX5_readShip, cX5_readShip, 3, none, [])
abbrev zX6_init : am_Z := (RX6, yX6_init, cX6_init, 2, none, [])
abbrev zX6_begin : am_Z := (RX6, yX6_begin, cX6_begin, 2, none, [])
abbrev zX6_fine : am_Z := (RX6, yX6_fine, cX6_fine, 1, (some .boolean), [])
abbrev zX6_wrong : am_Z := (RX6, yX6_wrong, cX6_wrong, 3, none, [])
abbrev zX6_byteAt : am_Z := (RX6, yX6_byteAt, cX6_byteAt, 2, (some .int), [])
abbrev zX6_peek : am_Z := (RX6, yX6_peek, cX6_peek, 1, (some .int), [])
abbrev zX6_isDigit : am_Z := (RX6, yX6_isDigit, cX6_isDigit, 1, (some .boolean), [])
abbrev zX6_isLetter : am_Z := (RX6, yX6_isLetter, cX6_isLetter, 1, (some .boolean), [])
abbrev zX6_number : am_Z := (RX6, yX6_number, cX6_number, 5, (some .int), [])
abbrev zX6_word : am_Z := (RX6, yX6_word, cX6_word, 2, (some .int), [])
abbrev zX6_isWord : am_Z := (RX6, yX6_isWord, cX6_isWord, 3, (some .boolean), [])
abbrev zX6_takesWord : am_Z := (RX6, yX6_takesWord, cX6_takesWord, 2, (some .boolean), [])
abbrev zX6_takesSign : am_Z := (RX6, yX6_takesSign, cX6_takesSign, 2, (some .boolean), [])
abbrev zX6_needSign : am_Z := (RX6, yX6_needSign, cX6_needSign, 2, none, [])
abbrev zX7_init : am_Z := (RX7, yX7_init, cX7_init, 1, none, [])
abbrev zX7_reset : am_Z := (RX7, yX7_reset, cX7_reset, 1, none, [])
abbrev zX7_put : am_Z := (RX7, yX7_put, cX7_put, 2, none, [])
abbrev zX7_endPart : am_Z := (RX7, yX7_endPart, cX7_endPart, 2, none, [])
abbrev zX7_lastOf : am_Z := (RX7, yX7_lastOf, cX7_lastOf, 3, (some .int), [])
abbrev zX7_tells : am_Z := (RX7, yX7_tells, cX7_tells, 5, (some .int), [])
abbrev zX7_lets : am_Z := (RX7, yX7_lets, cX7_lets, 3, (some .boolean), [])
abbrev zX7_value : am_Z := (RX7, yX7_value, cX7_value, 8, (some .int), [])
abbrev zX7_factOf : am_Z := (RX7, yX7_factOf, cX7_factOf, 2, (some .int), [])
abbrev zX7_top : am_Z := (RX7, yX7_top, cX7_top, 2, (some .int), [])
abbrev zX7_push : am_Z := (RX7, yX7_push, cX7_push, 3, none, [])
abbrev zX7_done : am_Z := (RX7, yX7_done, cX7_done, 3, (some .int), [])
abbrev zX8_init : am_Z := (RX8, yX8_init, cX8_init, 2, none, [])
abbrev zX8_readInto : am_Z := (RX8, yX8_readInto, cX8_readInto, 3, none, [])
abbrev zX8_readPart : am_Z := (RX8, yX8_readPart, cX8_readPart, 3, none, [])
abbrev zX8_partKind : am_Z := (RX8, yX8_partKind, cX8_partKind, 1, (some .int), [])
abbrev zX8_mayOpen : am_Z := (RX8, yX8_mayOpen, cX8_mayOpen, 2, (some .boolean), [])
abbrev zX8_readChoice : am_Z := (RX8, yX8_readChoice, cX8_readChoice, 3, none, [])
abbrev zX8_readBoth : am_Z := (RX8, yX8_readBoth, cX8_readBoth, 3, none, [])
abbrev zX8_readTest : am_Z := (RX8, yX8_readTest, cX8_readTest, 3, none, [])
abbrev zX8_readRelation : am_Z := (RX8, yX8_readRelation, cX8_readRelation, 1, (some .int), [])
abbrev zX8_readSum : am_Z := (RX8, yX8_readSum, cX8_readSum, 3, none, [])
abbrev zX8_readProduct : am_Z := (RX8, yX8_readProduct, cX8_readProduct, 3, none, [])
abbrev zX8_readUnit : am_Z := (RX8, yX8_readUnit, cX8_readUnit, 3, none, [])
abbrev zX8_readFact : am_Z := (RX8, yX8_readFact, cX8_readFact, 1, (some .int), [])
abbrev zX9_init : am_Z := (RX9, yX9_init, cX9_init, 2, none, [])
abbrev zX9_begin : am_Z := (RX9, yX9_begin, cX9_begin, 2, none, [])
abbrev zX9_inDoubt : am_Z := (RX9, yX9_inDoubt, cX9_inDoubt, 3, none, [])
abbrev zX9_withLamp : am_Z := (RX9, yX9_withLamp, cX9_withLamp, 3, none, [])
abbrev zX9_duel : am_Z := (RX9, yX9_duel, cX9_duel, 5, none, [])
abbrev zX9_upTo : am_Z := (RX9, yX9_upTo, cX9_upTo, 3, none, [])
abbrev zX9_goOn : am_Z := (RX9, yX9_goOn, cX9_goOn, 3, none, [])
abbrev zX9_draws : am_Z := (RX9, yX9_draws, cX9_draws, 1, (some .boolean), [])
abbrev zX9_blow : am_Z := (RX9, yX9_blow, cX9_blow, 9, none, [])
abbrev zX9_carry : am_Z := (RX9, yX9_carry, cX9_carry, 11, none, [])
abbrev zX9_mixAll : am_Z := (RX9, yX9_mixAll, cX9_mixAll, 3, none, [])
abbrev zX9_mix : am_Z := (RX9, yX9_mix, cX9_mix, 8, none, [])
abbrev zX9_nearTo : am_Z := (RX9, yX9_nearTo, cX9_nearTo, 6, (some .int), [])
abbrev zX9_spill : am_Z := (RX9, yX9_spill, cX9_spill, 3, none, [])
abbrev zX9_burnAll : am_Z := (RX9, yX9_burnAll, cX9_burnAll, 4, none, [])
abbrev zX9_burn : am_Z := (RX9, yX9_burn, cX9_burn, 9, none, [])
abbrev zX9_thinOut : am_Z := (RX9, yX9_thinOut, cX9_thinOut, 6, none, [])
abbrev zX9_addUp : am_Z := (RX9, yX9_addUp, cX9_addUp, 4, none, [])
abbrev zX9_isStep : am_Z := (RX9, yX9_isStep, cX9_isStep, 1, (some .boolean), [])
abbrev zX9_fogOn : am_Z := (RX9, yX9_fogOn, cX9_fogOn, 3, (some .int), [])
abbrev zX9_sumOf : am_Z := (RX9, yX9_sumOf, cX9_sumOf, 3, (some .int), [])
abbrev zX9_movedIn : am_Z := (RX9, yX9_movedIn, cX9_movedIn, 2, (some .int), [])
abbrev zX9_ledTo : am_Z := (RX9, yX9_ledTo, cX9_ledTo, 3, (some .int), [])
abbrev zX9_burntOn : am_Z := (RX9, yX9_burntOn, cX9_burntOn, 4, (some .int), [])
abbrev zX9_leaked : am_Z := (RX9, yX9_leaked, cX9_leaked, 4, (some .int), [])
abbrev zX9_damages : am_Z := (RX9, yX9_damages, cX9_damages, 3, (some .int), [])
abbrev zX9_inLot : am_Z := (RX9, yX9_inLot, cX9_inLot, 6, (some .int), [])
abbrev zX9_letsIn : am_Z := (RX9, yX9_letsIn, cX9_letsIn, 4, (some .boolean), [])
abbrev zX9_standsAs : am_Z := (RX9, yX9_standsAs, cX9_standsAs, 5, (some .boolean), [])
abbrev zX10_init : am_Z := (RX10, yX10_init, cX10_init, 2, none, [])
abbrev zX10_full : am_Z := (RX10, yX10_full, cX10_full, 1, (some .boolean), [])
abbrev zX10_has : am_Z := (RX10, yX10_has, cX10_has, 2, (some .boolean), [])
abbrev zX10_at : am_Z := (RX10, yX10_at, cX10_at, 4, (some .int), [])
abbrev zX10_add : am_Z := (RX10, yX10_add, cX10_add, 6, none, [])
abbrev zX10_latest : am_Z := (RX10, yX10_latest, cX10_latest, 5, (some .int), [])
abbrev zX10_takeFrom : am_Z := (RX10, yX10_takeFrom, cX10_takeFrom, 2, none, [])
abbrev zX11_init : am_Z := (RX11, yX11_init, cX11_init, 2, none, [])
abbrev zX11_feed : am_Z := (RX11, yX11_feed, cX11_feed, 6, (some .int), [])
abbrev zX11_tapeNumber : am_Z := (RX11, yX11_tapeNumber, cX11_tapeNumber, 3, none, [])
abbrev zX11_port : am_Z := (RX11, yX11_port, cX11_port, 3, (some .int), [])
abbrev zX11_fault : am_Z := (RX11, yX11_fault, cX11_fault, 1, (some .int), [])
abbrev zX11_told : am_Z := (RX11, yX11_told, cX11_told, 2, (some .int), [])
abbrev zX11_fog : am_Z := (RX11, yX11_fog, cX11_fog, 4, (some .int), [])
abbrev zX11_sums : am_Z := (RX11, yX11_sums, cX11_sums, 3, (some .int), [])
abbrev zX11_set : am_Z := (RX11, yX11_set, cX11_set, 6, (some .int), [])
abbrev zX11_led : am_Z := (RX11, yX11_led, cX11_led, 3, (some .int), [])
abbrev zX11_whose : am_Z := (RX11, yX11_whose, cX11_whose, 7, (some .int), [])
abbrev zX11_calm : am_Z := (RX11, yX11_calm, cX11_calm, 3, (some .int), [])
abbrev zX11_thick : am_Z := (RX11, yX11_thick, cX11_thick, 7, (some .int), [])
abbrev zX11_doubt : am_Z := (RX11, yX11_doubt, cX11_doubt, 6, (some .int), [])
abbrev zX11_line : am_Z := (RX11, yX11_line, cX11_line, 6, (some .int), [])
abbrev zX11_where : am_Z := (RX11, yX11_where, cX11_where, 3, (some .int), [])
abbrev zX11_sees : am_Z := (RX11, yX11_sees, cX11_sees, 4, (some .boolean), [])
abbrev zX11_often : am_Z := (RX11, yX11_often, cX11_often, 5, (some .int), [])
abbrev zX11_seen : am_Z := (RX11, yX11_seen, cX11_seen, 3, (some .int), [])
abbrev zX11_could : am_Z := (RX11, yX11_could, cX11_could, 4, (some .int), [])
abbrev zX11_witnesses : am_Z := (RX11, yX11_witnesses, cX11_witnesses, 10, (some .int), [])
abbrev zX11_hid : am_Z := (RX11, yX11_hid, cX11_hid, 4, (some .int), [])
abbrev zX11_guards : am_Z := (RX11, yX11_guards, cX11_guards, 4, (some .int), [])
abbrev zX11_guardsAll : am_Z := (RX11, yX11_guardsAll, cX11_guardsAll, 4, (some .boolean), [])
abbrev zX11_meet : am_Z := (RX11, yX11_meet, cX11_meet, 5, (some .int), [])
abbrev zX11_buy : am_Z := (RX11, yX11_buy, cX11_buy, 4, (some .int), [])
abbrev zX11_floorsOn : am_Z := (RX11, yX11_floorsOn, cX11_floorsOn, 5, (some .int), [])
abbrev zX11_way : am_Z := (RX11, yX11_way, cX11_way, 5, (some .int), [])
abbrev zX11_start : am_Z := (RX11, yX11_start, cX11_start, 7, (some .int), [])
abbrev zX11_span : am_Z := (RX11, yX11_span, cX11_span, 6, (some .int), [])
abbrev zX11_enough : am_Z := (RX11, yX11_enough, cX11_enough, 8, (some .int), [])
abbrev zX11_sure : am_Z := (RX11, yX11_sure, cX11_sure, 6, (some .int), [])
abbrev zX11_tallySeeds : am_Z := (RX11, yX11_tallySeeds, cX11_tallySeeds, 8, none, [])
abbrev zX11_tallied : am_Z := (RX11, yX11_tallied, cX11_tallied, 4, (some .int), [])
abbrev zX11_lot : am_Z := (RX11, yX11_lot, cX11_lot, 3, (some .int), [])
abbrev zX11_yards : am_Z := (RX11, yX11_yards, cX11_yards, 3, (some .int), [])
abbrev zX11_leaks : am_Z := (RX11, yX11_leaks, cX11_leaks, 4, (some .int), [])
abbrev zX11_net : am_Z := (RX11, yX11_net, cX11_net, 4, (some .int), [])
abbrev zX11_worthless : am_Z := (RX11, yX11_worthless, cX11_worthless, 4, (some .int), [])
abbrev zX11_bid : am_Z := (RX11, yX11_bid, cX11_bid, 4, (some .int), [])
abbrev zX11_gets : am_Z := (RX11, yX11_gets, cX11_gets, 5, (some .int), [])
abbrev zX11_sold : am_Z := (RX11, yX11_sold, cX11_sold, 4, (some .int), [])
abbrev zX11_takings : am_Z := (RX11, yX11_takings, cX11_takings, 5, (some .int), [])
abbrev zX11_when : am_Z := (RX11, yX11_when, cX11_when, 7, (some .int), [])
abbrev zX11_asked : am_Z := (RX11, yX11_asked, cX11_asked, 9, (some .int), [])
abbrev zX11_clock : am_Z := (RX11, yX11_clock, cX11_clock, 7, (some .int), [])
abbrev zX11_rule : am_Z := (RX11, yX11_rule, cX11_rule, 3, (some .int), [])
abbrev zX11_let : am_Z := (RX11, yX11_let, cX11_let, 4, (some .int), [])
abbrev zX11_ruled : am_Z := (RX11, yX11_ruled, cX11_ruled, 4, (some .int), [])
abbrev zX11_brings : am_Z := (RX11, yX11_brings, cX11_brings, 7, (some .int), [])
abbrev zX11_sellByRule : am_Z := (RX11, yX11_sellByRule, cX11_sellByRule, 3, none, [])
abbrev zX11_tellAuction : am_Z := (RX11, yX11_tellAuction, cX11_tellAuction, 3, none, [])
abbrev zX11_ship : am_Z := (RX11, yX11_ship, cX11_ship, 2, (some .int), [])
abbrev zX11_firstClear : am_Z := (RX11, yX11_firstClear, cX11_firstClear, 5, (some .int), [])
abbrev zX11_light : am_Z := (RX11, yX11_light, cX11_light, 9, (some .int), [])
abbrev zX11_gauge : am_Z := (RX11, yX11_gauge, cX11_gauge, 5, (some .int), [])
abbrev zX11_right : am_Z := (RX11, yX11_right, cX11_right, 1, (some .boolean), [])
abbrev zX11_found : am_Z := (RX11, yX11_found, cX11_found, 2, (some .int), [])
abbrev zX11_clear : am_Z := (RX11, yX11_clear, cX11_clear, 2, (some .int), [])
abbrev zX11_image : am_Z := (RX11, yX11_image, cX11_image, 1, (some .int), [])
abbrev zX11_restore : am_Z := (RX11, yX11_restore, cX11_restore, 1, (some .int), [])
abbrev zX11_status : am_Z := (RX11, yX11_status, cX11_status, 2, (some .int), [])
abbrev zX11_count : am_Z := (RX11, yX11_count, cX11_count, 2, (some .int), [])
abbrev zX11_beginAgain : am_Z := (RX11, yX11_beginAgain, cX11_beginAgain, 1, none, [])
abbrev zX11_needCell : am_Z := (RX11, yX11_needCell, cX11_needCell, 3, none, [])
abbrev zX11_needCode : am_Z := (RX11, yX11_needCode, cX11_needCode, 2, none, [])
abbrev zX11_needRow : am_Z := (RX11, yX11_needRow, cX11_needRow, 3, none, [])
abbrev zX11_needTwo : am_Z := (RX11, yX11_needTwo, cX11_needTwo, 4, none, [])
abbrev zX11_needRange : am_Z := (RX11, yX11_needRange, cX11_needRange, 4, none, [])
abbrev zX11_needStep : am_Z := (RX11, yX11_needStep, cX11_needStep, 2, none, [])
abbrev zX11_needSeeds : am_Z := (RX11, yX11_needSeeds, cX11_needSeeds, 3, none, [])
abbrev zX12_init : am_Z := (RX12, yX12_init, cX12_init, 1, none, [])
abbrev zX12_tellsNothing : am_Z := (RX12, yX12_tellsNothing, cX12_tellsNothing, 2, none, [])
abbrev zX12_thrown : am_Z := (RX12, yX12_thrown, cX12_thrown, 1, (some .int), [])
abbrev zX12_bad : am_Z := (RX12, yX12_bad, cX12_bad, 4, (some .boolean), [])
abbrev zX12_in : am_Z := (RX12, yX12_in, cX12_in, 3, (some .boolean), [])
abbrev zX12_less : am_Z := (RX12, yX12_less, cX12_less, 2, (some .int), [])
abbrev zX12_feed : am_Z := (RX12, yX12_feed, cX12_feed, 8, (some .int), [])
abbrev zX12_byteAt : am_Z := (RX12, yX12_byteAt, cX12_byteAt, 2, (some .int), [])
abbrev zX12_blanks : am_Z := (RX12, yX12_blanks, cX12_blanks, 1, none, [])
abbrev zX12_wrong : am_Z := (RX12, yX12_wrong, cX12_wrong, 3, none, [])
abbrev zX12_isDigit : am_Z := (RX12, yX12_isDigit, cX12_isDigit, 1, (some .boolean), [])
abbrev zX12_isSmall : am_Z := (RX12, yX12_isSmall, cX12_isSmall, 1, (some .boolean), [])
abbrev zX12_number : am_Z := (RX12, yX12_number, cX12_number, 5, (some .int), [])
abbrev zX12_wordHere : am_Z := (RX12, yX12_wordHere, cX12_wordHere, 4, (some .long), [])
abbrev zX12_seven : am_Z := (RX12, yX12_seven, cX12_seven, 9, (some .long), [])
abbrev zX12_isWord : am_Z := (RX12, yX12_isWord, cX12_isWord, 8, (some .boolean), [])
abbrev zX12_skipWord : am_Z := (RX12, yX12_skipWord, cX12_skipWord, 1, none, [])
abbrev zX12_takes : am_Z := (RX12, yX12_takes, cX12_takes, 9, (some .boolean), [])
abbrev zX12_sign : am_Z := (RX12, yX12_sign, cX12_sign, 2, none, [])
abbrev zX12_takesSign : am_Z := (RX12, yX12_takesSign, cX12_takesSign, 3, (some .boolean), [])
abbrev zX12_starts : am_Z := (RX12, yX12_starts, cX12_starts, 2, none, [])
abbrev zX12_kindHere : am_Z := (RX12, yX12_kindHere, cX12_kindHere, 1, (some .int), [])
abbrev zX12_isFull : am_Z := (RX12, yX12_isFull, cX12_isFull, 2, (some .boolean), [])
abbrev zX12_acrossHere : am_Z := (RX12, yX12_acrossHere, cX12_acrossHere, 1, (some .int), [])
abbrev zX12_downHere : am_Z := (RX12, yX12_downHere, cX12_downHere, 1, (some .int), [])
abbrev zX12_clause : am_Z := (RX12, yX12_clause, cX12_clause, 3, none, [])
abbrev zX12_fogHere : am_Z := (RX12, yX12_fogHere, cX12_fogHere, 8, none, [])
abbrev zX12_lotHere : am_Z := (RX12, yX12_lotHere, cX12_lotHere, 5, none, [])
abbrev zX12_goesBy : am_Z := (RX12, yX12_goesBy, cX12_goesBy, 2, (some .int), [])
abbrev zX12_walkHere : am_Z := (RX12, yX12_walkHere, cX12_walkHere, 8, none, [])
abbrev zX12_windHere : am_Z := (RX12, yX12_windHere, cX12_windHere, 6, none, [])
abbrev zX12_thinHere : am_Z := (RX12, yX12_thinHere, cX12_thinHere, 4, none, [])
abbrev zX12_port : am_Z := (RX12, yX12_port, cX12_port, 2, (some .int), [])
abbrev zX12_copies : am_Z := (RX12, yX12_copies, cX12_copies, 5, none, [])
abbrev zX12_stands : am_Z := (RX12, yX12_stands, cX12_stands, 2, none, [])
abbrev zX12_fault : am_Z := (RX12, yX12_fault, cX12_fault, 1, (some .int), [])
abbrev zX12_told : am_Z := (RX12, yX12_told, cX12_told, 2, (some .int), [])
abbrev zX12_cell : am_Z := (RX12, yX12_cell, cX12_cell, 2, (some .int), [])
abbrev zX12_isIn : am_Z := (RX12, yX12_isIn, cX12_isIn, 3, (some .boolean), [])
abbrev zX12_windAt : am_Z := (RX12, yX12_windAt, cX12_windAt, 4, (some .int), [])
abbrev zX12_thinAt : am_Z := (RX12, yX12_thinAt, cX12_thinAt, 4, (some .int), [])
abbrev zX12_lotOf : am_Z := (RX12, yX12_lotOf, cX12_lotOf, 4, (some .int), [])
abbrev zX12_turned : am_Z := (RX12, yX12_turned, cX12_turned, 1, (some .int), [])
abbrev zX12_blows : am_Z := (RX12, yX12_blows, cX12_blows, 12, none, [])
abbrev zX12_mixes : am_Z := (RX12, yX12_mixes, cX12_mixes, 6, none, [])
abbrev zX12_burns : am_Z := (RX12, yX12_burns, cX12_burns, 6, none, [])
abbrev zX12_stepGoes : am_Z := (RX12, yX12_stepGoes, cX12_stepGoes, 5, none, [])
abbrev zX12_goes : am_Z := (RX12, yX12_goes, cX12_goes, 3, none, [])
abbrev zX12_goesInDoubt : am_Z := (RX12, yX12_goesInDoubt, cX12_goesInDoubt, 3, none, [])
abbrev zX12_isStep : am_Z := (RX12, yX12_isStep, cX12_isStep, 1, (some .boolean), [])
abbrev zX12_isFirst : am_Z := (RX12, yX12_isFirst, cX12_isFirst, 1, (some .boolean), [])
abbrev zX12_fog : am_Z := (RX12, yX12_fog, cX12_fog, 4, (some .int), [])
abbrev zX12_sums : am_Z := (RX12, yX12_sums, cX12_sums, 3, (some .int), [])
abbrev zX12_set : am_Z := (RX12, yX12_set, cX12_set, 5, (some .int), [])
abbrev zX12_led : am_Z := (RX12, yX12_led, cX12_led, 3, (some .int), [])
abbrev zX12_whose : am_Z := (RX12, yX12_whose, cX12_whose, 6, (some .int), [])
abbrev zX12_turnTo : am_Z := (RX12, yX12_turnTo, cX12_turnTo, 2, (some .int), [])
abbrev zX12_isLine : am_Z := (RX12, yX12_isLine, cX12_isLine, 6, (some .boolean), [])
abbrev zX12_lineOf : am_Z := (RX12, yX12_lineOf, cX12_lineOf, 11, (some .int), [])
abbrev zX12_seesBy : am_Z := (RX12, yX12_seesBy, cX12_seesBy, 7, (some .boolean), [])
abbrev zX12_line : am_Z := (RX12, yX12_line, cX12_line, 6, (some .int), [])
abbrev zX12_isWalker : am_Z := (RX12, yX12_isWalker, cX12_isWalker, 2, (some .boolean), [])
abbrev zX12_placeOf : am_Z := (RX12, yX12_placeOf, cX12_placeOf, 7, (some .int), [])
abbrev zX12_told10 : am_Z := (RX12, yX12_told10, cX12_told10, 1, (some .int), [])
abbrev zX12_where : am_Z := (RX12, yX12_where, cX12_where, 3, (some .int), [])
abbrev zX12_seesOne : am_Z := (RX12, yX12_seesOne, cX12_seesOne, 6, (some .boolean), [])
abbrev zX12_badTwo : am_Z := (RX12, yX12_badTwo, cX12_badTwo, 3, (some .boolean), [])
abbrev zX12_sees : am_Z := (RX12, yX12_sees, cX12_sees, 4, (some .boolean), [])
abbrev zX12_often : am_Z := (RX12, yX12_often, cX12_often, 5, (some .int), [])
abbrev zX12_seenOn : am_Z := (RX12, yX12_seenOn, cX12_seenOn, 5, (some .int), [])
abbrev zX12_seen : am_Z := (RX12, yX12_seen, cX12_seen, 3, (some .int), [])
abbrev zX12_couldSee : am_Z := (RX12, yX12_couldSee, cX12_couldSee, 7, (some .int), [])
abbrev zX12_could : am_Z := (RX12, yX12_could, cX12_could, 4, (some .int), [])
abbrev zX12_needs : am_Z := (RX12, yX12_needs, cX12_needs, 6, (some .int), [])
abbrev zX12_needsAll : am_Z := (RX12, yX12_needsAll, cX12_needsAll, 6, (some .int), [])
abbrev zX12_buy : am_Z := (RX12, yX12_buy, cX12_buy, 8, (some .int), [])
abbrev zX12_fromTold : am_Z := (RX12, yX12_fromTold, cX12_fromTold, 2, (some .int), [])
abbrev zX12_isCode : am_Z := (RX12, yX12_isCode, cX12_isCode, 2, (some .boolean), [])
abbrev zX12_steps : am_Z := (RX12, yX12_steps, cX12_steps, 8, none, [])
abbrev zX12_way : am_Z := (RX12, yX12_way, cX12_way, 6, (some .int), [])
abbrev zX12_walked : am_Z := (RX12, yX12_walked, cX12_walked, 5, (some .int), [])
abbrev zX12_start : am_Z := (RX12, yX12_start, cX12_start, 7, (some .int), [])
abbrev zX12_meet : am_Z := (RX12, yX12_meet, cX12_meet, 4, (some .int), [])
abbrev zX12_witnesses : am_Z := (RX12, yX12_witnesses, cX12_witnesses, 9, (some .int), [])
abbrev zX12_ones : am_Z := (RX12, yX12_ones, cX12_ones, 3, (some .int), [])
abbrev zX12_guards : am_Z := (RX12, yX12_guards, cX12_guards, 5, (some .int), [])
abbrev zX12_hid : am_Z := (RX12, yX12_hid, cX12_hid, 7, (some .int), [])
abbrev zX12_isLot : am_Z := (RX12, yX12_isLot, cX12_isLot, 2, (some .boolean), [])
abbrev zX12_lot : am_Z := (RX12, yX12_lot, cX12_lot, 3, (some .int), [])
abbrev zX12_yardsOf : am_Z := (RX12, yX12_yardsOf, cX12_yardsOf, 6, (some .int), [])
abbrev zX12_yards : am_Z := (RX12, yX12_yards, cX12_yards, 3, (some .int), [])
abbrev zX12_leaks : am_Z := (RX12, yX12_leaks, cX12_leaks, 4, (some .int), [])
abbrev zX12_net : am_Z := (RX12, yX12_net, cX12_net, 4, (some .int), [])
abbrev zX12_bid : am_Z := (RX12, yX12_bid, cX12_bid, 4, (some .int), [])
abbrev zX12_sells : am_Z := (RX12, yX12_sells, cX12_sells, 8, none, [])
abbrev zX12_gets : am_Z := (RX12, yX12_gets, cX12_gets, 4, (some .int), [])
abbrev zX12_soldBy : am_Z := (RX12, yX12_soldBy, cX12_soldBy, 7, (some .int), [])
abbrev zX12_sold : am_Z := (RX12, yX12_sold, cX12_sold, 4, (some .int), [])
abbrev zX12_when : am_Z := (RX12, yX12_when, cX12_when, 7, (some .int), [])
abbrev zX12_asked : am_Z := (RX12, yX12_asked, cX12_asked, 9, (some .int), [])
abbrev zX12_clock : am_Z := (RX12, yX12_clock, cX12_clock, 8, (some .int), [])
abbrev zX12_isShip : am_Z := (RX12, yX12_isShip, cX12_isShip, 2, (some .boolean), [])
abbrev zX12_comesIn : am_Z := (RX12, yX12_comesIn, cX12_comesIn, 5, (some .int), [])
abbrev zX12_ship : am_Z := (RX12, yX12_ship, cX12_ship, 2, (some .int), [])
abbrev zX12_light : am_Z := (RX12, yX12_light, cX12_light, 9, (some .int), [])
abbrev zX12_worthless : am_Z := (RX12, yX12_worthless, cX12_worthless, 4, (some .int), [])
abbrev zX12_gauge : am_Z := (RX12, yX12_gauge, cX12_gauge, 5, (some .int), [])
abbrev zX12_areRight : am_Z := (RX12, yX12_areRight, cX12_areRight, 2, (some .boolean), [])
abbrev zX12_right : am_Z := (RX12, yX12_right, cX12_right, 1, (some .boolean), [])
abbrev zX12_found : am_Z := (RX12, yX12_found, cX12_found, 8, (some .int), [])
abbrev zX12_clear : am_Z := (RX12, yX12_clear, cX12_clear, 2, (some .int), [])
abbrev zX12_doubt : am_Z := (RX12, yX12_doubt, cX12_doubt, 6, (some .int), [])
abbrev zX12_areSeeds : am_Z := (RX12, yX12_areSeeds, cX12_areSeeds, 2, (some .boolean), [])
abbrev zX12_span : am_Z := (RX12, yX12_span, cX12_span, 9, (some .int), [])
abbrev zX12_laysNeeded : am_Z := (RX12, yX12_laysNeeded, cX12_laysNeeded, 6, none, [])
abbrev zX12_enoughOf : am_Z := (RX12, yX12_enoughOf, cX12_enoughOf, 5, (some .int), [])
abbrev zX12_enough : am_Z := (RX12, yX12_enough, cX12_enough, 6, (some .int), [])
abbrev zX12_sure : am_Z := (RX12, yX12_sure, cX12_sure, 7, (some .int), [])
abbrev zX12_calm : am_Z := (RX12, yX12_calm, cX12_calm, 3, (some .int), [])
abbrev zX12_thick : am_Z := (RX12, yX12_thick, cX12_thick, 5, (some .int), [])
abbrev zX12_says : am_Z := (RX12, yX12_says, cX12_says, 3, none, [])
abbrev zX12_opens : am_Z := (RX12, yX12_opens, cX12_opens, 1, (some .boolean), [])
abbrev zX12_orRow : am_Z := (RX12, yX12_orRow, cX12_orRow, 1, none, [])
abbrev zX12_andRow : am_Z := (RX12, yX12_andRow, cX12_andRow, 1, none, [])
abbrev zX12_oneIs : am_Z := (RX12, yX12_oneIs, cX12_oneIs, 2, none, [])
abbrev zX12_sum : am_Z := (RX12, yX12_sum, cX12_sum, 2, none, [])
abbrev zX12_times : am_Z := (RX12, yX12_times, cX12_times, 2, none, [])
abbrev zX12_knownHere : am_Z := (RX12, yX12_knownHere, cX12_knownHere, 1, (some .int), [])
abbrev zX12_oneHere : am_Z := (RX12, yX12_oneHere, cX12_oneHere, 2, none, [])
abbrev zX12_partHere : am_Z := (RX12, yX12_partHere, cX12_partHere, 2, none, [])
abbrev zX12_rule : am_Z := (RX12, yX12_rule, cX12_rule, 2, (some .int), [])
abbrev zX12_known : am_Z := (RX12, yX12_known, cX12_known, 8, (some .int), [])
abbrev zX12_worth : am_Z := (RX12, yX12_worth, cX12_worth, 11, (some .int), [])
abbrev zX12_by : am_Z := (RX12, yX12_by, cX12_by, 3, (some .int), [])
abbrev zX12_lastOf : am_Z := (RX12, yX12_lastOf, cX12_lastOf, 4, (some .int), [])
abbrev zX12_isLet : am_Z := (RX12, yX12_isLet, cX12_isLet, 5, (some .boolean), [])
abbrev zX12_firstOf : am_Z := (RX12, yX12_firstOf, cX12_firstOf, 4, (some .int), [])
abbrev zX12_rules : am_Z := (RX12, yX12_rules, cX12_rules, 9, none, [])
abbrev zX12_badBid : am_Z := (RX12, yX12_badBid, cX12_badBid, 2, (some .boolean), [])
abbrev zX12_let : am_Z := (RX12, yX12_let, cX12_let, 5, (some .int), [])
abbrev zX12_ruled : am_Z := (RX12, yX12_ruled, cX12_ruled, 4, (some .int), [])
abbrev zX12_brings : am_Z := (RX12, yX12_brings, cX12_brings, 6, (some .int), [])
abbrev zX12_moves : am_Z := (RX12, yX12_moves, cX12_moves, 4, (some .int), [])
abbrev zX12_movesAll : am_Z := (RX12, yX12_movesAll, cX12_movesAll, 5, none, [])
abbrev zX12_image : am_Z := (RX12, yX12_image, cX12_image, 1, (some .int), [])
abbrev zX12_restore : am_Z := (RX12, yX12_restore, cX12_restore, 1, (some .int), [])
abbrev zX12_status : am_Z := (RX12, yX12_status, cX12_status, 2, (some .int), [])
abbrev zX12_count : am_Z := (RX12, yX12_count, cX12_count, 2, (some .int), [])
abbrev zJ6_compare_7cf53 : am_Z := (RJ6, yJ6_compare_7cf53, cJ6_compare_7cf53, 2, (some .int), [])
abbrev zJ6_bitCount_0f7a4 : am_Z := (RJ6, yJ6_bitCount_0f7a4, cJ6_bitCount_0f7a4, 1, (some .int), [])
abbrev zJ9_abs_0f7a4 : am_Z := (RJ9, yJ9_abs_0f7a4, cJ9_abs_0f7a4, 1, (some .int), [])
abbrev zJ9_max_7cf53 : am_Z := (RJ9, yJ9_max_7cf53, cJ9_max_7cf53, 2, (some .int), [])
abbrev zJ9_min_7cf53 : am_Z := (RJ9, yJ9_min_7cf53, cJ9_min_7cf53, 2, (some .int), [])
abbrev zJ0_length_8abf5 : am_Z := (RJ0, yJ0_length_8abf5, cJ0_length_8abf5, 1, (some .int), [])
abbrev zJ0_charAt_5068e : am_Z := (RJ0, yJ0_charAt_5068e, cJ0_charAt_5068e, 2, (some .char), [])
abbrev zJ0_coder_7d493 : am_Z := (RJ0, yJ0_coder_7d493, cJ0_coder_7d493, 1, (some .byte), [])
abbrev zJ0_isLatin1_aae02 : am_Z := (RJ0, yJ0_isLatin1_aae02, cJ0_isLatin1_aae02, 1, (some .boolean), [])
abbrev zJ0_checkIndex_df160 : am_Z := (RJ0, yJ0_checkIndex_df160, cJ0_checkIndex_df160, 2, none, [])
abbrev zJ1_charAt_3b067 : am_Z := (RJ1, yJ1_charAt_3b067, cJ1_charAt_3b067, 2, (some .char), [])
abbrev zJ2_getChar_3b067 : am_Z := (RJ2, yJ2_getChar_3b067, cJ2_getChar_3b067, 2, (some .char), [])
abbrev zJ2_length_9d52b : am_Z := (RJ2, yJ2_length_9d52b, cJ2_length_9d52b, 1, (some .int), [])
abbrev zJ2_charAt_3b067 : am_Z := (RJ2, yJ2_charAt_3b067, cJ2_charAt_3b067, 2, (some .char), [])
abbrev zJ2_checkIndex_2214a : am_Z := (RJ2, yJ2_checkIndex_2214a, cJ2_checkIndex_2214a, 2, none, [])
abbrev zJ7_fill_53178 : am_Z := (RJ7, yJ7_fill_53178, cJ7_fill_53178, 4, none, [])
abbrev zJ3_checkIndex_8e157 : am_Z := (RJ3, yJ3_checkIndex_8e157, cJ3_checkIndex_8e157, 3, (some .int), [])
abbrev zL_port : am_Z := (RL, yL_port, cL_port, 4, (some .int), [(0, 9, 12, 13)])
abbrev zL_told : am_Z := (RL, yL_told, cL_told, 4, (some .int), [(0, 9, 12, 13)])
abbrev zL_fog : am_Z := (RL, yL_fog, cL_fog, 6, (some .int), [(0, 12, 15, 22), (0, 12, 19, 13)])
abbrev zL_sums : am_Z := (RL, yL_sums, cL_sums, 5, (some .int), [(0, 10, 13, 13)])
abbrev zL_set : am_Z := (RL, yL_set, cL_set, 6, (some .int), [(0, 12, 15, 22), (0, 12, 19, 13)])
abbrev zL_led : am_Z := (RL, yL_led, cL_led, 5, (some .int), [(0, 10, 13, 34), (0, 10, 17, 13)])
abbrev zL_whose : am_Z := (RL, yL_whose, cL_whose, 5, (some .int), [(0, 10, 13, 22)])
abbrev zL_line : am_Z := (RL, yL_line, cL_line, 8, (some .int), [(0, 16, 19, 22), (0, 16, 23, 13)])
abbrev zL_where : am_Z := (RL, yL_where, cL_where, 5, (some .int), [(0, 10, 13, 34), (0, 10, 17, 13)])
abbrev zL_sees : am_Z := (RL, yL_sees, cL_sees, 6, (some .int), [(0, 19, 22, 34), (0, 19, 26, 13)])
abbrev zL_often : am_Z := (RL, yL_often, cL_often, 5, (some .int), [(0, 10, 13, 34), (0, 10, 17, 13)])
abbrev zL_seen : am_Z := (RL, yL_seen, cL_seen, 5, (some .int), [(0, 10, 13, 34), (0, 10, 17, 13)])
abbrev zL_could : am_Z := (RL, yL_could, cL_could, 6, (some .int), [(0, 12, 15, 22), (0, 12, 19, 13)])
abbrev zL_buy : am_Z := (RL, yL_buy, cL_buy, 5, (some .int), [(0, 10, 13, 34), (0, 10, 17, 13)])
abbrev zL_way : am_Z := (RL, yL_way, cL_way, 7, (some .int), [(0, 14, 17, 22), (0, 14, 21, 13)])
abbrev zL_lot : am_Z := (RL, yL_lot, cL_lot, 5, (some .int), [(0, 10, 13, 34), (0, 10, 17, 13)])
abbrev zL_yards : am_Z := (RL, yL_yards, cL_yards, 5, (some .int), [(0, 10, 13, 34), (0, 10, 17, 13)])
abbrev zL_leaks : am_Z := (RL, yL_leaks, cL_leaks, 6, (some .int), [(0, 12, 15, 34), (0, 12, 19, 13)])
abbrev zL_net : am_Z := (RL, yL_net, cL_net, 4, (some .int), [(0, 9, 12, 34)])
abbrev zL_bid : am_Z := (RL, yL_bid, cL_bid, 6, (some .int), [(0, 12, 15, 34), (0, 12, 19, 13)])
abbrev zL_gets : am_Z := (RL, yL_gets, cL_gets, 6, (some .int), [(0, 12, 15, 13)])
abbrev zL_sold : am_Z := (RL, yL_sold, cL_sold, 6, (some .int), [(0, 12, 15, 34), (0, 12, 19, 13)])
abbrev zL_when : am_Z := (RL, yL_when, cL_when, 5, (some .int), [(0, 10, 13, 34), (0, 10, 17, 13)])
abbrev zL_ship : am_Z := (RL, yL_ship, cL_ship, 4, (some .int), [(0, 9, 12, 34)])
abbrev zL_worthless : am_Z := (RL, yL_worthless, cL_worthless, 5, (some .int), [(0, 10, 13, 34), (0, 10, 17, 13)])
abbrev zL_gauge : am_Z := (RL, yL_gauge, cL_gauge, 7, (some .int), [(0, 14, 17, 22), (0, 14, 21, 13)])
abbrev zL_found : am_Z := (RL, yL_found, cL_found, 4, (some .int), [(0, 9, 12, 13)])
abbrev zL_doubt : am_Z := (RL, yL_doubt, cL_doubt, 8, (some .int), [(0, 16, 19, 22), (0, 16, 23, 13)])
abbrev zL_span : am_Z := (RL, yL_span, cL_span, 8, (some .int), [(0, 16, 19, 34), (0, 16, 23, 13)])
abbrev zL_rule : am_Z := (RL, yL_rule, cL_rule, 4, (some .int), [(0, 9, 12, 13)])
abbrev zL_let : am_Z := (RL, yL_let, cL_let, 6, (some .int), [(0, 12, 15, 34), (0, 12, 19, 13)])
abbrev zL_ruled : am_Z := (RL, yL_ruled, cL_ruled, 6, (some .int), [(0, 12, 15, 34), (0, 12, 19, 13)])
abbrev zL_brings : am_Z := (RL, yL_brings, cL_brings, 6, (some .int), [(0, 12, 15, 34), (0, 12, 19, 13)])
abbrev zL_clock : am_Z := (RL, yL_clock, cL_clock, 6, (some .int), [(0, 12, 15, 34), (0, 12, 19, 13)])
abbrev zL_enough : am_Z := (RL, yL_enough, cL_enough, 8, (some .int), [(0, 16, 19, 34), (0, 16, 23, 13)])
abbrev zL_sure : am_Z := (RL, yL_sure, cL_sure, 8, (some .int), [(0, 16, 19, 34), (0, 16, 23, 13)])
abbrev zL_start : am_Z := (RL, yL_start, cL_start, 5, (some .int), [(0, 10, 13, 34), (0, 10, 17, 13)])
abbrev zL_meet : am_Z := (RL, yL_meet, cL_meet, 5, (some .int), [(0, 10, 13, 34), (0, 10, 17, 13)])
abbrev zL_witnesses : am_Z := (RL, yL_witnesses, cL_witnesses, 8, (some .int), [(0, 16, 19, 22), (0, 16, 23, 13)])
abbrev zL_light : am_Z := (RL, yL_light, cL_light, 6, (some .int), [(0, 12, 15, 34), (0, 12, 19, 13)])
abbrev zL_asked : am_Z := (RL, yL_asked, cL_asked, 7, (some .int), [(0, 14, 17, 34), (0, 14, 21, 13)])
abbrev zL_calm : am_Z := (RL, yL_calm, cL_calm, 4, (some .int), [(0, 9, 12, 13)])
abbrev zL_thick : am_Z := (RL, yL_thick, cL_thick, 4, (some .int), [(0, 9, 12, 13)])
abbrev zL_hid : am_Z := (RL, yL_hid, cL_hid, 4, (some .int), [(0, 9, 12, 34)])
abbrev zL_law : am_Z := (RL, yL_law, cL_law, 7, (some .boolean), [])
abbrev c9_x : Nat := 0
theorem clw0 : ∀ x ∈ u_ws RX0 TX0 6, x ∈ am_G := List.forall_mem_cons.mpr ⟨am_m2 105 rfl rfl, List.forall_mem_cons.mpr ⟨am_m2 107 rfl rfl, List.forall_mem_cons.mpr ⟨am_m2 109 rfl rfl, List.forall_mem_cons.mpr ⟨am_m2 111 rfl rfl, List.forall_mem_cons.mpr ⟨am_m2 113 rfl rfl, List.forall_mem_cons.mpr ⟨am_m2 115 rfl rfl, fun _ h => absurd h List.not_mem_nil⟩⟩⟩⟩⟩⟩
theorem cl0 : am_cls 0 := fun q h => by
  cases h
  exact ⟨clw0, by decide +kernel, nmX0⟩
theorem clw1 : ∀ x ∈ u_ws RX1 TX1 7, x ∈ am_G := List.forall_mem_cons.mpr ⟨am_m2 136 rfl rfl, List.forall_mem_cons.mpr ⟨am_m2 138 rfl rfl, List.forall_mem_cons.mpr ⟨am_m2 140 rfl rfl, List.forall_mem_cons.mpr ⟨am_m2 142 rfl rfl, List.forall_mem_cons.mpr ⟨am_m2 144 rfl rfl, List.forall_mem_cons.mpr ⟨am_m2 146 rfl rfl, List.forall_mem_cons.mpr ⟨am_m2 148 rfl rfl, fun _ h => absurd h List.not_mem_nil⟩⟩⟩⟩⟩⟩⟩
theorem cl1 : am_cls 1 := fun q h => by
  cases h
  exact ⟨clw1, by decide +kernel, nmX1⟩
theorem clw2 : ∀ x ∈ u_ws RX2 TX2 2, x ∈ am_G := List.forall_mem_cons.mpr ⟨am_m2 88 rfl rfl, List.forall_mem_cons.mpr ⟨am_m2 90 rfl rfl, fun _ h => absurd h List.not_mem_nil⟩⟩
theorem cl2 : am_cls 2 := fun q h => by
  cases h
  exact ⟨clw2, by decide +kernel, nmX2⟩
theorem clw3 : ∀ x ∈ u_ws RX3 TX3 14, x ∈ am_G := List.forall_mem_cons.mpr ⟨am_m1 128 rfl rfl, List.forall_mem_cons.mpr ⟨am_m1 130 rfl rfl, List.forall_mem_cons.mpr ⟨am_m1 132 rfl rfl, List.forall_mem_cons.mpr ⟨am_m1 134 rfl rfl, List.forall_mem_cons.mpr ⟨am_m1 136 rfl rfl, List.forall_mem_cons.mpr ⟨am_m1 138 rfl rfl, List.forall_mem_cons.mpr ⟨am_m1 140 rfl rfl, List.forall_mem_cons.mpr ⟨am_m1 142 rfl rfl, List.forall_mem_cons.mpr ⟨am_m1 144 rfl rfl, List.forall_mem_cons.mpr ⟨am_m1 146 rfl rfl, List.forall_mem_cons.mpr ⟨am_m1 148 rfl rfl, List.forall_mem_cons.mpr ⟨am_m1 150 rfl rfl, List.forall_mem_cons.mpr ⟨am_m1 152 rfl rfl, List.forall_mem_cons.mpr ⟨am_m1 154 rfl rfl, fun _ h => absurd h List.not_mem_nil⟩⟩⟩⟩⟩⟩⟩⟩⟩⟩⟩⟩⟩⟩
theorem cl3 : am_cls 3 := fun q h => by
  cases h
  exact ⟨clw3, by decide +kernel, nmX3⟩
theorem clw4 : ∀ x ∈ u_ws RX4 TX4 3, x ∈ am_G := List.forall_mem_cons.mpr ⟨am_m2 165 rfl rfl, List.forall_mem_cons.mpr ⟨am_m2 167 rfl rfl, List.forall_mem_cons.mpr ⟨am_m2 169 rfl rfl, fun _ h => absurd h List.not_mem_nil⟩⟩⟩
theorem cl4 : am_cls 4 := fun q h => by
  cases h
  exact ⟨clw4, by decide +kernel, nmX4⟩
theorem clw5 : ∀ x ∈ u_ws RX5 TX5 11, x ∈ am_G := List.forall_mem_cons.mpr ⟨am_m1 225 rfl rfl, List.forall_mem_cons.mpr ⟨am_m1 227 rfl rfl, List.forall_mem_cons.mpr ⟨am_m1 229 rfl rfl, List.forall_mem_cons.mpr ⟨am_m1 231 rfl rfl, List.forall_mem_cons.mpr ⟨am_m1 233 rfl rfl, List.forall_mem_cons.mpr ⟨am_m1 235 rfl rfl, List.forall_mem_cons.mpr ⟨am_m1 215 rfl rfl, List.forall_mem_cons.mpr ⟨am_m1 217 rfl rfl, List.forall_mem_cons.mpr ⟨am_m1 219 rfl rfl, List.forall_mem_cons.mpr ⟨am_m1 221 rfl rfl, List.forall_mem_cons.mpr ⟨am_m1 223 rfl rfl, fun _ h => absurd h List.not_mem_nil⟩⟩⟩⟩⟩⟩⟩⟩⟩⟩⟩
theorem cl5 : am_cls 5 := fun q h => by
  cases h
  exact ⟨clw5, by decide +kernel, nmX5⟩
theorem clw6 : ∀ x ∈ u_ws RX7 TX7 6, x ∈ am_G := List.forall_mem_cons.mpr ⟨am_m1 170 rfl rfl, List.forall_mem_cons.mpr ⟨am_m1 172 rfl rfl, List.forall_mem_cons.mpr ⟨am_m1 174 rfl rfl, List.forall_mem_cons.mpr ⟨am_m1 176 rfl rfl, List.forall_mem_cons.mpr ⟨am_m1 178 rfl rfl, List.forall_mem_cons.mpr ⟨am_m1 180 rfl rfl, fun _ h => absurd h List.not_mem_nil⟩⟩⟩⟩⟩⟩
theorem cl6 : am_cls 6 := fun q h => by
  cases h
  exact ⟨clw6, by decide +kernel, nmX7⟩
theorem clw7 : ∀ x ∈ u_ws RX8 TX8 7, x ∈ am_G := List.forall_mem_cons.mpr ⟨am_m2 7 rfl rfl, List.forall_mem_cons.mpr ⟨am_m2 8 rfl rfl, List.forall_mem_cons.mpr ⟨am_m2 9 rfl rfl, List.forall_mem_cons.mpr ⟨am_m2 10 rfl rfl, List.forall_mem_cons.mpr ⟨am_m2 11 rfl rfl, List.forall_mem_cons.mpr ⟨am_m2 12 rfl rfl, List.forall_mem_cons.mpr ⟨am_m2 5 rfl rfl, fun _ h => absurd h List.not_mem_nil⟩⟩⟩⟩⟩⟩⟩
theorem cl7 : am_cls 7 := fun q h => by
  cases h
  exact ⟨clw7, by decide +kernel, nmX8⟩
theorem clw8 : ∀ x ∈ u_ws RX9 TX9 15, x ∈ am_G := List.forall_mem_cons.mpr ⟨am_m2 49 rfl rfl, List.forall_mem_cons.mpr ⟨am_m2 51 rfl rfl, List.forall_mem_cons.mpr ⟨am_m2 53 rfl rfl, List.forall_mem_cons.mpr ⟨am_m2 55 rfl rfl, List.forall_mem_cons.mpr ⟨am_m2 57 rfl rfl, List.forall_mem_cons.mpr ⟨am_m2 59 rfl rfl, List.forall_mem_cons.mpr ⟨am_m2 61 rfl rfl, List.forall_mem_cons.mpr ⟨am_m2 63 rfl rfl, List.forall_mem_cons.mpr ⟨am_m2 65 rfl rfl, List.forall_mem_cons.mpr ⟨am_m2 67 rfl rfl, List.forall_mem_cons.mpr ⟨am_m2 69 rfl rfl, List.forall_mem_cons.mpr ⟨am_m2 71 rfl rfl, List.forall_mem_cons.mpr ⟨am_m2 73 rfl rfl, List.forall_mem_cons.mpr ⟨am_m2 75 rfl rfl, List.forall_mem_cons.mpr ⟨am_m2 77 rfl rfl, fun _ h => absurd h List.not_mem_nil⟩⟩⟩⟩⟩⟩⟩⟩⟩⟩⟩⟩⟩⟩⟩
theorem cl8 : am_cls 8 := fun q h => by
  cases h
  exact ⟨clw8, by decide +kernel, nmX9⟩
theorem clw9 : ∀ x ∈ u_ws RX10 TX10 3, x ∈ am_G := List.forall_mem_cons.mpr ⟨am_m1 61 rfl rfl, List.forall_mem_cons.mpr ⟨am_m1 63 rfl rfl, List.forall_mem_cons.mpr ⟨am_m1 65 rfl rfl, fun _ h => absurd h List.not_mem_nil⟩⟩⟩
theorem cl9 : am_cls 9 := fun q h => by
  cases h
  exact ⟨clw9, by decide +kernel, nmX10⟩
theorem clw10 : ∀ x ∈ u_ws RX11 TX11 20, x ∈ am_G := List.forall_mem_cons.mpr ⟨am_m2 192 rfl rfl, List.forall_mem_cons.mpr ⟨am_m2 194 rfl rfl, List.forall_mem_cons.mpr ⟨am_m2 196 rfl rfl, List.forall_mem_cons.mpr ⟨am_m2 198 rfl rfl, List.forall_mem_cons.mpr ⟨am_m2 200 rfl rfl, List.forall_mem_cons.mpr ⟨am_m2 202 rfl rfl, List.forall_mem_cons.mpr ⟨am_m2 204 rfl rfl, List.forall_mem_cons.mpr ⟨am_m2 206 rfl rfl, List.forall_mem_cons.mpr ⟨am_m2 208 rfl rfl, List.forall_mem_cons.mpr ⟨am_m2 210 rfl rfl, List.forall_mem_cons.mpr ⟨am_m2 212 rfl rfl, List.forall_mem_cons.mpr ⟨am_m2 214 rfl rfl, List.forall_mem_cons.mpr ⟨am_m2 216 rfl rfl, List.forall_mem_cons.mpr ⟨am_m2 218 rfl rfl, List.forall_mem_cons.mpr ⟨am_m2 220 rfl rfl, List.forall_mem_cons.mpr ⟨am_m2 222 rfl rfl, List.forall_mem_cons.mpr ⟨am_m2 224 rfl rfl, List.forall_mem_cons.mpr ⟨am_m2 226 rfl rfl, List.forall_mem_cons.mpr ⟨am_m2 228 rfl rfl, List.forall_mem_cons.mpr ⟨am_m2 230 rfl rfl, fun _ h => absurd h List.not_mem_nil⟩⟩⟩⟩⟩⟩⟩⟩⟩⟩⟩⟩⟩⟩⟩⟩⟩⟩⟩⟩
theorem cl10 : am_cls 10 := fun q h => by
  cases h
  exact ⟨clw10, by decide +kernel, nmX11⟩
theorem clw11 : ∀ x ∈ u_ws RX12 TX12 69, x ∈ am_G := List.forall_mem_cons.mpr ⟨am_m8 134 rfl rfl, List.forall_mem_cons.mpr ⟨am_m8 136 rfl rfl, List.forall_mem_cons.mpr ⟨am_m8 138 rfl rfl, List.forall_mem_cons.mpr ⟨am_m8 140 rfl rfl, List.forall_mem_cons.mpr ⟨am_m8 142 rfl rfl, List.forall_mem_cons.mpr ⟨am_m8 144 rfl rfl, List.forall_mem_cons.mpr ⟨am_m8 146 rfl rfl, List.forall_mem_cons.mpr ⟨am_m8 148 rfl rfl, List.forall_mem_cons.mpr ⟨am_m8 150 rfl rfl, List.forall_mem_cons.mpr ⟨am_m8 152 rfl rfl, List.forall_mem_cons.mpr ⟨am_m8 154 rfl rfl, List.forall_mem_cons.mpr ⟨am_m8 156 rfl rfl, List.forall_mem_cons.mpr ⟨am_m8 158 rfl rfl, List.forall_mem_cons.mpr ⟨am_m8 160 rfl rfl, List.forall_mem_cons.mpr ⟨am_m8 162 rfl rfl, List.forall_mem_cons.mpr ⟨am_m8 164 rfl rfl, List.forall_mem_cons.mpr ⟨am_m8 166 rfl rfl, List.forall_mem_cons.mpr ⟨am_m8 168 rfl rfl, List.forall_mem_cons.mpr ⟨am_m8 170 rfl rfl, List.forall_mem_cons.mpr ⟨am_m8 172 rfl rfl, List.forall_mem_cons.mpr ⟨am_m8 174 rfl rfl, List.forall_mem_cons.mpr ⟨am_m8 176 rfl rfl, List.forall_mem_cons.mpr ⟨am_m8 178 rfl rfl, List.forall_mem_cons.mpr ⟨am_m8 180 rfl rfl, List.forall_mem_cons.mpr ⟨am_m8 182 rfl rfl, List.forall_mem_cons.mpr ⟨am_m8 184 rfl rfl, List.forall_mem_cons.mpr ⟨am_m8 186 rfl rfl, List.forall_mem_cons.mpr ⟨am_m8 188 rfl rfl, List.forall_mem_cons.mpr ⟨am_m8 190 rfl rfl, List.forall_mem_cons.mpr ⟨am_m8 192 rfl rfl, List.forall_mem_cons.mpr ⟨am_m8 194 rfl rfl, List.forall_mem_cons.mpr ⟨am_m8 196 rfl rfl, List.forall_mem_cons.mpr ⟨am_m8 198 rfl rfl, List.forall_mem_cons.mpr ⟨am_m8 200 rfl rfl, List.forall_mem_cons.mpr ⟨am_m8 202 rfl rfl, List.forall_mem_cons.mpr ⟨am_m8 204 rfl rfl, List.forall_mem_cons.mpr ⟨am_m8 206 rfl rfl, List.forall_mem_cons.mpr ⟨am_m8 208 rfl rfl, List.forall_mem_cons.mpr ⟨am_m8 210 rfl rfl, List.forall_mem_cons.mpr ⟨am_m8 212 rfl rfl, List.forall_mem_cons.mpr ⟨am_m8 214 rfl rfl, List.forall_mem_cons.mpr ⟨am_m8 216 rfl rfl, List.forall_mem_cons.mpr ⟨am_m8 218 rfl rfl, List.forall_mem_cons.mpr ⟨am_m8 220 rfl rfl, List.forall_mem_cons.mpr ⟨am_m8 222 rfl rfl, List.forall_mem_cons.mpr ⟨am_m8 224 rfl rfl, List.forall_mem_cons.mpr ⟨am_m8 226 rfl rfl, List.forall_mem_cons.mpr ⟨am_m8 228 rfl rfl, List.forall_mem_cons.mpr ⟨am_m8 230 rfl rfl, List.forall_mem_cons.mpr ⟨am_m8 232 rfl rfl, List.forall_mem_cons.mpr ⟨am_m8 234 rfl rfl, List.forall_mem_cons.mpr ⟨am_m8 236 rfl rfl, List.forall_mem_cons.mpr ⟨am_m8 238 rfl rfl, List.forall_mem_cons.mpr ⟨am_m9 0 rfl rfl, List.forall_mem_cons.mpr ⟨am_m9 2 rfl rfl, List.forall_mem_cons.mpr ⟨am_m9 4 rfl rfl, List.forall_mem_cons.mpr ⟨am_m9 6 rfl rfl, List.forall_mem_cons.mpr ⟨am_m9 8 rfl rfl, List.forall_mem_cons.mpr ⟨am_m9 10 rfl rfl, List.forall_mem_cons.mpr ⟨am_m9 12 rfl rfl, List.forall_mem_cons.mpr ⟨am_m9 14 rfl rfl, List.forall_mem_cons.mpr ⟨am_m9 16 rfl rfl, List.forall_mem_cons.mpr ⟨am_m9 18 rfl rfl, List.forall_mem_cons.mpr ⟨am_m9 20 rfl rfl, List.forall_mem_cons.mpr ⟨am_m9 22 rfl rfl, List.forall_mem_cons.mpr ⟨am_m9 24 rfl rfl, List.forall_mem_cons.mpr ⟨am_m9 26 rfl rfl, List.forall_mem_cons.mpr ⟨am_m9 28 rfl rfl, List.forall_mem_cons.mpr ⟨am_m9 30 rfl rfl, fun _ h => absurd h List.not_mem_nil⟩⟩⟩⟩⟩⟩⟩⟩⟩⟩⟩⟩⟩⟩⟩⟩⟩⟩⟩⟩⟩⟩⟩⟩⟩⟩⟩⟩⟩⟩⟩⟩⟩⟩⟩⟩⟩⟩⟩⟩⟩⟩⟩⟩⟩⟩⟩⟩⟩⟩⟩⟩⟩⟩⟩⟩⟩⟩⟩⟩⟩⟩⟩⟩⟩⟩⟩⟩⟩
theorem cl11 : am_cls 11 := fun q h => by
  cases h
  exact ⟨clw11, by decide +kernel, nmX12⟩
