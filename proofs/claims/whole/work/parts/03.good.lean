set_option maxRecDepth 20000 in
theorem ggX0_reckon_X0_addPan : GoodIn wsX0_reckon wsX0_addPan := goodIn_r _ [12, 2, 17, 18, 19] rfl (by decide +kernel)
set_option maxRecDepth 20000 in
theorem gX0_reckon_X0_addPan : GoodIn wsX0_reckon (wsV RX0 19 RX0 yX0_addPan wsX0_addPan) := goodIn_app (goodIn_r _ [8, 9, 10, 11] rfl (by decide +kernel)) ggX0_reckon_X0_addPan
set_option maxRecDepth 20000 in
theorem ggX0_reckon_X0_reduce : GoodIn wsX0_reckon wsX0_reduce := goodIn_r _ [16, 3, 1, 17, 18, 19] rfl (by decide +kernel)
set_option maxRecDepth 20000 in
theorem gX0_reckon_X0_reduce : GoodIn wsX0_reckon (wsV RX0 32 RX0 yX0_reduce wsX0_reduce) := goodIn_app (goodIn_r _ [13, 14, 15, 11] rfl (by decide +kernel)) ggX0_reckon_X0_reduce
set_option maxRecDepth 20000 in
theorem ggX1_init_X4_init : GoodIn wsX1_init wsX4_init := goodIn_r _ [9, 10, 2, 3, 11, 12, 13, 17, 18, 19, 20] rfl (by decide +kernel)
theorem gX1_init_X4_init_n17 : GoodIn wsX1_init (wsX4_init) := ggX1_init_X4_init
set_option maxRecDepth 20000 in
theorem ggX1_remember_X4_become : GoodIn wsX1_remember wsX4_become := goodIn_r _ [11, 12, 13, 14, 18, 19, 20, 21] rfl (by decide +kernel)
theorem gX1_remember_X4_become_n24 : GoodIn wsX1_remember (wsX4_become) := ggX1_remember_X4_become
set_option maxRecDepth 20000 in
theorem ggX1_restore_X4_become : GoodIn wsX1_restore wsX4_become := goodIn_r _ [7, 8, 9, 10, 14, 15, 16, 17] rfl (by decide +kernel)
theorem gX1_restore_X4_become_n24 : GoodIn wsX1_restore (wsX4_become) := ggX1_restore_X4_become
set_option maxRecDepth 20000 in
theorem ggX2_init_X2_empty : GoodIn wsX2_init wsX2_empty := goodIn_r _ [14, 15, 16, 17, 18, 19, 20, 21, 22, 23, 24, 25] rfl (by decide +kernel)
set_option maxRecDepth 20000 in
theorem gX2_init_X2_empty : GoodIn wsX2_init (wsV RX2 27 RX2 yX2_empty wsX2_empty) := goodIn_app (goodIn_r _ [10, 11, 12, 13] rfl (by decide +kernel)) ggX2_init_X2_empty
set_option maxRecDepth 20000 in
theorem ggX4_fill_X4_at : GoodIn wsX4_fill wsX4_at := goodIn_r _ [8] rfl (by decide +kernel)
set_option maxRecDepth 20000 in
theorem gX4_fill_X4_at : GoodIn wsX4_fill (va_wsS RX4 31 yX4_at wsX4_at) := goodIn_app (goodIn_r _ [5, 6, 7] rfl (by decide +kernel)) ggX4_fill_X4_at
set_option maxRecDepth 20000 in
theorem ggX4_amount_X4_at : GoodIn wsX4_amount wsX4_at := goodIn_r _ [5] rfl (by decide +kernel)
set_option maxRecDepth 20000 in
theorem gX4_amount_X4_at : GoodIn wsX4_amount (va_wsS RX4 31 yX4_at wsX4_at) := goodIn_app (goodIn_r _ [2, 3, 4] rfl (by decide +kernel)) ggX4_amount_X4_at
set_option maxRecDepth 20000 in
theorem ggX4_inPan_X4_amount : GoodIn wsX4_inPan wsX4_amount := goodIn_r _ [6, 7, 8, 9, 5, 10, 11, 12, 13, 14] rfl (by decide +kernel)
set_option maxRecDepth 20000 in
theorem gX4_inPan_X4_amount : GoodIn wsX4_inPan (wsV RX4 36 RX4 yX4_amount wsX4_amount) := goodIn_app (goodIn_r _ [2, 3, 4, 5] rfl (by decide +kernel)) ggX4_inPan_X4_amount
set_option maxRecDepth 20000 in
theorem ggX4_inAll_X4_inPan : GoodIn wsX4_inAll wsX4_inPan := goodIn_r _ [6, 1, 7, 8, 9, 5, 10, 11, 12, 13, 14, 15, 16, 17, 18, 19, 20, 21, 22, 23, 24, 25, 26] rfl (by decide +kernel)
set_option maxRecDepth 20000 in
theorem gX4_inAll_X4_inPan : GoodIn wsX4_inAll (wsV RX4 39 RX4 yX4_inPan wsX4_inPan) := goodIn_app (goodIn_r _ [2, 3, 4, 5] rfl (by decide +kernel)) ggX4_inAll_X4_inPan
set_option maxRecDepth 20000 in
theorem ggX4_tasteOf_X4_amount : GoodIn wsX4_tasteOf wsX4_amount := goodIn_r _ [6, 7, 8, 9, 5, 10, 11, 12, 13, 14] rfl (by decide +kernel)
set_option maxRecDepth 20000 in
theorem gX4_tasteOf_X4_amount : GoodIn wsX4_tasteOf (wsV RX4 36 RX4 yX4_amount wsX4_amount) := goodIn_app (goodIn_r _ [2, 3, 4, 5] rfl (by decide +kernel)) ggX4_tasteOf_X4_amount
set_option maxRecDepth 20000 in
theorem ggX4_whereIs_X4_amount : GoodIn wsX4_whereIs wsX4_amount := goodIn_r _ [6, 7, 8, 9, 5, 10, 11, 12, 13, 14] rfl (by decide +kernel)
set_option maxRecDepth 20000 in
theorem gX4_whereIs_X4_amount : GoodIn wsX4_whereIs (wsV RX4 36 RX4 yX4_amount wsX4_amount) := goodIn_app (goodIn_r _ [2, 3, 4, 5] rfl (by decide +kernel)) ggX4_whereIs_X4_amount
set_option maxRecDepth 20000 in
theorem ggX4_wettest_X4_ofYear : GoodIn wsX4_wettest wsX4_ofYear := goodIn_r _ [6, 1, 7, 8, 9, 5, 10, 11, 12, 13, 14, 15, 16, 17, 18, 19, 20, 21, 22, 23, 24, 25, 26] rfl (by decide +kernel)
set_option maxRecDepth 20000 in
theorem gX4_wettest_X4_ofYear : GoodIn wsX4_wettest (wsV RX4 49 RX4 yX4_ofYear wsX4_ofYear) := goodIn_app (goodIn_r _ [2, 3, 4, 5] rfl (by decide +kernel)) ggX4_wettest_X4_ofYear
set_option maxRecDepth 20000 in
theorem ggX4_ofYear_X4_amount : GoodIn wsX4_ofYear wsX4_amount := goodIn_r _ [6, 7, 8, 9, 5, 10, 11, 12, 13, 14] rfl (by decide +kernel)
set_option maxRecDepth 20000 in
theorem gX4_ofYear_X4_amount : GoodIn wsX4_ofYear (wsV RX4 36 RX4 yX4_amount wsX4_amount) := goodIn_app (goodIn_r _ [2, 3, 4, 5] rfl (by decide +kernel)) ggX4_ofYear_X4_amount
set_option maxRecDepth 20000 in
theorem ggX4_take_X4_amount : GoodIn wsX4_take wsX4_amount := goodIn_r _ [12, 6, 13, 14, 11, 15, 16, 17, 18, 19] rfl (by decide +kernel)
set_option maxRecDepth 20000 in
theorem gX4_take_X4_amount : GoodIn wsX4_take (wsV RX4 36 RX4 yX4_amount wsX4_amount) := goodIn_app (goodIn_r _ [8, 9, 10, 11] rfl (by decide +kernel)) ggX4_take_X4_amount
set_option maxRecDepth 20000 in
theorem ggX4_take_X4_at : GoodIn wsX4_take wsX4_at := goodIn_r _ [15] rfl (by decide +kernel)
set_option maxRecDepth 20000 in
theorem gX4_take_X4_at : GoodIn wsX4_take (va_wsS RX4 31 yX4_at wsX4_at) := goodIn_app (goodIn_r _ [13, 14, 11] rfl (by decide +kernel)) ggX4_take_X4_at
set_option maxRecDepth 20000 in
theorem ggX4_passSpring_X4_take : GoodIn wsX4_passSpring wsX4_take := goodIn_r _ [7, 1, 8, 9, 10, 11, 12, 13, 14, 15, 16, 6, 17, 18, 19, 20, 21, 22, 23, 24, 25, 26, 27, 28, 29, 30, 31, 32] rfl (by decide +kernel)
set_option maxRecDepth 20000 in
theorem gX4_passSpring_X4_take : GoodIn wsX4_passSpring (wsV RX4 60 RX4 yX4_take wsX4_take) := goodIn_app (goodIn_r _ [3, 4, 5, 6] rfl (by decide +kernel)) ggX4_passSpring_X4_take
set_option maxRecDepth 20000 in
theorem ggX4_canBeRead_X4_canBeReadIn : GoodIn wsX4_canBeRead wsX4_canBeReadIn := goodIn_r _ [5, 6, 7, 8, 9, 10, 11, 12, 13, 4, 14, 15, 16, 17, 18, 19, 20, 21, 22, 23, 24, 25, 26, 27, 28, 29, 30] rfl (by decide +kernel)
set_option maxRecDepth 20000 in
theorem gX4_canBeRead_X4_canBeReadIn : GoodIn wsX4_canBeRead (wsV RX4 64 RX4 yX4_canBeReadIn wsX4_canBeReadIn) := goodIn_app (goodIn_r _ [1, 2, 3, 4] rfl (by decide +kernel)) ggX4_canBeRead_X4_canBeReadIn
set_option maxRecDepth 20000 in
theorem ggX4_canBeReadIn_X4_amount : GoodIn wsX4_canBeReadIn wsX4_amount := goodIn_r _ [10, 11, 12, 13, 9, 14, 15, 16, 17, 18] rfl (by decide +kernel)
set_option maxRecDepth 20000 in
theorem gX4_canBeReadIn_X4_amount : GoodIn wsX4_canBeReadIn (wsV RX4 36 RX4 yX4_amount wsX4_amount) := goodIn_app (goodIn_r _ [6, 7, 8, 9] rfl (by decide +kernel)) ggX4_canBeReadIn_X4_amount
set_option maxRecDepth 20000 in
theorem ggX4_readable_X4_canBeRead : GoodIn wsX4_readable wsX4_canBeRead := goodIn_r _ [6, 7, 8, 9, 5, 10, 1, 11, 12, 13, 14, 15, 16, 17, 18, 19, 20, 21, 22, 23, 24, 25, 26, 27, 28, 29, 30, 31, 32, 33, 34] rfl (by decide +kernel)
set_option maxRecDepth 20000 in
theorem gX4_readable_X4_canBeRead : GoodIn wsX4_readable (wsV RX4 71 RX4 yX4_canBeRead wsX4_canBeRead) := goodIn_app (goodIn_r _ [2, 3, 4, 5] rfl (by decide +kernel)) ggX4_readable_X4_canBeRead
set_option maxRecDepth 20000 in
theorem ggX5_weigh_X2_hailPans : GoodIn wsX5_weigh wsX2_hailPans := goodIn_r _ [9, 10, 11, 31, 32, 33, 34, 35, 36, 37, 38] rfl (by decide +kernel)
theorem gX5_weigh_X2_hailPans_n28 : GoodIn wsX5_weigh (wsX2_hailPans) := ggX5_weigh_X2_hailPans
set_option maxRecDepth 20000 in
theorem ggX5_weigh_X4_inPan : GoodIn wsX5_weigh wsX4_inPan := goodIn_r _ [15, 16, 17, 18, 19, 13, 20, 21, 22, 23, 24, 39, 40, 41, 42, 31, 32, 33, 34, 35, 36, 37, 38] rfl (by decide +kernel)
theorem gX5_weigh_X4_inPan_n41 : GoodIn wsX5_weigh (wsX4_inPan) := ggX5_weigh_X4_inPan
set_option maxRecDepth 20000 in
theorem ggX5_countLeft_J6_bitCount_0f7a4 : GoodIn wsX5_countLeft wsJ6_bitCount_0f7a4 := goodIn_r _ [4, 5, 6, 7] rfl (by decide +kernel)
set_option maxRecDepth 20000 in
theorem gX5_countLeft_J6_bitCount_0f7a4 : GoodIn wsX5_countLeft (va_wsS RX5 47 yJ6_bitCount_0f7a4 wsJ6_bitCount_0f7a4) := goodIn_app (goodIn_r _ [1, 2, 3] rfl (by decide +kernel)) ggX5_countLeft_J6_bitCount_0f7a4
set_option maxRecDepth 20000 in
theorem ggX5_bestFire_X5_isBetterFire : GoodIn wsX5_bestFire wsX5_isBetterFire := goodIn_r _ [7, 2, 8, 9, 6, 10, 11, 12, 13, 14, 15, 16, 17, 18, 19, 20, 21, 22, 23] rfl (by decide +kernel)
set_option maxRecDepth 20000 in
theorem gX5_bestFire_X5_isBetterFire : GoodIn wsX5_bestFire (wsV RX5 52 RX5 yX5_isBetterFire wsX5_isBetterFire) := goodIn_app (goodIn_r _ [3, 4, 5, 6] rfl (by decide +kernel)) ggX5_bestFire_X5_isBetterFire
set_option maxRecDepth 20000 in
theorem ggX5_isBetterFire_X5_countLeft : GoodIn wsX5_isBetterFire wsX5_countLeft := goodIn_r _ [5, 6, 7, 8, 9, 10, 11, 12] rfl (by decide +kernel)
set_option maxRecDepth 20000 in
theorem gX5_isBetterFire_X5_countLeft : GoodIn wsX5_isBetterFire (va_wsS RX5 56 yX5_countLeft wsX5_countLeft) := goodIn_app (goodIn_r _ [2, 3, 4] rfl (by decide +kernel)) ggX5_isBetterFire_X5_countLeft
set_option maxRecDepth 20000 in
theorem ggX5_fewestShelves_X5_isFilled : GoodIn wsX5_fewestShelves wsX5_isFilled := goodIn_r _ [10, 5, 24, 25, 26, 27, 28, 29] rfl (by decide +kernel)
set_option maxRecDepth 20000 in
theorem gX5_fewestShelves_X5_isFilled : GoodIn wsX5_fewestShelves (wsV RX5 60 RX5 yX5_isFilled wsX5_isFilled) := goodIn_app (goodIn_r _ [6, 7, 8, 9] rfl (by decide +kernel)) ggX5_fewestShelves_X5_isFilled
set_option maxRecDepth 20000 in
theorem ggX5_fewestShelves_X5_fewestFor : GoodIn wsX5_fewestShelves wsX5_fewestFor := goodIn_r _ [14, 4, 15, 16, 17, 18, 19, 20, 21, 9, 22, 23, 2, 3, 24, 25, 26, 27, 28, 29] rfl (by decide +kernel)
set_option maxRecDepth 20000 in
theorem gX5_fewestShelves_X5_fewestFor : GoodIn wsX5_fewestShelves (wsV RX5 64 RX5 yX5_fewestFor wsX5_fewestFor) := goodIn_app (goodIn_r _ [11, 12, 13, 9] rfl (by decide +kernel)) ggX5_fewestShelves_X5_fewestFor
set_option maxRecDepth 20000 in
theorem ggX5_fewestFor_X5_fitsOneShelf : GoodIn wsX5_fewestFor wsX5_fitsOneShelf := goodIn_r _ [10, 11, 12, 13, 14, 15, 16, 17, 18, 19] rfl (by decide +kernel)
set_option maxRecDepth 20000 in
theorem gX5_fewestFor_X5_fitsOneShelf : GoodIn wsX5_fewestFor (wsV RX5 67 RX5 yX5_fitsOneShelf wsX5_fitsOneShelf) := goodIn_app (goodIn_r _ [6, 7, 8, 9] rfl (by decide +kernel)) ggX5_fewestFor_X5_fitsOneShelf
set_option maxRecDepth 20000 in
theorem ggX5_mostBeside_X5_isFilled : GoodIn wsX5_mostBeside wsX5_isFilled := goodIn_r _ [10, 11, 26, 27, 28, 29, 30, 31] rfl (by decide +kernel)
set_option maxRecDepth 20000 in
theorem gX5_mostBeside_X5_isFilled : GoodIn wsX5_mostBeside (wsV RX5 60 RX5 yX5_isFilled wsX5_isFilled) := goodIn_app (goodIn_r _ [6, 7, 8, 9] rfl (by decide +kernel)) ggX5_mostBeside_X5_isFilled
set_option maxRecDepth 20000 in
theorem ggX5_mostBeside_X5_fitsOneShelf : GoodIn wsX5_mostBeside wsX5_fitsOneShelf := goodIn_r _ [15, 16, 17, 18, 26, 27, 28, 29, 30, 31] rfl (by decide +kernel)
set_option maxRecDepth 20000 in
theorem gX5_mostBeside_X5_fitsOneShelf : GoodIn wsX5_mostBeside (wsV RX5 67 RX5 yX5_fitsOneShelf wsX5_fitsOneShelf) := goodIn_app (goodIn_r _ [12, 13, 14, 9] rfl (by decide +kernel)) ggX5_mostBeside_X5_fitsOneShelf
set_option maxRecDepth 20000 in
theorem ggX5_mostBeside_J6_bitCount_0f7a4 : GoodIn wsX5_mostBeside wsJ6_bitCount_0f7a4 := goodIn_r _ [22, 23, 24, 25] rfl (by decide +kernel)
set_option maxRecDepth 20000 in
theorem gX5_mostBeside_J6_bitCount_0f7a4 : GoodIn wsX5_mostBeside (va_wsS RX5 47 yJ6_bitCount_0f7a4 wsJ6_bitCount_0f7a4) := goodIn_app (goodIn_r _ [19, 20, 21] rfl (by decide +kernel)) ggX5_mostBeside_J6_bitCount_0f7a4
set_option maxRecDepth 20000 in
theorem ggX6_init_X2_init : GoodIn wsX6_init wsX2_init := goodIn_r _ [11, 12, 2, 3, 4, 13, 14, 15, 16, 17, 18, 19, 20, 8, 21, 22, 23, 24, 34, 35, 36, 37, 38, 39, 40, 41] rfl (by decide +kernel)
theorem gX6_init_X2_init_n17 : GoodIn wsX6_init (wsX2_init) := ggX6_init_X2_init
set_option maxRecDepth 20000 in
theorem ggX6_read_X2_empty : GoodIn wsX6_read wsX2_empty := goodIn_r _ [10, 11, 12, 13, 70, 71, 72, 73, 74, 75, 76, 77] rfl (by decide +kernel)
theorem gX6_read_X2_empty_n26 : GoodIn wsX6_read (wsX2_empty) := ggX6_read_X2_empty
set_option maxRecDepth 20000 in
theorem ggX6_read_X6_step : GoodIn wsX6_read wsX6_step := goodIn_r _ [18, 4, 19, 20, 6, 5, 21, 22, 23, 17, 24, 25, 26, 27, 28, 29, 30, 31, 32, 61, 62, 63, 64, 65, 66, 67, 68, 69] rfl (by decide +kernel)
set_option maxRecDepth 20000 in
theorem gX6_read_X6_step : GoodIn wsX6_read (wsV RX6 39 RX6 yX6_step wsX6_step) := goodIn_app (goodIn_r _ [14, 15, 16, 17] rfl (by decide +kernel)) ggX6_read_X6_step
set_option maxRecDepth 20000 in
theorem ggX6_read_X6_readItem : GoodIn wsX6_read wsX6_readItem := goodIn_r _ [36, 5, 37, 38, 39, 17, 40, 1, 21, 41, 42, 43, 44, 14, 15, 16, 18, 4, 19, 20, 6, 22, 23, 24, 25, 26, 27, 28, 29, 30, 31, 32, 45, 8, 46, 47, 11, 48, 49, 50, 51, 52, 53, 54, 55, 56, 2, 57, 58, 59, 60, 3, 61, 62, 63, 64, 65, 66, 67, 68, 69, 70, 71, 72, 73, 74, 75, 76, 77] rfl (by decide +kernel)
set_option maxRecDepth 20000 in
theorem gX6_read_X6_readItem : GoodIn wsX6_read (wsV RX6 45 RX6 yX6_readItem wsX6_readItem) := goodIn_app (goodIn_r _ [33, 34, 35, 17] rfl (by decide +kernel)) ggX6_read_X6_readItem
set_option maxRecDepth 20000 in
theorem ggX6_readItem_X6_readPan : GoodIn wsX6_readItem wsX6_readPan := goodIn_r _ [6, 7, 8, 9, 10, 11, 5, 12, 1, 13, 14, 15, 16, 17, 18, 19, 20, 21, 22, 23, 24, 25, 26, 27, 28, 29, 30, 31, 32, 33, 34, 35, 36, 37, 38, 39, 40, 41, 52, 53, 54, 55, 56, 57, 58, 59, 60, 61, 62, 63, 64, 65, 66, 67, 68] rfl (by decide +kernel)
set_option maxRecDepth 20000 in
theorem gX6_readItem_X6_readPan : GoodIn wsX6_readItem (wsV RX6 52 RX6 yX6_readPan wsX6_readPan) := goodIn_app (goodIn_r _ [2, 3, 4, 5] rfl (by decide +kernel)) ggX6_readItem_X6_readPan
set_option maxRecDepth 20000 in
theorem ggX6_readItem_X6_readLeast : GoodIn wsX6_readItem wsX6_readLeast := goodIn_r _ [45, 46, 7, 8, 9, 10, 11, 5, 12, 1, 13, 14, 15, 16, 17, 18, 19, 20, 21, 22, 23, 24, 25, 26, 27, 28, 29, 30, 31, 52, 53, 54, 55, 56, 57, 58, 59, 60, 61, 62, 63, 64, 65, 66, 67, 68] rfl (by decide +kernel)
set_option maxRecDepth 20000 in
theorem gX6_readItem_X6_readLeast : GoodIn wsX6_readItem (wsV RX6 55 RX6 yX6_readLeast wsX6_readLeast) := goodIn_app (goodIn_r _ [42, 43, 44, 5] rfl (by decide +kernel)) ggX6_readItem_X6_readLeast
set_option maxRecDepth 20000 in
theorem ggX6_readItem_X6_readShelf : GoodIn wsX6_readItem wsX6_readShelf := goodIn_r _ [50, 51, 7, 8, 9, 10, 11, 5, 12, 1, 13, 14, 15, 16, 17, 18, 19, 20, 21, 22, 23, 24, 25, 26, 27, 28, 29, 30, 31, 52, 53, 54, 55, 56, 57, 58, 59, 60, 61, 62, 63, 64, 65, 66, 67, 68] rfl (by decide +kernel)
set_option maxRecDepth 20000 in
theorem gX6_readItem_X6_readShelf : GoodIn wsX6_readItem (wsV RX6 58 RX6 yX6_readShelf wsX6_readShelf) := goodIn_app (goodIn_r _ [47, 48, 49, 5] rfl (by decide +kernel)) ggX6_readItem_X6_readShelf
set_option maxRecDepth 20000 in
theorem ggX6_readItem_X6_step : GoodIn wsX6_readItem wsX6_step := goodIn_r _ [16, 17, 18, 19, 20, 1, 8, 21, 22, 5, 23, 24, 25, 26, 27, 28, 29, 30, 31, 52, 53, 54, 55, 56, 57, 58, 59, 60] rfl (by decide +kernel)
set_option maxRecDepth 20000 in
theorem gX6_readItem_X6_step : GoodIn wsX6_readItem (wsV RX6 39 RX6 yX6_step wsX6_step) := goodIn_app (goodIn_r _ [13, 14, 15, 5] rfl (by decide +kernel)) ggX6_readItem_X6_step
set_option maxRecDepth 20000 in
theorem ggX6_readPan_X6_readNumber : GoodIn wsX6_readPan wsX6_readNumber := goodIn_r _ [7, 8, 2, 9, 10, 11, 6, 12, 13, 14, 15, 16, 17, 18, 19, 20, 21, 22, 23, 24, 25, 26, 27, 38, 39, 40, 41, 42, 43, 44, 45, 46] rfl (by decide +kernel)
set_option maxRecDepth 20000 in
theorem gX6_readPan_X6_readNumber : GoodIn wsX6_readPan (wsV RX6 64 RX6 yX6_readNumber wsX6_readNumber) := goodIn_app (goodIn_r _ [3, 4, 5, 6] rfl (by decide +kernel)) ggX6_readPan_X6_readNumber
set_option maxRecDepth 20000 in
theorem ggX6_readPan_X2_append : GoodIn wsX6_readPan wsX2_append := goodIn_r _ [31, 32, 33, 34, 35, 36, 37, 47, 48, 49, 50, 51, 52, 53, 54] rfl (by decide +kernel)
theorem gX6_readPan_X2_append_n71 : GoodIn wsX6_readPan (wsX2_append) := ggX6_readPan_X2_append
set_option maxRecDepth 20000 in
theorem ggX6_readLeast_X6_readNumber : GoodIn wsX6_readLeast wsX6_readNumber := goodIn_r _ [8, 9, 3, 10, 11, 12, 7, 13, 14, 15, 16, 17, 18, 19, 20, 21, 22, 23, 24, 25, 26, 27, 28, 29, 30, 31, 32, 33, 34, 35, 36, 37] rfl (by decide +kernel)
set_option maxRecDepth 20000 in
theorem gX6_readLeast_X6_readNumber : GoodIn wsX6_readLeast (wsV RX6 64 RX6 yX6_readNumber wsX6_readNumber) := goodIn_app (goodIn_r _ [4, 5, 6, 7] rfl (by decide +kernel)) ggX6_readLeast_X6_readNumber
set_option maxRecDepth 20000 in
theorem ggX6_readShelf_X6_readNumber : GoodIn wsX6_readShelf wsX6_readNumber := goodIn_r _ [8, 9, 3, 10, 11, 12, 7, 13, 14, 15, 16, 17, 18, 19, 20, 21, 22, 23, 24, 25, 26, 27, 28, 29, 30, 31, 32, 33, 34, 35, 36, 37] rfl (by decide +kernel)
set_option maxRecDepth 20000 in
theorem gX6_readShelf_X6_readNumber : GoodIn wsX6_readShelf (wsV RX6 64 RX6 yX6_readNumber wsX6_readNumber) := goodIn_app (goodIn_r _ [4, 5, 6, 7] rfl (by decide +kernel)) ggX6_readShelf_X6_readNumber
set_option maxRecDepth 20000 in
theorem ggX6_readNumber_X6_step : GoodIn wsX6_readNumber wsX6_step := goodIn_r _ [7, 8, 9, 10, 11, 1, 2, 12, 13, 6, 14, 15, 16, 17, 18, 19, 20, 21, 22, 23, 24, 25, 26, 27, 28, 29, 30, 31] rfl (by decide +kernel)
set_option maxRecDepth 20000 in
theorem gX6_readNumber_X6_step : GoodIn wsX6_readNumber (wsV RX6 39 RX6 yX6_step wsX6_step) := goodIn_app (goodIn_r _ [3, 4, 5, 6] rfl (by decide +kernel)) ggX6_readNumber_X6_step
set_option maxRecDepth 20000 in
theorem ggX6_step_X6_isDigit : GoodIn wsX6_step wsX6_isDigit := goodIn_r _ [10] rfl (by decide +kernel)
set_option maxRecDepth 20000 in
theorem gX6_step_X6_isDigit : GoodIn wsX6_step (va_wsS RX6 81 yX6_isDigit wsX6_isDigit) := goodIn_app (goodIn_r _ [7, 8, 9] rfl (by decide +kernel)) ggX6_step_X6_isDigit
set_option maxRecDepth 20000 in
theorem ggX6_step_X6_digits : GoodIn wsX6_step wsX6_digits := goodIn_r _ [14, 1, 2, 3, 4, 15, 16, 17, 18, 7, 8, 9, 10, 19, 20, 21, 22, 23, 24, 25, 26, 27] rfl (by decide +kernel)
set_option maxRecDepth 20000 in
theorem gX6_step_X6_digits : GoodIn wsX6_step (wsV RX6 85 RX6 yX6_digits wsX6_digits) := goodIn_app (goodIn_r _ [11, 12, 13, 9] rfl (by decide +kernel)) ggX6_step_X6_digits
set_option maxRecDepth 20000 in
theorem ggX6_digits_X6_isDigit : GoodIn wsX6_digits wsX6_isDigit := goodIn_r _ [12] rfl (by decide +kernel)
set_option maxRecDepth 20000 in
theorem gX6_digits_X6_isDigit : GoodIn wsX6_digits (va_wsS RX6 81 yX6_isDigit wsX6_isDigit) := goodIn_app (goodIn_r _ [9, 10, 11] rfl (by decide +kernel)) ggX6_digits_X6_isDigit
set_option maxRecDepth 20000 in
theorem ggX7_init_X2_init : GoodIn wsX7_init wsX2_init := goodIn_r _ [37, 38, 2, 3, 39, 40, 41, 42, 43, 44, 45, 46, 47, 6, 48, 49, 50, 51, 83, 84, 85, 86, 87, 88, 89, 90] rfl (by decide +kernel)
theorem gX7_init_X2_init_n9 : GoodIn wsX7_init (wsX2_init) := ggX7_init_X2_init
set_option maxRecDepth 20000 in
theorem ggX7_init_X6_init : GoodIn wsX7_init wsX6_init := goodIn_r _ [53, 54, 2, 3, 39, 55, 56, 5, 6, 57, 36, 37, 38, 40, 41, 42, 43, 44, 45, 46, 47, 48, 49, 50, 51, 101, 102, 103, 104, 105, 106, 107, 108, 109, 83, 84, 85, 86, 87, 88, 89, 90] rfl (by decide +kernel)
theorem gX7_init_X6_init_n18 : GoodIn wsX7_init (wsX6_init) := ggX7_init_X6_init
set_option maxRecDepth 20000 in
theorem ggX7_init_X4_init : GoodIn wsX7_init wsX4_init := goodIn_r _ [59, 60, 2, 3, 39, 61, 62, 110, 111, 112, 113] rfl (by decide +kernel)
theorem gX7_init_X4_init_n25 : GoodIn wsX7_init (wsX4_init) := ggX7_init_X4_init
set_option maxRecDepth 20000 in
theorem ggX7_init_X1_init : GoodIn wsX7_init wsX1_init := goodIn_r _ [64, 65, 2, 3, 66, 67, 13, 14, 58, 59, 60, 39, 61, 62, 114, 115, 116, 110, 111, 112, 113] rfl (by decide +kernel)
theorem gX7_init_X1_init_n34 : GoodIn wsX7_init (wsX1_init) := ggX7_init_X1_init
set_option maxRecDepth 20000 in
theorem ggX7_init_X3_init : GoodIn wsX7_init wsX3_init := goodIn_r _ [69, 70, 2, 3, 39, 71, 72, 73, 117, 118, 119, 120] rfl (by decide +kernel)
theorem gX7_init_X3_init_n49 : GoodIn wsX7_init (wsX3_init) := ggX7_init_X3_init
set_option maxRecDepth 20000 in
theorem ggX7_init_X5_init : GoodIn wsX7_init wsX5_init := goodIn_r _ [75, 76, 2, 3, 39, 77, 78, 121, 122, 123, 124, 125, 126] rfl (by decide +kernel)
theorem gX7_init_X5_init_n56 : GoodIn wsX7_init (wsX5_init) := ggX7_init_X5_init
set_option maxRecDepth 20000 in
theorem ggX7_init_X0_init : GoodIn wsX7_init wsX0_init := goodIn_r _ [80, 81, 2, 3, 39, 82, 127, 128, 129] rfl (by decide +kernel)
theorem gX7_init_X0_init_n63 : GoodIn wsX7_init (wsX0_init) := ggX7_init_X0_init
set_option maxRecDepth 20000 in
theorem ggX7_type_X7_isWithin : GoodIn wsX7_type wsX7_isWithin := goodIn_r _ [5] rfl (by decide +kernel)
set_option maxRecDepth 20000 in
theorem gX7_type_X7_isWithin : GoodIn wsX7_type (va_wsS RX7 72 yX7_isWithin wsX7_isWithin) := goodIn_app (goodIn_r _ [2, 3, 4] rfl (by decide +kernel)) ggX7_type_X7_isWithin
set_option maxRecDepth 20000 in
theorem ggX7_type_X6_append : GoodIn wsX7_type wsX6_append := goodIn_r _ [9, 10, 11, 22, 23, 24, 25, 26, 27, 28, 29, 30] rfl (by decide +kernel)
theorem gX7_type_X6_append_n76 : GoodIn wsX7_type (wsX6_append) := ggX7_type_X6_append
set_option maxRecDepth 20000 in
theorem ggX7_house_X6_read : GoodIn wsX7_house wsX6_read := goodIn_r _ [10, 11, 12, 13, 14, 15, 16, 17, 18, 19, 20, 21, 22, 23, 24, 25, 26, 8, 27, 28, 29, 30, 31, 32, 33, 34, 35, 36, 37, 38, 39, 40, 41, 42, 43, 44, 45, 46, 47, 48, 49, 50, 51, 52, 53, 54, 55, 56, 57, 58, 59, 60, 61, 62, 63, 64, 65, 66, 67, 68, 69, 94, 95, 96, 97, 98, 99, 100, 101, 102, 110, 111, 112, 113, 114, 115, 116, 117] rfl (by decide +kernel)
theorem gX7_house_X6_read_n84 : GoodIn wsX7_house (wsX6_read) := ggX7_house_X6_read
set_option maxRecDepth 20000 in
theorem ggX7_house_X2_become : GoodIn wsX7_house wsX2_become := goodIn_r _ [72, 21, 22, 23, 57, 58, 59, 60, 61, 110, 111, 112, 113, 114, 115, 116, 117] rfl (by decide +kernel)
theorem gX7_house_X2_become_n91 : GoodIn wsX7_house (wsX2_become) := ggX7_house_X2_become
set_option maxRecDepth 20000 in
theorem ggX7_house_X4_fill : GoodIn wsX7_house wsX4_fill := goodIn_r _ [76, 77, 78, 79, 80, 81, 82, 74, 83, 118, 119, 120, 121, 110, 111, 112, 113, 114, 115, 116, 117] rfl (by decide +kernel)
theorem gX7_house_X4_fill_n94 : GoodIn wsX7_house (wsX4_fill) := ggX7_house_X4_fill
set_option maxRecDepth 20000 in
theorem ggX7_pan_X2_has : GoodIn wsX7_pan wsX2_has := goodIn_r _ [6, 7, 48, 49, 50, 51, 52, 53, 54, 55] rfl (by decide +kernel)
theorem gX7_pan_X2_has_n103 : GoodIn wsX7_pan (wsX2_has) := ggX7_pan_X2_has
set_option maxRecDepth 20000 in
theorem ggX7_pan_X4_inPan : GoodIn wsX7_pan wsX4_inPan := goodIn_r _ [11, 12, 13, 14, 15, 9, 16, 17, 18, 19, 20, 56, 57, 58, 59, 48, 49, 50, 51, 52, 53, 54, 55] rfl (by decide +kernel)
theorem gX7_pan_X4_inPan_n116 : GoodIn wsX7_pan (wsX4_inPan) := ggX7_pan_X4_inPan
set_option maxRecDepth 20000 in
theorem ggX7_pan_X4_canBeRead : GoodIn wsX7_pan wsX4_canBeRead := goodIn_r _ [23, 24, 25, 26, 9, 27, 12, 28, 29, 30, 31, 13, 14, 15, 16, 17, 18, 19, 20, 56, 57, 58, 59, 48, 49, 50, 51, 52, 53, 54, 55] rfl (by decide +kernel)
theorem gX7_pan_X4_canBeRead_n120 : GoodIn wsX7_pan (wsX4_canBeRead) := ggX7_pan_X4_canBeRead
set_option maxRecDepth 20000 in
theorem ggX7_pan_X4_tasteOf : GoodIn wsX7_pan wsX4_tasteOf := goodIn_r _ [34, 12, 13, 14, 15, 9, 16, 17, 18, 19, 20, 56, 57, 58, 59, 48, 49, 50, 51, 52, 53, 54, 55] rfl (by decide +kernel)
theorem gX7_pan_X4_tasteOf_n123 : GoodIn wsX7_pan (wsX4_tasteOf) := ggX7_pan_X4_tasteOf
set_option maxRecDepth 20000 in
theorem ggX7_pan_X4_whereIs : GoodIn wsX7_pan wsX4_whereIs := goodIn_r _ [37, 12, 13, 14, 15, 9, 16, 17, 18, 19, 20, 56, 57, 58, 59, 48, 49, 50, 51, 52, 53, 54, 55] rfl (by decide +kernel)
theorem gX7_pan_X4_whereIs_n126 : GoodIn wsX7_pan (wsX4_whereIs) := ggX7_pan_X4_whereIs
set_option maxRecDepth 20000 in
theorem ggX7_holds_X2_has : GoodIn wsX7_holds wsX2_has := goodIn_r _ [6, 7, 26, 27, 28, 29, 30, 31, 32, 33] rfl (by decide +kernel)
theorem gX7_holds_X2_has_n103 : GoodIn wsX7_holds (wsX2_has) := ggX7_holds_X2_has
set_option maxRecDepth 20000 in
theorem ggX7_holds_X4_amount : GoodIn wsX7_holds wsX4_amount := goodIn_r _ [11, 12, 13, 14, 9, 15, 34, 35, 36, 37] rfl (by decide +kernel)
theorem gX7_holds_X4_amount_n129 : GoodIn wsX7_holds (wsX4_amount) := ggX7_holds_X4_amount
set_option maxRecDepth 20000 in
theorem ggX7_now_X4_inAll : GoodIn wsX7_now wsX4_inAll := goodIn_r _ [6, 7, 8, 9, 10, 4, 11, 12, 13, 14, 15, 16, 17, 18, 19, 52, 53, 54, 55, 59, 60, 61, 62, 63, 64, 65, 66] rfl (by decide +kernel)
theorem gX7_now_X4_inAll_n139 : GoodIn wsX7_now (wsX4_inAll) := ggX7_now_X4_inAll
set_option maxRecDepth 20000 in
theorem ggX7_now_X4_readable : GoodIn wsX7_now wsX4_readable := goodIn_r _ [22, 7, 23, 24, 25, 4, 26, 27, 28, 29, 30, 31, 32, 33, 34, 12, 13, 14, 15, 16, 17, 18, 19, 52, 53, 54, 55, 59, 60, 61, 62, 63, 64, 65, 66] rfl (by decide +kernel)
theorem gX7_now_X4_readable_n142 : GoodIn wsX7_now (wsX4_readable) := ggX7_now_X4_readable
set_option maxRecDepth 20000 in
theorem ggX7_now_X4_wettest : GoodIn wsX7_now wsX4_wettest := goodIn_r _ [37, 7, 38, 39, 40, 4, 41, 12, 13, 14, 15, 16, 17, 18, 19, 52, 53, 54, 55, 59, 60, 61, 62, 63, 64, 65, 66] rfl (by decide +kernel)
theorem gX7_now_X4_wettest_n145 : GoodIn wsX7_now (wsX4_wettest) := ggX7_now_X4_wettest
set_option maxRecDepth 20000 in
theorem ggX7_uses_X2_has : GoodIn wsX7_uses wsX2_has := goodIn_r _ [7, 8, 56, 57, 58, 59, 60, 61, 62, 63] rfl (by decide +kernel)
theorem gX7_uses_X2_has_n103 : GoodIn wsX7_uses (wsX2_has) := ggX7_uses_X2_has
set_option maxRecDepth 20000 in
theorem ggX7_uses_X7_isWithin : GoodIn wsX7_uses wsX7_isWithin := goodIn_r _ [12] rfl (by decide +kernel)
set_option maxRecDepth 20000 in
theorem gX7_uses_X7_isWithin : GoodIn wsX7_uses (va_wsS RX7 72 yX7_isWithin wsX7_isWithin) := goodIn_app (goodIn_r _ [9, 10, 11] rfl (by decide +kernel)) ggX7_uses_X7_isWithin
set_option maxRecDepth 20000 in
theorem ggX7_uses_X4_inPan : GoodIn wsX7_uses wsX4_inPan := goodIn_r _ [16, 17, 18, 19, 20, 14, 21, 22, 23, 24, 25, 64, 65, 66, 67, 56, 57, 58, 59, 60, 61, 62, 63] rfl (by decide +kernel)
theorem gX7_uses_X4_inPan_n116 : GoodIn wsX7_uses (wsX4_inPan) := ggX7_uses_X4_inPan
set_option maxRecDepth 20000 in
theorem ggX7_uses_X1_remember : GoodIn wsX7_uses wsX1_remember := goodIn_r _ [29, 30, 31, 32, 33, 34, 35, 36, 37, 14, 38, 39, 40, 41, 22, 68, 69, 70, 64, 65, 66, 67] rfl (by decide +kernel)
theorem gX7_uses_X1_remember_n148 : GoodIn wsX7_uses (wsX1_remember) := ggX7_uses_X1_remember
set_option maxRecDepth 20000 in
theorem ggX7_uses_X4_take : GoodIn wsX7_uses wsX4_take := goodIn_r _ [44, 17, 45, 34, 35, 36, 22, 41, 18, 19, 20, 14, 21, 23, 24, 25, 64, 65, 66, 67, 56, 57, 58, 59, 60, 61, 62, 63] rfl (by decide +kernel)
theorem gX7_uses_X4_take_n152 : GoodIn wsX7_uses (wsX4_take) := ggX7_uses_X4_take
set_option maxRecDepth 20000 in
theorem ggX7_pours_X2_has : GoodIn wsX7_pours wsX2_has := goodIn_r _ [7, 8, 56, 57, 58, 59, 60, 61, 62, 63] rfl (by decide +kernel)
theorem gX7_pours_X2_has_n103 : GoodIn wsX7_pours (wsX2_has) := ggX7_pours_X2_has
set_option maxRecDepth 20000 in
theorem ggX7_pours_X7_isWithin : GoodIn wsX7_pours wsX7_isWithin := goodIn_r _ [12] rfl (by decide +kernel)
set_option maxRecDepth 20000 in
theorem gX7_pours_X7_isWithin : GoodIn wsX7_pours (va_wsS RX7 72 yX7_isWithin wsX7_isWithin) := goodIn_app (goodIn_r _ [9, 10, 11] rfl (by decide +kernel)) ggX7_pours_X7_isWithin
set_option maxRecDepth 20000 in
theorem ggX7_pours_X4_inPan : GoodIn wsX7_pours wsX4_inPan := goodIn_r _ [16, 17, 18, 19, 20, 14, 21, 22, 23, 24, 25, 64, 65, 66, 67, 56, 57, 58, 59, 60, 61, 62, 63] rfl (by decide +kernel)
theorem gX7_pours_X4_inPan_n116 : GoodIn wsX7_pours (wsX4_inPan) := ggX7_pours_X4_inPan
set_option maxRecDepth 20000 in
theorem ggX7_pours_X1_remember : GoodIn wsX7_pours wsX1_remember := goodIn_r _ [29, 30, 31, 32, 33, 34, 35, 36, 37, 14, 38, 39, 40, 41, 22, 68, 69, 70, 64, 65, 66, 67] rfl (by decide +kernel)
theorem gX7_pours_X1_remember_n148 : GoodIn wsX7_pours (wsX1_remember) := ggX7_pours_X1_remember
set_option maxRecDepth 20000 in
theorem ggX7_pours_X4_take : GoodIn wsX7_pours wsX4_take := goodIn_r _ [44, 17, 45, 34, 35, 36, 22, 41, 18, 19, 20, 14, 21, 23, 24, 25, 64, 65, 66, 67, 56, 57, 58, 59, 60, 61, 62, 63] rfl (by decide +kernel)
theorem gX7_pours_X4_take_n152 : GoodIn wsX7_pours (wsX4_take) := ggX7_pours_X4_take
set_option maxRecDepth 20000 in
theorem ggX7_spring_X1_remember : GoodIn wsX7_spring wsX1_remember := goodIn_r _ [6, 7, 8, 9, 10, 11, 12, 13, 14, 15, 16, 17, 18, 19, 20, 51, 52, 53, 47, 48, 49, 50] rfl (by decide +kernel)
theorem gX7_spring_X1_remember_n148 : GoodIn wsX7_spring (wsX1_remember) := ggX7_spring_X1_remember
set_option maxRecDepth 20000 in
theorem ggX7_spring_X4_passSpring : GoodIn wsX7_spring wsX4_passSpring := goodIn_r _ [23, 24, 18, 25, 26, 27, 15, 28, 29, 11, 12, 13, 20, 19, 30, 31, 32, 33, 34, 35, 36, 47, 48, 49, 50, 54, 55, 56, 57, 58, 59, 60, 61] rfl (by decide +kernel)
theorem gX7_spring_X4_passSpring_n156 : GoodIn wsX7_spring (wsX4_passSpring) := ggX7_spring_X4_passSpring
set_option maxRecDepth 20000 in
theorem ggX7_splits_X2_has : GoodIn wsX7_splits wsX2_has := goodIn_r _ [7, 8, 52, 53, 54, 55, 56, 57, 58, 59] rfl (by decide +kernel)
theorem gX7_splits_X2_has_n103 : GoodIn wsX7_splits (wsX2_has) := ggX7_splits_X2_has
set_option maxRecDepth 20000 in
theorem ggX7_splits_X4_inPan : GoodIn wsX7_splits wsX4_inPan := goodIn_r _ [12, 13, 14, 15, 16, 10, 17, 18, 19, 20, 21, 60, 61, 62, 63, 52, 53, 54, 55, 56, 57, 58, 59] rfl (by decide +kernel)
theorem gX7_splits_X4_inPan_n116 : GoodIn wsX7_splits (wsX4_inPan) := ggX7_splits_X4_inPan
set_option maxRecDepth 20000 in
theorem ggX7_splits_X1_remember : GoodIn wsX7_splits wsX1_remember := goodIn_r _ [25, 26, 27, 28, 29, 30, 31, 32, 33, 10, 34, 35, 36, 37, 18, 64, 65, 66, 60, 61, 62, 63] rfl (by decide +kernel)
theorem gX7_splits_X1_remember_n148 : GoodIn wsX7_splits (wsX1_remember) := ggX7_splits_X1_remember
set_option maxRecDepth 20000 in
theorem ggX7_splits_X4_take : GoodIn wsX7_splits wsX4_take := goodIn_r _ [40, 13, 41, 30, 31, 32, 18, 37, 14, 15, 16, 10, 17, 19, 20, 21, 60, 61, 62, 63, 52, 53, 54, 55, 56, 57, 58, 59] rfl (by decide +kernel)
theorem gX7_splits_X4_take_n152 : GoodIn wsX7_splits (wsX4_take) := ggX7_splits_X4_take
set_option maxRecDepth 20000 in
theorem ggX7_undo_X1_restore : GoodIn wsX7_undo wsX1_restore := goodIn_r _ [6, 7, 8, 9, 10, 11, 12, 13, 14, 15, 16, 27, 28, 29, 30, 31, 32, 33] rfl (by decide +kernel)
theorem gX7_undo_X1_restore_n159 : GoodIn wsX7_undo (wsX1_restore) := ggX7_undo_X1_restore
set_option maxRecDepth 20000 in
theorem ggX7_lasts_X2_has : GoodIn wsX7_lasts wsX2_has := goodIn_r _ [6, 7, 35, 36, 37, 38, 39, 40, 41, 42] rfl (by decide +kernel)
theorem gX7_lasts_X2_has_n103 : GoodIn wsX7_lasts (wsX2_has) := ggX7_lasts_X2_has
set_option maxRecDepth 20000 in
theorem ggX7_lasts_X4_canBeReadIn : GoodIn wsX7_lasts wsX4_canBeReadIn := goodIn_r _ [11, 12, 13, 14, 15, 16, 17, 18, 19, 9, 20, 21, 22, 23, 24, 43, 44, 45, 46, 35, 36, 37, 38, 39, 40, 41, 42] rfl (by decide +kernel)
theorem gX7_lasts_X4_canBeReadIn_n162 : GoodIn wsX7_lasts (wsX4_canBeReadIn) := ggX7_lasts_X4_canBeReadIn
set_option maxRecDepth 20000 in
theorem ggX7_inSprings_X7_isWithin : GoodIn wsX7_inSprings wsX7_isWithin := goodIn_r _ [6] rfl (by decide +kernel)
set_option maxRecDepth 20000 in
theorem gX7_inSprings_X7_isWithin : GoodIn wsX7_inSprings (va_wsS RX7 72 yX7_isWithin wsX7_isWithin) := goodIn_app (goodIn_r _ [3, 4, 5] rfl (by decide +kernel)) ggX7_inSprings_X7_isWithin
set_option maxRecDepth 20000 in
theorem ggX7_inSprings_X7_countReadableIn : GoodIn wsX7_inSprings wsX7_countReadableIn := goodIn_r _ [10, 1, 2, 11, 12, 13, 14, 15, 16, 17, 18, 19, 20, 21, 22, 23, 24, 25, 26, 27, 43, 44, 45, 46, 47, 48, 49, 50, 51, 52, 53, 54, 55, 56, 57, 58, 59, 60, 61, 62, 63, 64] rfl (by decide +kernel)
set_option maxRecDepth 20000 in
theorem gX7_inSprings_X7_countReadableIn : GoodIn wsX7_inSprings (wsV RX7 166 RX7 yX7_countReadableIn wsX7_countReadableIn) := goodIn_app (goodIn_r _ [7, 8, 9, 5] rfl (by decide +kernel)) ggX7_inSprings_X7_countReadableIn
set_option maxRecDepth 20000 in
theorem ggX7_inSprings_X2_has : GoodIn wsX7_inSprings wsX2_has := goodIn_r _ [31, 32, 53, 54, 55, 56, 57, 58, 59, 60] rfl (by decide +kernel)
theorem gX7_inSprings_X2_has_n103 : GoodIn wsX7_inSprings (wsX2_has) := ggX7_inSprings_X2_has
set_option maxRecDepth 20000 in
theorem ggX7_inSprings_X4_inPan : GoodIn wsX7_inSprings wsX4_inPan := goodIn_r _ [35, 15, 20, 21, 22, 12, 23, 24, 25, 26, 27, 61, 62, 63, 64, 53, 54, 55, 56, 57, 58, 59, 60] rfl (by decide +kernel)
theorem gX7_inSprings_X4_inPan_n116 : GoodIn wsX7_inSprings (wsX4_inPan) := ggX7_inSprings_X4_inPan
set_option maxRecDepth 20000 in
theorem ggX7_inSprings_X7_afterSprings : GoodIn wsX7_inSprings wsX7_afterSprings := goodIn_r _ [39, 1, 40, 41, 18, 42, 43, 44, 45, 46, 47, 48, 49, 50, 51, 52, 53, 54, 55, 56, 57, 58, 59, 60] rfl (by decide +kernel)
set_option maxRecDepth 20000 in
theorem gX7_inSprings_X7_afterSprings : GoodIn wsX7_inSprings (wsV RX7 169 RX7 yX7_afterSprings wsX7_afterSprings) := goodIn_app (goodIn_r _ [36, 37, 38, 5] rfl (by decide +kernel)) ggX7_inSprings_X7_afterSprings
set_option maxRecDepth 20000 in
theorem ggX7_countReadableIn_X4_canBeReadIn : GoodIn wsX7_countReadableIn wsX4_canBeReadIn := goodIn_r _ [6, 7, 8, 9, 10, 11, 12, 13, 14, 4, 15, 16, 17, 18, 19, 38, 39, 40, 41, 30, 31, 32, 33, 34, 35, 36, 37] rfl (by decide +kernel)
theorem gX7_countReadableIn_X4_canBeReadIn_n162 : GoodIn wsX7_countReadableIn (wsX4_canBeReadIn) := ggX7_countReadableIn_X4_canBeReadIn
set_option maxRecDepth 20000 in
theorem ggX7_fire_X7_isWithin : GoodIn wsX7_fire wsX7_isWithin := goodIn_r _ [7] rfl (by decide +kernel)
set_option maxRecDepth 20000 in
theorem gX7_fire_X7_isWithin : GoodIn wsX7_fire (va_wsS RX7 72 yX7_isWithin wsX7_isWithin) := goodIn_app (goodIn_r _ [4, 5, 6] rfl (by decide +kernel)) ggX7_fire_X7_isWithin
set_option maxRecDepth 20000 in
theorem ggX7_fire_X5_weigh : GoodIn wsX7_fire wsX5_weigh := goodIn_r _ [11, 12, 13, 14, 15, 16, 17, 18, 19, 20, 21, 22, 23, 24, 25, 26, 27, 28, 29, 30, 31, 32, 33, 34, 35, 78, 79, 80, 81, 82, 83, 84, 85, 86, 87, 88, 89, 90, 91, 92, 93, 94, 95] rfl (by decide +kernel)
theorem gX7_fire_X5_weigh_n180 : GoodIn wsX7_fire (wsX5_weigh) := ggX7_fire_X5_weigh
set_option maxRecDepth 20000 in
theorem ggX7_fire_X4_readable : GoodIn wsX7_fire wsX4_readable := goodIn_r _ [38, 27, 39, 40, 41, 24, 42, 43, 44, 45, 46, 47, 48, 49, 50, 28, 29, 30, 31, 32, 33, 34, 35, 92, 93, 94, 95, 84, 85, 86, 87, 88, 89, 90, 91] rfl (by decide +kernel)
theorem gX7_fire_X4_readable_n142 : GoodIn wsX7_fire (wsX4_readable) := ggX7_fire_X4_readable
set_option maxRecDepth 20000 in
theorem ggX7_fire_X5_bestFire : GoodIn wsX7_fire wsX5_bestFire := goodIn_r _ [53, 12, 16, 54, 55, 56, 9, 57, 58, 59, 60, 61, 62, 63, 64, 65, 66, 67, 78, 79, 80, 81, 82, 83] rfl (by decide +kernel)
theorem gX7_fire_X5_bestFire_n184 : GoodIn wsX7_fire (wsX5_bestFire) := ggX7_fire_X5_bestFire
set_option maxRecDepth 20000 in
theorem ggX7_fire_X5_countLeft : GoodIn wsX7_fire wsX5_countLeft := goodIn_r _ [60, 61, 62, 63, 64, 65, 66, 67] rfl (by decide +kernel)
theorem gX7_fire_X5_countLeft_n187 : GoodIn wsX7_fire (wsX5_countLeft) := ggX7_fire_X5_countLeft
set_option maxRecDepth 20000 in
theorem ggX7_spoil_X2_has : GoodIn wsX7_spoil wsX2_has := goodIn_r _ [6, 7, 42, 43, 44, 45, 46, 47, 48, 49] rfl (by decide +kernel)
theorem gX7_spoil_X2_has_n103 : GoodIn wsX7_spoil (wsX2_has) := ggX7_spoil_X2_has
set_option maxRecDepth 20000 in
theorem ggX7_spoil_X4_canBeRead : GoodIn wsX7_spoil wsX4_canBeRead := goodIn_r _ [11, 12, 13, 14, 9, 15, 16, 17, 18, 19, 20, 21, 22, 23, 24, 25, 26, 27, 28, 50, 51, 52, 53, 42, 43, 44, 45, 46, 47, 48, 49] rfl (by decide +kernel)
theorem gX7_spoil_X4_canBeRead_n120 : GoodIn wsX7_spoil (wsX4_canBeRead) := ggX7_spoil_X4_canBeRead
set_option maxRecDepth 20000 in
theorem ggX7_spoil_X4_inPan : GoodIn wsX7_spoil wsX4_inPan := goodIn_r _ [31, 16, 21, 22, 23, 9, 24, 25, 26, 27, 28, 50, 51, 52, 53, 42, 43, 44, 45, 46, 47, 48, 49] rfl (by decide +kernel)
theorem gX7_spoil_X4_inPan_n116 : GoodIn wsX7_spoil (wsX4_inPan) := ggX7_spoil_X4_inPan
set_option maxRecDepth 20000 in
theorem ggX7_mix_X7_isWithin : GoodIn wsX7_mix wsX7_isWithin := goodIn_r _ [5] rfl (by decide +kernel)
set_option maxRecDepth 20000 in
theorem gX7_mix_X7_isWithin : GoodIn wsX7_mix (va_wsS RX7 72 yX7_isWithin wsX7_isWithin) := goodIn_app (goodIn_r _ [2, 3, 4] rfl (by decide +kernel)) ggX7_mix_X7_isWithin
set_option maxRecDepth 20000 in
theorem ggX7_mix_X2_spoonsOfLesser : GoodIn wsX7_mix wsX2_spoonsOfLesser := goodIn_r _ [9, 10, 21, 22, 23, 24, 25, 26, 27, 28] rfl (by decide +kernel)
theorem gX7_mix_X2_spoonsOfLesser_n193 : GoodIn wsX7_mix (wsX2_spoonsOfLesser) := ggX7_mix_X2_spoonsOfLesser
set_option maxRecDepth 20000 in
theorem ggX7_levels_X7_isWithin : GoodIn wsX7_levels wsX7_isWithin := goodIn_r _ [6] rfl (by decide +kernel)
set_option maxRecDepth 20000 in
theorem gX7_levels_X7_isWithin : GoodIn wsX7_levels (va_wsS RX7 72 yX7_isWithin wsX7_isWithin) := goodIn_app (goodIn_r _ [3, 4, 5] rfl (by decide +kernel)) ggX7_levels_X7_isWithin
set_option maxRecDepth 20000 in
theorem ggX7_levels_X2_has : GoodIn wsX7_levels wsX2_has := goodIn_r _ [10, 11, 34, 35, 36, 37, 38, 39, 40, 41] rfl (by decide +kernel)
theorem gX7_levels_X2_has_n103 : GoodIn wsX7_levels (wsX2_has) := ggX7_levels_X2_has
set_option maxRecDepth 20000 in
theorem ggX7_levels_X3_append : GoodIn wsX7_levels wsX3_append := goodIn_r _ [15, 16, 17, 18, 19, 30, 31, 32, 33] rfl (by decide +kernel)
theorem gX7_levels_X3_append_n197 : GoodIn wsX7_levels (wsX3_append) := ggX7_levels_X3_append
set_option maxRecDepth 20000 in
theorem ggX7_theft_X7_isWithin : GoodIn wsX7_theft wsX7_isWithin := goodIn_r _ [10] rfl (by decide +kernel)
set_option maxRecDepth 20000 in
theorem gX7_theft_X7_isWithin : GoodIn wsX7_theft (va_wsS RX7 72 yX7_isWithin wsX7_isWithin) := goodIn_app (goodIn_r _ [7, 8, 9] rfl (by decide +kernel)) ggX7_theft_X7_isWithin
set_option maxRecDepth 20000 in
theorem ggX7_theft_X4_inPan : GoodIn wsX7_theft wsX4_inPan := goodIn_r _ [14, 15, 16, 17, 18, 12, 19, 20, 21, 22, 23, 54, 55, 56, 57, 46, 47, 48, 49, 50, 51, 52, 53] rfl (by decide +kernel)
theorem gX7_theft_X4_inPan_n116 : GoodIn wsX7_theft (wsX4_inPan) := ggX7_theft_X4_inPan
set_option maxRecDepth 20000 in
theorem ggX7_theft_X7_areLevelsSo : GoodIn wsX7_theft wsX7_areLevelsSo := goodIn_r _ [27, 28, 2, 11, 12, 13, 14, 15, 16, 17, 18, 19, 20, 21, 22, 23, 29, 30, 31, 9, 32, 1, 33, 34, 5, 35, 36, 37, 38, 39, 40, 41, 42, 43, 44, 45, 58, 59, 60, 61, 54, 55, 56, 57, 46, 47, 48, 49, 50, 51, 52, 53] rfl (by decide +kernel)
set_option maxRecDepth 20000 in
theorem gX7_theft_X7_areLevelsSo : GoodIn wsX7_theft (wsV RX7 202 RX7 yX7_areLevelsSo wsX7_areLevelsSo) := goodIn_app (goodIn_r _ [24, 25, 26, 9] rfl (by decide +kernel)) ggX7_theft_X7_areLevelsSo
set_option maxRecDepth 20000 in
theorem ggX7_areLevelsSo_X4_inPan : GoodIn wsX7_areLevelsSo wsX4_inPan := goodIn_r _ [6, 7, 8, 9, 10, 4, 11, 12, 13, 14, 15, 40, 41, 42, 43, 44, 45, 46, 47, 48, 49, 50, 51] rfl (by decide +kernel)
theorem gX7_areLevelsSo_X4_inPan_n116 : GoodIn wsX7_areLevelsSo (wsX4_inPan) := ggX7_areLevelsSo_X4_inPan
set_option maxRecDepth 20000 in
theorem ggX7_areLevelsSo_X7_afterSprings : GoodIn wsX7_areLevelsSo wsX7_afterSprings := goodIn_r _ [20, 21, 22, 23, 24, 25, 26, 27, 28, 29, 30, 31, 32, 33, 34, 35, 44, 45, 46, 47, 48, 49, 50, 51] rfl (by decide +kernel)
set_option maxRecDepth 20000 in
theorem gX7_areLevelsSo_X7_afterSprings : GoodIn wsX7_areLevelsSo (wsV RX7 169 RX7 yX7_afterSprings wsX7_afterSprings) := goodIn_app (goodIn_r _ [16, 17, 18, 19] rfl (by decide +kernel)) ggX7_areLevelsSo_X7_afterSprings
set_option maxRecDepth 20000 in
theorem ggX7_shelves_X5_weigh : GoodIn wsX7_shelves wsX5_weigh := goodIn_r _ [7, 8, 9, 10, 11, 12, 13, 14, 15, 16, 17, 18, 19, 20, 21, 22, 23, 24, 25, 26, 27, 28, 29, 30, 31, 62, 63, 64, 65, 66, 67, 68, 69, 70, 71, 72, 73, 74, 75, 76, 77, 78, 79] rfl (by decide +kernel)
theorem gX7_shelves_X5_weigh_n180 : GoodIn wsX7_shelves (wsX5_weigh) := ggX7_shelves_X5_weigh
set_option maxRecDepth 20000 in
theorem ggX7_shelves_X5_fewestShelves : GoodIn wsX7_shelves wsX5_fewestShelves := goodIn_r _ [34, 8, 12, 9, 35, 11, 36, 37, 38, 5, 39, 40, 41, 42, 43, 44, 45, 46, 47, 48, 49, 50, 51, 10, 62, 63, 64, 65, 66, 67] rfl (by decide +kernel)
theorem gX7_shelves_X5_fewestShelves_n212 : GoodIn wsX7_shelves (wsX5_fewestShelves) := ggX7_shelves_X5_fewestShelves
set_option maxRecDepth 20000 in
theorem ggX7_beside_X2_has : GoodIn wsX7_beside wsX2_has := goodIn_r _ [7, 8, 67, 68, 69, 70, 71, 72, 73, 74] rfl (by decide +kernel)
theorem gX7_beside_X2_has_n103 : GoodIn wsX7_beside (wsX2_has) := ggX7_beside_X2_has
set_option maxRecDepth 20000 in
theorem ggX7_beside_X5_weigh : GoodIn wsX7_beside wsX5_weigh := goodIn_r _ [12, 13, 14, 15, 16, 17, 18, 5, 19, 20, 8, 21, 22, 23, 24, 25, 26, 27, 28, 29, 30, 31, 32, 33, 34, 75, 76, 77, 78, 79, 80, 67, 68, 69, 70, 71, 72, 73, 74, 81, 82, 83, 84] rfl (by decide +kernel)
theorem gX7_beside_X5_weigh_n180 : GoodIn wsX7_beside (wsX5_weigh) := ggX7_beside_X5_weigh
set_option maxRecDepth 20000 in
theorem ggX7_beside_X5_mostBeside : GoodIn wsX7_beside wsX5_mostBeside := goodIn_r _ [37, 13, 38, 39, 40, 41, 42, 43, 44, 10, 45, 16, 46, 47, 48, 49, 15, 17, 14, 50, 51, 52, 53, 54, 55, 56, 75, 76, 77, 78, 79, 80] rfl (by decide +kernel)
theorem gX7_beside_X5_mostBeside_n215 : GoodIn wsX7_beside (wsX5_mostBeside) := ggX7_beside_X5_mostBeside
set_option maxRecDepth 20000 in
theorem ggX7_odds_X7_isWithin : GoodIn wsX7_odds wsX7_isWithin := goodIn_r _ [6] rfl (by decide +kernel)
set_option maxRecDepth 20000 in
theorem gX7_odds_X7_isWithin : GoodIn wsX7_odds (va_wsS RX7 72 yX7_isWithin wsX7_isWithin) := goodIn_app (goodIn_r _ [3, 4, 5] rfl (by decide +kernel)) ggX7_odds_X7_isWithin
set_option maxRecDepth 20000 in
theorem ggX7_odds_X4_readable : GoodIn wsX7_odds wsX4_readable := goodIn_r _ [10, 11, 12, 13, 14, 8, 15, 16, 17, 18, 19, 20, 21, 22, 23, 24, 25, 26, 27, 28, 29, 30, 31, 70, 71, 72, 73, 74, 75, 76, 77, 78, 79, 80, 81] rfl (by decide +kernel)
theorem gX7_odds_X4_readable_n142 : GoodIn wsX7_odds (wsX4_readable) := ggX7_odds_X4_readable
set_option maxRecDepth 20000 in
theorem ggX7_odds_J6_bitCount_0f7a4 : GoodIn wsX7_odds wsJ6_bitCount_0f7a4 := goodIn_r _ [35, 36, 37, 38] rfl (by decide +kernel)
set_option maxRecDepth 20000 in
theorem gX7_odds_J6_bitCount_0f7a4 : GoodIn wsX7_odds (va_wsS RX7 218 yJ6_bitCount_0f7a4 wsJ6_bitCount_0f7a4) := goodIn_app (goodIn_r _ [32, 33, 34] rfl (by decide +kernel)) ggX7_odds_J6_bitCount_0f7a4
set_option maxRecDepth 20000 in
theorem ggX7_odds_X0_reckon : GoodIn wsX7_odds wsX0_reckon := goodIn_r _ [42, 43, 44, 45, 46, 47, 22, 48, 49, 50, 51, 40, 52, 53, 54, 55, 56, 67, 68, 69] rfl (by decide +kernel)
theorem gX7_odds_X0_reckon_n223 : GoodIn wsX7_odds (wsX0_reckon) := ggX7_odds_X0_reckon
set_option maxRecDepth 20000 in
theorem ggX7_rate_X2_has : GoodIn wsX7_rate wsX2_has := goodIn_r _ [6, 7, 63, 64, 65, 66, 67, 68, 69, 70] rfl (by decide +kernel)
theorem gX7_rate_X2_has_n103 : GoodIn wsX7_rate (wsX2_has) := ggX7_rate_X2_has
set_option maxRecDepth 20000 in
theorem ggX7_rate_X7_rateOfPan : GoodIn wsX7_rate wsX7_rateOfPan := goodIn_r _ [12, 13, 14, 15, 16, 17, 18, 19, 20, 21, 22, 23, 24, 25, 26, 27, 53, 54, 55, 56, 57, 58, 59, 60, 61, 62, 71, 72, 73, 74, 63, 64, 65, 66, 67, 68, 69, 70] rfl (by decide +kernel)
set_option maxRecDepth 20000 in
theorem gX7_rate_X7_rateOfPan : GoodIn wsX7_rate (wsV RX7 234 RX7 yX7_rateOfPan wsX7_rateOfPan) := goodIn_app (goodIn_r _ [8, 9, 10, 11] rfl (by decide +kernel)) ggX7_rate_X7_rateOfPan
set_option maxRecDepth 20000 in
theorem ggX7_rate_X7_rateOfSaucer : GoodIn wsX7_rate wsX7_rateOfSaucer := goodIn_r _ [31, 13, 32, 1, 8, 9, 10, 11, 12, 14, 15, 16, 17, 18, 19, 20, 21, 22, 23, 24, 25, 26, 27, 53, 54, 55, 56, 57, 58, 59, 60, 61, 62, 63, 64, 65, 66, 67, 68, 69, 70, 71, 72, 73, 74] rfl (by decide +kernel)
set_option maxRecDepth 20000 in
theorem gX7_rate_X7_rateOfSaucer : GoodIn wsX7_rate (wsV RX7 237 RX7 yX7_rateOfSaucer wsX7_rateOfSaucer) := goodIn_app (goodIn_r _ [28, 29, 30, 11] rfl (by decide +kernel)) ggX7_rate_X7_rateOfSaucer
set_option maxRecDepth 20000 in
theorem ggX7_rate_X7_rateOfBottle : GoodIn wsX7_rate wsX7_rateOfBottle := goodIn_r _ [36, 13, 37, 1, 8, 9, 10, 11, 12, 14, 15, 16, 17, 18, 19, 20, 21, 22, 23, 24, 25, 26, 27, 53, 54, 55, 56, 57, 58, 59, 60, 61, 62, 63, 64, 65, 66, 67, 68, 69, 70, 71, 72, 73, 74] rfl (by decide +kernel)
set_option maxRecDepth 20000 in
theorem gX7_rate_X7_rateOfBottle : GoodIn wsX7_rate (wsV RX7 240 RX7 yX7_rateOfBottle wsX7_rateOfBottle) := goodIn_app (goodIn_r _ [33, 34, 35, 11] rfl (by decide +kernel)) ggX7_rate_X7_rateOfBottle
set_option maxRecDepth 20000 in
theorem ggX7_rate_X7_rateOfFont : GoodIn wsX7_rate wsX7_rateOfFont := goodIn_r _ [41, 13, 42, 28, 29, 30, 11, 31, 32, 1, 8, 9, 10, 12, 14, 15, 16, 17, 18, 19, 20, 21, 22, 23, 24, 25, 26, 27, 53, 54, 55, 56, 57, 58, 59, 60, 61, 62, 63, 64, 65, 66, 67, 68, 69, 70, 71, 72, 73, 74] rfl (by decide +kernel)
set_option maxRecDepth 20000 in
theorem gX7_rate_X7_rateOfFont : GoodIn wsX7_rate (wsV RX7 243 RX7 yX7_rateOfFont wsX7_rateOfFont) := goodIn_app (goodIn_r _ [38, 39, 40, 11] rfl (by decide +kernel)) ggX7_rate_X7_rateOfFont
set_option maxRecDepth 20000 in
theorem ggX7_rate_X7_rateOfPhial : GoodIn wsX7_rate wsX7_rateOfPhial := goodIn_r _ [46, 13, 47, 33, 34, 35, 11, 36, 37, 1, 8, 9, 10, 12, 14, 15, 16, 17, 18, 19, 20, 21, 22, 23, 24, 25, 26, 27, 53, 54, 55, 56, 57, 58, 59, 60, 61, 62, 63, 64, 65, 66, 67, 68, 69, 70, 71, 72, 73, 74] rfl (by decide +kernel)
set_option maxRecDepth 20000 in
theorem gX7_rate_X7_rateOfPhial : GoodIn wsX7_rate (wsV RX7 246 RX7 yX7_rateOfPhial wsX7_rateOfPhial) := goodIn_app (goodIn_r _ [43, 44, 45, 11] rfl (by decide +kernel)) ggX7_rate_X7_rateOfPhial
set_option maxRecDepth 20000 in
theorem ggX7_rate_X7_rateOfUrn : GoodIn wsX7_rate wsX7_rateOfUrn := goodIn_r _ [51, 13, 52, 14, 8, 9, 10, 11, 12, 15, 16, 17, 18, 19, 20, 21, 22, 23, 24, 25, 26, 27, 53, 54, 55, 56, 57, 58, 59, 60, 61, 62, 71, 72, 73, 74, 63, 64, 65, 66, 67, 68, 69, 70] rfl (by decide +kernel)
set_option maxRecDepth 20000 in
theorem gX7_rate_X7_rateOfUrn : GoodIn wsX7_rate (wsV RX7 249 RX7 yX7_rateOfUrn wsX7_rateOfUrn) := goodIn_app (goodIn_r _ [48, 49, 50, 11] rfl (by decide +kernel)) ggX7_rate_X7_rateOfUrn
set_option maxRecDepth 20000 in
theorem ggX7_rateOfPan_X4_inPan : GoodIn wsX7_rateOfPan wsX4_inPan := goodIn_r _ [6, 7, 8, 9, 10, 4, 11, 12, 13, 14, 15, 26, 27, 28, 29, 30, 31, 32, 33, 34, 35, 36, 37] rfl (by decide +kernel)
theorem gX7_rateOfPan_X4_inPan_n116 : GoodIn wsX7_rateOfPan (wsX4_inPan) := ggX7_rateOfPan_X4_inPan
set_option maxRecDepth 20000 in
theorem ggX7_rateOfSaucer_X7_rateOfPan : GoodIn wsX7_rateOfSaucer wsX7_rateOfPan := goodIn_r _ [8, 1, 9, 10, 11, 12, 13, 14, 15, 16, 17, 18, 19, 20, 21, 22, 23, 24, 25, 26, 27, 28, 29, 30, 31, 32, 41, 42, 43, 44, 33, 34, 35, 36, 37, 38, 39, 40] rfl (by decide +kernel)
set_option maxRecDepth 20000 in
theorem gX7_rateOfSaucer_X7_rateOfPan : GoodIn wsX7_rateOfSaucer (wsV RX7 234 RX7 yX7_rateOfPan wsX7_rateOfPan) := goodIn_app (goodIn_r _ [4, 5, 6, 7] rfl (by decide +kernel)) ggX7_rateOfSaucer_X7_rateOfPan
set_option maxRecDepth 20000 in
theorem ggX7_rateOfBottle_X7_rateOfPan : GoodIn wsX7_rateOfBottle wsX7_rateOfPan := goodIn_r _ [8, 1, 9, 10, 11, 12, 13, 14, 15, 16, 17, 18, 19, 20, 21, 22, 23, 24, 25, 26, 27, 28, 29, 30, 31, 32, 41, 42, 43, 44, 33, 34, 35, 36, 37, 38, 39, 40] rfl (by decide +kernel)
set_option maxRecDepth 20000 in
theorem gX7_rateOfBottle_X7_rateOfPan : GoodIn wsX7_rateOfBottle (wsV RX7 234 RX7 yX7_rateOfPan wsX7_rateOfPan) := goodIn_app (goodIn_r _ [4, 5, 6, 7] rfl (by decide +kernel)) ggX7_rateOfBottle_X7_rateOfPan
set_option maxRecDepth 20000 in
theorem ggX7_rateOfFont_X7_rateOfSaucer : GoodIn wsX7_rateOfFont wsX7_rateOfSaucer := goodIn_r _ [7, 1, 8, 9, 10, 11, 12, 6, 13, 14, 15, 16, 17, 18, 19, 20, 21, 22, 23, 24, 25, 26, 27, 28, 29, 30, 31, 32, 33, 34, 35, 36, 37, 38, 39, 40, 41, 42, 43, 44, 45, 46, 47, 48, 49] rfl (by decide +kernel)
set_option maxRecDepth 20000 in
theorem gX7_rateOfFont_X7_rateOfSaucer : GoodIn wsX7_rateOfFont (wsV RX7 237 RX7 yX7_rateOfSaucer wsX7_rateOfSaucer) := goodIn_app (goodIn_r _ [3, 4, 5, 6] rfl (by decide +kernel)) ggX7_rateOfFont_X7_rateOfSaucer
set_option maxRecDepth 20000 in
theorem ggX7_rateOfPhial_X7_rateOfBottle : GoodIn wsX7_rateOfPhial wsX7_rateOfBottle := goodIn_r _ [7, 1, 8, 9, 10, 11, 12, 6, 13, 14, 15, 16, 17, 18, 19, 20, 21, 22, 23, 24, 25, 26, 27, 28, 29, 30, 31, 32, 33, 34, 35, 36, 37, 38, 39, 40, 41, 42, 43, 44, 45, 46, 47, 48, 49] rfl (by decide +kernel)
set_option maxRecDepth 20000 in
theorem gX7_rateOfPhial_X7_rateOfBottle : GoodIn wsX7_rateOfPhial (wsV RX7 240 RX7 yX7_rateOfBottle wsX7_rateOfBottle) := goodIn_app (goodIn_r _ [3, 4, 5, 6] rfl (by decide +kernel)) ggX7_rateOfPhial_X7_rateOfBottle
set_option maxRecDepth 20000 in
theorem ggX7_rateOfUrn_X7_rateOfPan : GoodIn wsX7_rateOfUrn wsX7_rateOfPan := goodIn_r _ [8, 1, 3, 9, 10, 11, 12, 13, 14, 15, 16, 17, 18, 19, 20, 21, 22, 23, 24, 25, 26, 27, 28, 29, 30, 31, 32, 33, 34, 35, 36, 37, 38, 39, 40, 41, 42, 43] rfl (by decide +kernel)
set_option maxRecDepth 20000 in
theorem gX7_rateOfUrn_X7_rateOfPan : GoodIn wsX7_rateOfUrn (wsV RX7 234 RX7 yX7_rateOfPan wsX7_rateOfPan) := goodIn_app (goodIn_r _ [4, 5, 6, 7] rfl (by decide +kernel)) ggX7_rateOfUrn_X7_rateOfPan
set_option maxRecDepth 20000 in
theorem ggX7_keep_X7_isWithin : GoodIn wsX7_keep wsX7_isWithin := goodIn_r _ [7] rfl (by decide +kernel)
set_option maxRecDepth 20000 in
theorem gX7_keep_X7_isWithin : GoodIn wsX7_keep (va_wsS RX7 72 yX7_isWithin wsX7_isWithin) := goodIn_app (goodIn_r _ [4, 5, 6] rfl (by decide +kernel)) ggX7_keep_X7_isWithin
set_option maxRecDepth 20000 in
theorem ggX7_keep_X4_become : GoodIn wsX7_keep wsX4_become := goodIn_r _ [11, 12, 13, 14, 25, 26, 27, 28] rfl (by decide +kernel)
theorem gX7_keep_X4_become_n262 : GoodIn wsX7_keep (wsX4_become) := ggX7_keep_X4_become
set_option maxRecDepth 20000 in
theorem ggX7_back_X7_isWithin : GoodIn wsX7_back wsX7_isWithin := goodIn_r _ [8] rfl (by decide +kernel)
set_option maxRecDepth 20000 in
theorem gX7_back_X7_isWithin : GoodIn wsX7_back (va_wsS RX7 72 yX7_isWithin wsX7_isWithin) := goodIn_app (goodIn_r _ [5, 6, 7] rfl (by decide +kernel)) ggX7_back_X7_isWithin
set_option maxRecDepth 20000 in
theorem ggX7_back_X4_become : GoodIn wsX7_back wsX4_become := goodIn_r _ [12, 13, 14, 15, 29, 30, 31, 32] rfl (by decide +kernel)
theorem gX7_back_X4_become_n262 : GoodIn wsX7_back (wsX4_become) := ggX7_back_X4_become
set_option maxRecDepth 20000 in
theorem ggX8_init_X8_reads : GoodIn wsX8_init wsX8_reads := goodIn_r _ [21, 7, 22, 23, 24, 25, 26, 20, 27, 28, 29, 5, 30, 31, 32, 33, 34, 35, 36, 37, 38, 39, 40, 41, 42, 43, 44, 45, 46, 47, 48, 49, 50, 51, 52, 59, 60, 61, 62, 63, 64, 65, 66, 67, 68, 69, 70, 71, 72, 73, 74, 75, 76, 77] rfl (by decide +kernel)
set_option maxRecDepth 20000 in
theorem gX8_init_X8_reads : GoodIn wsX8_init (wsV RX8 44 RX8 yX8_reads wsX8_reads) := goodIn_app (goodIn_r _ [17, 18, 19, 20] rfl (by decide +kernel)) ggX8_init_X8_reads
set_option maxRecDepth 20000 in
theorem ggX8_init_X8_tells : GoodIn wsX8_init wsX8_tells := goodIn_r _ [56, 6, 7, 8, 57, 58, 12, 59, 60, 61, 62, 63, 64, 65, 66, 67, 68, 69, 70, 71, 72, 73, 74, 75, 76, 77] rfl (by decide +kernel)
set_option maxRecDepth 20000 in
theorem gX8_init_X8_tells : GoodIn wsX8_init (wsV RX8 48 RX8 yX8_tells wsX8_tells) := goodIn_app (goodIn_r _ [53, 54, 55, 20] rfl (by decide +kernel)) ggX8_init_X8_tells
set_option maxRecDepth 20000 in
theorem ggX8_isPan_X8_in : GoodIn wsX8_isPan wsX8_in := goodIn_r _ [5] rfl (by decide +kernel)
set_option maxRecDepth 20000 in
theorem gX8_isPan_X8_in : GoodIn wsX8_isPan (va_wsS RX8 51 yX8_in wsX8_in) := goodIn_app (goodIn_r _ [2, 3, 4] rfl (by decide +kernel)) ggX8_isPan_X8_in
set_option maxRecDepth 20000 in
theorem ggX8_type_X8_in : GoodIn wsX8_type wsX8_in := goodIn_r _ [6] rfl (by decide +kernel)
set_option maxRecDepth 20000 in
theorem gX8_type_X8_in : GoodIn wsX8_type (va_wsS RX8 51 yX8_in wsX8_in) := goodIn_app (goodIn_r _ [3, 4, 5] rfl (by decide +kernel)) ggX8_type_X8_in
set_option maxRecDepth 20000 in
theorem ggX8_isDigit_X8_in : GoodIn wsX8_isDigit wsX8_in := goodIn_r _ [4] rfl (by decide +kernel)
set_option maxRecDepth 20000 in
theorem gX8_isDigit_X8_in : GoodIn wsX8_isDigit (va_wsS RX8 51 yX8_in wsX8_in) := goodIn_app (goodIn_r _ [1, 2, 3] rfl (by decide +kernel)) ggX8_isDigit_X8_in
set_option maxRecDepth 20000 in
theorem ggX8_token_X8_letterAt : GoodIn wsX8_token wsX8_letterAt := goodIn_r _ [10, 11, 5, 18, 19, 20, 21, 22, 23, 24, 25, 26, 27, 28, 29, 30, 31, 32, 33, 34, 35, 36] rfl (by decide +kernel)
set_option maxRecDepth 20000 in
theorem gX8_token_X8_letterAt : GoodIn wsX8_token (wsV RX8 62 RX8 yX8_letterAt wsX8_letterAt) := goodIn_app (goodIn_r _ [6, 7, 8, 9] rfl (by decide +kernel)) ggX8_token_X8_letterAt
set_option maxRecDepth 20000 in
theorem ggX8_token_X8_isDigit : GoodIn wsX8_token wsX8_isDigit := goodIn_r _ [14, 15, 16, 9, 17] rfl (by decide +kernel)
set_option maxRecDepth 20000 in
theorem gX8_token_X8_isDigit : GoodIn wsX8_token (va_wsS RX8 69 yX8_isDigit wsX8_isDigit) := goodIn_app (goodIn_r _ [12, 13, 9] rfl (by decide +kernel)) ggX8_token_X8_isDigit
set_option maxRecDepth 20000 in
theorem ggX8_number_X8_token : GoodIn wsX8_number wsX8_token := goodIn_r _ [8, 9, 10, 3, 2, 11, 12, 13, 14, 7, 15, 16, 17, 18, 19, 20, 21, 22, 23, 24, 25, 26, 27, 28, 29, 30, 31, 32, 33, 34, 35, 36, 37, 38, 39, 40, 41] rfl (by decide +kernel)
set_option maxRecDepth 20000 in
theorem gX8_number_X8_token : GoodIn wsX8_number (wsV RX8 79 RX8 yX8_token wsX8_token) := goodIn_app (goodIn_r _ [4, 5, 6, 7] rfl (by decide +kernel)) ggX8_number_X8_token
set_option maxRecDepth 20000 in
theorem ggX8_number_X8_in : GoodIn wsX8_number wsX8_in := goodIn_r _ [22] rfl (by decide +kernel)
set_option maxRecDepth 20000 in
theorem gX8_number_X8_in : GoodIn wsX8_number (va_wsS RX8 51 yX8_in wsX8_in) := goodIn_app (goodIn_r _ [20, 21, 7] rfl (by decide +kernel)) ggX8_number_X8_in
set_option maxRecDepth 20000 in
theorem ggX8_once_X8_number : GoodIn wsX8_once wsX8_number := goodIn_r _ [6, 1, 7, 8, 9, 10, 11, 5, 12, 13, 14, 15, 16, 17, 18, 19, 20, 21, 22, 23, 24, 25, 26, 27, 28, 29, 30, 31, 32, 33, 34, 35, 36, 37, 38, 39, 40, 41, 42, 43, 44, 45] rfl (by decide +kernel)
set_option maxRecDepth 20000 in
theorem gX8_once_X8_number : GoodIn wsX8_once (wsV RX8 82 RX8 yX8_number wsX8_number) := goodIn_app (goodIn_r _ [2, 3, 4, 5] rfl (by decide +kernel)) ggX8_once_X8_number
set_option maxRecDepth 20000 in
theorem ggX8_readsItem_X8_number : GoodIn wsX8_readsItem wsX8_number := goodIn_r _ [8, 3, 2, 1, 9, 10, 11, 7, 12, 13, 14, 15, 16, 17, 18, 19, 20, 21, 22, 23, 24, 25, 26, 31, 32, 33, 34, 35, 36, 37, 38, 39, 40, 41, 42, 43, 44, 45, 46, 47, 48, 49] rfl (by decide +kernel)
set_option maxRecDepth 20000 in
theorem gX8_readsItem_X8_number : GoodIn wsX8_readsItem (wsV RX8 82 RX8 yX8_number wsX8_number) := goodIn_app (goodIn_r _ [4, 5, 6, 7] rfl (by decide +kernel)) ggX8_readsItem_X8_number
set_option maxRecDepth 20000 in
theorem ggX8_readsItem_X8_once : GoodIn wsX8_readsItem wsX8_once := goodIn_r _ [30, 3, 4, 5, 6, 7, 8, 2, 1, 9, 10, 11, 12, 13, 14, 15, 16, 17, 18, 19, 20, 21, 22, 23, 24, 25, 26, 31, 32, 33, 34, 35, 36, 37, 38, 39, 40, 41, 42, 43, 44, 45, 46, 47, 48, 49] rfl (by decide +kernel)
set_option maxRecDepth 20000 in
theorem gX8_readsItem_X8_once : GoodIn wsX8_readsItem (wsV RX8 85 RX8 yX8_once wsX8_once) := goodIn_app (goodIn_r _ [27, 28, 29, 7] rfl (by decide +kernel)) ggX8_readsItem_X8_once
set_option maxRecDepth 20000 in
theorem ggX8_reads_X8_token : GoodIn wsX8_reads wsX8_token := goodIn_r _ [8, 2, 9, 3, 10, 11, 12, 13, 14, 7, 15, 16, 17, 18, 19, 20, 21, 22, 35, 36, 37, 38, 39, 40, 41, 42, 43, 44, 45, 46, 47, 48, 49, 50, 51, 52, 53] rfl (by decide +kernel)
set_option maxRecDepth 20000 in
theorem gX8_reads_X8_token : GoodIn wsX8_reads (wsV RX8 79 RX8 yX8_token wsX8_token) := goodIn_app (goodIn_r _ [4, 5, 6, 7] rfl (by decide +kernel)) ggX8_reads_X8_token
set_option maxRecDepth 20000 in
theorem ggX8_reads_X8_readsItem : GoodIn wsX8_reads wsX8_readsItem := goodIn_r _ [26, 3, 10, 1, 27, 28, 29, 7, 30, 4, 5, 6, 8, 2, 9, 11, 12, 13, 14, 15, 16, 17, 18, 19, 20, 21, 22, 31, 32, 33, 34, 35, 36, 37, 38, 39, 40, 41, 42, 43, 44, 45, 46, 47, 48, 49, 50, 51, 52, 53] rfl (by decide +kernel)
set_option maxRecDepth 20000 in
theorem gX8_reads_X8_readsItem : GoodIn wsX8_reads (wsV RX8 89 RX8 yX8_readsItem wsX8_readsItem) := goodIn_app (goodIn_r _ [23, 24, 25, 7] rfl (by decide +kernel)) ggX8_reads_X8_readsItem
set_option maxRecDepth 20000 in
theorem ggX8_house_X8_reads : GoodIn wsX8_house wsX8_reads := goodIn_r _ [8, 9, 10, 11, 12, 13, 14, 7, 15, 1, 16, 17, 18, 19, 20, 21, 2, 22, 23, 24, 25, 26, 27, 28, 29, 30, 31, 32, 33, 34, 35, 36, 37, 38, 39, 48, 49, 50, 51, 52, 53, 54, 55, 56, 57, 58, 59, 60, 61, 62, 63, 64, 65, 66] rfl (by decide +kernel)
set_option maxRecDepth 20000 in
theorem gX8_house_X8_reads : GoodIn wsX8_house (wsV RX8 44 RX8 yX8_reads wsX8_reads) := goodIn_app (goodIn_r _ [4, 5, 6, 7] rfl (by decide +kernel)) ggX8_house_X8_reads
set_option maxRecDepth 20000 in
theorem ggX8_house_X8_tells : GoodIn wsX8_house wsX8_tells := goodIn_r _ [43, 3, 9, 44, 45, 46, 47, 48, 49, 50, 51, 52, 53, 54, 55, 56, 57, 58, 59, 60, 61, 62, 63, 64, 65, 66] rfl (by decide +kernel)
set_option maxRecDepth 20000 in
theorem gX8_house_X8_tells : GoodIn wsX8_house (wsV RX8 48 RX8 yX8_tells wsX8_tells) := goodIn_app (goodIn_r _ [40, 41, 42, 7] rfl (by decide +kernel)) ggX8_house_X8_tells
set_option maxRecDepth 20000 in
theorem ggX8_isRead_X8_full : GoodIn wsX8_isRead wsX8_full := goodIn_r _ [7, 1, 8, 9, 10, 11, 12, 13, 14, 15, 16, 17, 18, 19, 20, 21, 22, 23, 24, 25, 26] rfl (by decide +kernel)
set_option maxRecDepth 20000 in
theorem gX8_isRead_X8_full : GoodIn wsX8_isRead (wsV RX8 98 RX8 yX8_full wsX8_full) := goodIn_app (goodIn_r _ [3, 4, 5, 6] rfl (by decide +kernel)) ggX8_isRead_X8_full
set_option maxRecDepth 20000 in
theorem ggX8_allRead_X8_isRead : GoodIn wsX8_allRead wsX8_isRead := goodIn_r _ [6, 7, 1, 8, 9, 10, 5, 11, 12, 13, 14, 15, 16, 17, 18, 19, 20, 21, 22, 23, 24, 25, 26, 27, 28, 29, 30] rfl (by decide +kernel)
set_option maxRecDepth 20000 in
theorem gX8_allRead_X8_isRead : GoodIn wsX8_allRead (wsV RX8 101 RX8 yX8_isRead wsX8_isRead) := goodIn_app (goodIn_r _ [2, 3, 4, 5] rfl (by decide +kernel)) ggX8_allRead_X8_isRead
set_option maxRecDepth 20000 in
theorem ggX8_pan_X8_isPan : GoodIn wsX8_pan wsX8_isPan := goodIn_r _ [7, 1, 8, 9, 6, 10, 19, 20, 21, 22, 23, 24, 25, 26, 27, 28, 29, 30, 31, 32, 33, 34, 35, 36, 37] rfl (by decide +kernel)
set_option maxRecDepth 20000 in
theorem gX8_pan_X8_isPan : GoodIn wsX8_pan (wsV RX8 104 RX8 yX8_isPan wsX8_isPan) := goodIn_app (goodIn_r _ [3, 4, 5, 6] rfl (by decide +kernel)) ggX8_pan_X8_isPan
set_option maxRecDepth 20000 in
theorem ggX8_pan_X8_in : GoodIn wsX8_pan wsX8_in := goodIn_r _ [10] rfl (by decide +kernel)
set_option maxRecDepth 20000 in
theorem gX8_pan_X8_in : GoodIn wsX8_pan (va_wsS RX8 51 yX8_in wsX8_in) := goodIn_app (goodIn_r _ [8, 9, 6] rfl (by decide +kernel)) ggX8_pan_X8_in
set_option maxRecDepth 20000 in
theorem ggX8_pan_X8_full : GoodIn wsX8_pan wsX8_full := goodIn_r _ [14, 2, 19, 20, 21, 22, 23, 24, 25, 26, 27, 28, 29, 30, 31, 32, 33, 34, 35, 36, 37] rfl (by decide +kernel)
set_option maxRecDepth 20000 in
theorem gX8_pan_X8_full : GoodIn wsX8_pan (wsV RX8 98 RX8 yX8_full wsX8_full) := goodIn_app (goodIn_r _ [11, 12, 13, 6] rfl (by decide +kernel)) ggX8_pan_X8_full
set_option maxRecDepth 20000 in
theorem ggX8_pan_X8_isRead : GoodIn wsX8_pan wsX8_isRead := goodIn_r _ [18, 2, 1, 11, 12, 13, 6, 14, 19, 20, 21, 22, 23, 24, 25, 26, 27, 28, 29, 30, 31, 32, 33, 34, 35, 36, 37] rfl (by decide +kernel)
set_option maxRecDepth 20000 in
theorem gX8_pan_X8_isRead : GoodIn wsX8_pan (wsV RX8 101 RX8 yX8_isRead wsX8_isRead) := goodIn_app (goodIn_r _ [15, 16, 17, 6] rfl (by decide +kernel)) ggX8_pan_X8_isRead
set_option maxRecDepth 20000 in
theorem ggX8_holds_X8_isPan : GoodIn wsX8_holds wsX8_isPan := goodIn_r _ [6, 7, 8, 9, 5, 10, 11, 12, 13, 14, 15, 16, 17, 18, 19, 20, 21, 22, 23, 24, 25, 26, 27, 28, 29] rfl (by decide +kernel)
set_option maxRecDepth 20000 in
theorem gX8_holds_X8_isPan : GoodIn wsX8_holds (wsV RX8 104 RX8 yX8_isPan wsX8_isPan) := goodIn_app (goodIn_r _ [2, 3, 4, 5] rfl (by decide +kernel)) ggX8_holds_X8_isPan
set_option maxRecDepth 20000 in
theorem ggX8_all_X8_full : GoodIn wsX8_all wsX8_full := goodIn_r _ [6, 7, 8, 9, 10, 11, 12, 13, 14, 15, 16, 17, 18, 19, 20, 21, 22, 23, 24, 25, 26] rfl (by decide +kernel)
set_option maxRecDepth 20000 in
theorem gX8_all_X8_full : GoodIn wsX8_all (wsV RX8 98 RX8 yX8_full wsX8_full) := goodIn_app (goodIn_r _ [2, 3, 4, 5] rfl (by decide +kernel)) ggX8_all_X8_full
set_option maxRecDepth 20000 in
theorem ggX8_now_X8_all : GoodIn wsX8_now wsX8_all := goodIn_r _ [7, 8, 9, 10, 11, 6, 12, 1, 25, 26, 27, 28, 29, 30, 31, 32, 33, 34, 35, 36, 37, 38, 39, 40, 41, 42, 43] rfl (by decide +kernel)
set_option maxRecDepth 20000 in
theorem gX8_now_X8_all : GoodIn wsX8_now (wsV RX8 107 RX8 yX8_all wsX8_all) := goodIn_app (goodIn_r _ [3, 4, 5, 6] rfl (by decide +kernel)) ggX8_now_X8_all
set_option maxRecDepth 20000 in
theorem ggX8_now_X8_allRead : GoodIn wsX8_now wsX8_allRead := goodIn_r _ [16, 8, 17, 18, 19, 6, 20, 1, 9, 10, 11, 12, 25, 26, 27, 28, 29, 30, 31, 32, 33, 34, 35, 36, 37, 38, 39, 40, 41, 42, 43] rfl (by decide +kernel)
set_option maxRecDepth 20000 in
theorem gX8_now_X8_allRead : GoodIn wsX8_now (wsV RX8 111 RX8 yX8_allRead wsX8_allRead) := goodIn_app (goodIn_r _ [13, 14, 15, 6] rfl (by decide +kernel)) ggX8_now_X8_allRead
set_option maxRecDepth 20000 in
theorem ggX8_now_X8_wettest : GoodIn wsX8_now wsX8_wettest := goodIn_r _ [24, 8, 1, 25, 26, 27, 28, 29, 30, 31, 32, 33, 34, 35, 36, 37, 38, 39, 40, 41, 42, 43] rfl (by decide +kernel)
set_option maxRecDepth 20000 in
theorem gX8_now_X8_wettest : GoodIn wsX8_now (wsV RX8 114 RX8 yX8_wettest wsX8_wettest) := goodIn_app (goodIn_r _ [21, 22, 23, 6] rfl (by decide +kernel)) ggX8_now_X8_wettest
set_option maxRecDepth 20000 in
theorem ggX8_goes_X8_takes : GoodIn wsX8_goes wsX8_takes := goodIn_r _ [6, 1, 7, 8, 9, 10, 11, 12, 13, 14, 15, 16, 17, 18, 19, 20, 21, 22, 23, 24, 25, 26] rfl (by decide +kernel)
set_option maxRecDepth 20000 in
theorem gX8_goes_X8_takes : GoodIn wsX8_goes (wsV RX8 117 RX8 yX8_takes wsX8_takes) := goodIn_app (goodIn_r _ [2, 3, 4, 5] rfl (by decide +kernel)) ggX8_goes_X8_takes
set_option maxRecDepth 20000 in
theorem ggX8_uses_X8_isPan : GoodIn wsX8_uses wsX8_isPan := goodIn_r _ [5, 6, 7, 8, 4, 9, 29, 30, 31, 32, 33, 34, 35, 36, 37, 38, 39, 40, 41, 42, 43, 44, 45, 46, 47] rfl (by decide +kernel)
set_option maxRecDepth 20000 in
theorem gX8_uses_X8_isPan : GoodIn wsX8_uses (wsV RX8 104 RX8 yX8_isPan wsX8_isPan) := goodIn_app (goodIn_r _ [1, 2, 3, 4] rfl (by decide +kernel)) ggX8_uses_X8_isPan
set_option maxRecDepth 20000 in
theorem ggX8_uses_X8_in : GoodIn wsX8_uses wsX8_in := goodIn_r _ [9] rfl (by decide +kernel)
set_option maxRecDepth 20000 in
theorem gX8_uses_X8_in : GoodIn wsX8_uses (va_wsS RX8 51 yX8_in wsX8_in) := goodIn_app (goodIn_r _ [7, 8, 4] rfl (by decide +kernel)) ggX8_uses_X8_in
set_option maxRecDepth 20000 in
theorem ggX8_uses_X8_full : GoodIn wsX8_uses wsX8_full := goodIn_r _ [13, 14, 29, 30, 31, 32, 33, 34, 35, 36, 37, 38, 39, 40, 41, 42, 43, 44, 45, 46, 47] rfl (by decide +kernel)
set_option maxRecDepth 20000 in
theorem gX8_uses_X8_full : GoodIn wsX8_uses (wsV RX8 98 RX8 yX8_full wsX8_full) := goodIn_app (goodIn_r _ [10, 11, 12, 4] rfl (by decide +kernel)) ggX8_uses_X8_full
set_option maxRecDepth 20000 in
theorem ggX8_uses_X8_keeps : GoodIn wsX8_uses wsX8_keeps := goodIn_r _ [18, 19, 20, 14, 29, 30, 31, 32, 33, 34, 35, 36, 37, 38, 39, 40, 41, 42, 43, 44, 45, 46, 47] rfl (by decide +kernel)
set_option maxRecDepth 20000 in
theorem gX8_uses_X8_keeps : GoodIn wsX8_uses (wsV RX8 120 RX8 yX8_keeps wsX8_keeps) := goodIn_app (goodIn_r _ [15, 16, 17, 4] rfl (by decide +kernel)) ggX8_uses_X8_keeps
set_option maxRecDepth 20000 in
theorem ggX8_uses_X8_goes : GoodIn wsX8_uses wsX8_goes := goodIn_r _ [24, 14, 25, 26, 27, 4, 28, 6, 29, 30, 31, 32, 33, 34, 35, 36, 37, 38, 39, 40, 41, 42, 43, 44, 45, 46, 47] rfl (by decide +kernel)
set_option maxRecDepth 20000 in
theorem gX8_uses_X8_goes : GoodIn wsX8_uses (wsV RX8 123 RX8 yX8_goes wsX8_goes) := goodIn_app (goodIn_r _ [21, 22, 23, 4] rfl (by decide +kernel)) ggX8_uses_X8_goes
set_option maxRecDepth 20000 in
theorem ggX8_pours_X8_isPan : GoodIn wsX8_pours wsX8_isPan := goodIn_r _ [5, 6, 7, 8, 4, 9, 29, 30, 31, 32, 33, 34, 35, 36, 37, 38, 39, 40, 41, 42, 43, 44, 45, 46, 47] rfl (by decide +kernel)
set_option maxRecDepth 20000 in
theorem gX8_pours_X8_isPan : GoodIn wsX8_pours (wsV RX8 104 RX8 yX8_isPan wsX8_isPan) := goodIn_app (goodIn_r _ [1, 2, 3, 4] rfl (by decide +kernel)) ggX8_pours_X8_isPan
set_option maxRecDepth 20000 in
theorem ggX8_pours_X8_in : GoodIn wsX8_pours wsX8_in := goodIn_r _ [9] rfl (by decide +kernel)
set_option maxRecDepth 20000 in
theorem gX8_pours_X8_in : GoodIn wsX8_pours (va_wsS RX8 51 yX8_in wsX8_in) := goodIn_app (goodIn_r _ [7, 8, 4] rfl (by decide +kernel)) ggX8_pours_X8_in
set_option maxRecDepth 20000 in
theorem ggX8_pours_X8_full : GoodIn wsX8_pours wsX8_full := goodIn_r _ [13, 14, 29, 30, 31, 32, 33, 34, 35, 36, 37, 38, 39, 40, 41, 42, 43, 44, 45, 46, 47] rfl (by decide +kernel)
set_option maxRecDepth 20000 in
theorem gX8_pours_X8_full : GoodIn wsX8_pours (wsV RX8 98 RX8 yX8_full wsX8_full) := goodIn_app (goodIn_r _ [10, 11, 12, 4] rfl (by decide +kernel)) ggX8_pours_X8_full
set_option maxRecDepth 20000 in
theorem ggX8_pours_X8_keeps : GoodIn wsX8_pours wsX8_keeps := goodIn_r _ [18, 19, 20, 14, 29, 30, 31, 32, 33, 34, 35, 36, 37, 38, 39, 40, 41, 42, 43, 44, 45, 46, 47] rfl (by decide +kernel)
set_option maxRecDepth 20000 in
theorem gX8_pours_X8_keeps : GoodIn wsX8_pours (wsV RX8 120 RX8 yX8_keeps wsX8_keeps) := goodIn_app (goodIn_r _ [15, 16, 17, 4] rfl (by decide +kernel)) ggX8_pours_X8_keeps
set_option maxRecDepth 20000 in
theorem ggX8_pours_X8_goes : GoodIn wsX8_pours wsX8_goes := goodIn_r _ [24, 14, 25, 26, 27, 4, 28, 6, 29, 30, 31, 32, 33, 34, 35, 36, 37, 38, 39, 40, 41, 42, 43, 44, 45, 46, 47] rfl (by decide +kernel)
set_option maxRecDepth 20000 in
theorem gX8_pours_X8_goes : GoodIn wsX8_pours (wsV RX8 123 RX8 yX8_goes wsX8_goes) := goodIn_app (goodIn_r _ [21, 22, 23, 4] rfl (by decide +kernel)) ggX8_pours_X8_goes
set_option maxRecDepth 20000 in
theorem ggX8_springs_X8_goes : GoodIn wsX8_springs wsX8_goes := goodIn_r _ [7, 2, 8, 9, 10, 6, 11, 1, 12, 13, 14, 15, 16, 17, 18, 19, 20, 21, 22, 23, 24, 25, 26, 27, 28, 29, 30] rfl (by decide +kernel)
set_option maxRecDepth 20000 in
theorem gX8_springs_X8_goes : GoodIn wsX8_springs (wsV RX8 123 RX8 yX8_goes wsX8_goes) := goodIn_app (goodIn_r _ [3, 4, 5, 6] rfl (by decide +kernel)) ggX8_springs_X8_goes
set_option maxRecDepth 20000 in
theorem ggX8_spring_X8_keeps : GoodIn wsX8_spring wsX8_keeps := goodIn_r _ [6, 7, 8, 1, 22, 23, 24, 25, 26, 27, 28, 29, 30, 31, 32, 33, 34, 35, 36, 37, 38, 39, 40] rfl (by decide +kernel)
set_option maxRecDepth 20000 in
theorem gX8_spring_X8_keeps : GoodIn wsX8_spring (wsV RX8 120 RX8 yX8_keeps wsX8_keeps) := goodIn_app (goodIn_r _ [2, 3, 4, 5] rfl (by decide +kernel)) ggX8_spring_X8_keeps
set_option maxRecDepth 20000 in
theorem ggX8_spring_X8_springs : GoodIn wsX8_spring wsX8_springs := goodIn_r _ [12, 13, 1, 14, 15, 16, 5, 17, 18, 19, 20, 21, 22, 23, 24, 25, 26, 27, 28, 29, 30, 31, 32, 33, 34, 35, 36, 37, 38, 39, 40] rfl (by decide +kernel)
set_option maxRecDepth 20000 in
theorem gX8_spring_X8_springs : GoodIn wsX8_spring (wsV RX8 127 RX8 yX8_springs wsX8_springs) := goodIn_app (goodIn_r _ [9, 10, 11, 5] rfl (by decide +kernel)) ggX8_spring_X8_springs
set_option maxRecDepth 20000 in
theorem ggX8_splits_X8_isPan : GoodIn wsX8_splits wsX8_isPan := goodIn_r _ [5, 6, 7, 8, 4, 9, 29, 30, 31, 32, 33, 34, 35, 36, 37, 38, 39, 40, 41, 42, 43, 44, 45, 46, 47] rfl (by decide +kernel)
set_option maxRecDepth 20000 in
theorem gX8_splits_X8_isPan : GoodIn wsX8_splits (wsV RX8 104 RX8 yX8_isPan wsX8_isPan) := goodIn_app (goodIn_r _ [1, 2, 3, 4] rfl (by decide +kernel)) ggX8_splits_X8_isPan
set_option maxRecDepth 20000 in
theorem ggX8_splits_X8_full : GoodIn wsX8_splits wsX8_full := goodIn_r _ [13, 14, 29, 30, 31, 32, 33, 34, 35, 36, 37, 38, 39, 40, 41, 42, 43, 44, 45, 46, 47] rfl (by decide +kernel)
set_option maxRecDepth 20000 in
theorem gX8_splits_X8_full : GoodIn wsX8_splits (wsV RX8 98 RX8 yX8_full wsX8_full) := goodIn_app (goodIn_r _ [10, 11, 12, 4] rfl (by decide +kernel)) ggX8_splits_X8_full
set_option maxRecDepth 20000 in
theorem ggX8_splits_X8_keeps : GoodIn wsX8_splits wsX8_keeps := goodIn_r _ [18, 19, 20, 14, 29, 30, 31, 32, 33, 34, 35, 36, 37, 38, 39, 40, 41, 42, 43, 44, 45, 46, 47] rfl (by decide +kernel)
set_option maxRecDepth 20000 in
theorem gX8_splits_X8_keeps : GoodIn wsX8_splits (wsV RX8 120 RX8 yX8_keeps wsX8_keeps) := goodIn_app (goodIn_r _ [15, 16, 17, 4] rfl (by decide +kernel)) ggX8_splits_X8_keeps
set_option maxRecDepth 20000 in
theorem ggX8_splits_X8_goes : GoodIn wsX8_splits wsX8_goes := goodIn_r _ [24, 14, 25, 26, 27, 4, 28, 6, 29, 30, 31, 32, 33, 34, 35, 36, 37, 38, 39, 40, 41, 42, 43, 44, 45, 46, 47] rfl (by decide +kernel)
set_option maxRecDepth 20000 in
theorem gX8_splits_X8_goes : GoodIn wsX8_splits (wsV RX8 123 RX8 yX8_goes wsX8_goes) := goodIn_app (goodIn_r _ [21, 22, 23, 4] rfl (by decide +kernel)) ggX8_splits_X8_goes
set_option maxRecDepth 20000 in
theorem ggX8_lasts_X8_isPan : GoodIn wsX8_lasts wsX8_isPan := goodIn_r _ [5, 6, 7, 8, 4, 9, 40, 41, 42, 43, 44, 45, 46, 47, 48, 49, 50, 51, 52, 53, 54, 55, 56, 57, 58] rfl (by decide +kernel)
set_option maxRecDepth 20000 in
theorem gX8_lasts_X8_isPan : GoodIn wsX8_lasts (wsV RX8 104 RX8 yX8_isPan wsX8_isPan) := goodIn_app (goodIn_r _ [1, 2, 3, 4] rfl (by decide +kernel)) ggX8_lasts_X8_isPan
set_option maxRecDepth 20000 in
theorem ggX8_lasts_X8_remembers : GoodIn wsX8_lasts wsX8_remembers := goodIn_r _ [13, 14, 15, 40, 41, 42, 43, 44, 45, 46, 47, 48, 49, 50, 51, 52, 53, 54, 55, 56, 57, 58] rfl (by decide +kernel)
set_option maxRecDepth 20000 in
theorem gX8_lasts_X8_remembers : GoodIn wsX8_lasts (wsV RX8 130 RX8 yX8_remembers wsX8_remembers) := goodIn_app (goodIn_r _ [10, 11, 12, 4] rfl (by decide +kernel)) ggX8_lasts_X8_remembers
set_option maxRecDepth 20000 in
theorem ggX8_lasts_X8_isRead : GoodIn wsX8_lasts wsX8_isRead := goodIn_r _ [19, 15, 6, 20, 21, 22, 4, 23, 40, 41, 42, 43, 44, 45, 46, 47, 48, 49, 50, 51, 52, 53, 54, 55, 56, 57, 58] rfl (by decide +kernel)
set_option maxRecDepth 20000 in
theorem gX8_lasts_X8_isRead : GoodIn wsX8_lasts (wsV RX8 101 RX8 yX8_isRead wsX8_isRead) := goodIn_app (goodIn_r _ [16, 17, 18, 4] rfl (by decide +kernel)) ggX8_lasts_X8_isRead
set_option maxRecDepth 20000 in
theorem ggX8_lasts_X8_springs : GoodIn wsX8_lasts wsX8_springs := goodIn_r _ [27, 6, 15, 28, 29, 30, 4, 31, 32, 33, 34, 35, 40, 41, 42, 43, 44, 45, 46, 47, 48, 49, 50, 51, 52, 53, 54, 55, 56, 57, 58] rfl (by decide +kernel)
set_option maxRecDepth 20000 in
theorem gX8_lasts_X8_springs : GoodIn wsX8_lasts (wsV RX8 127 RX8 yX8_springs wsX8_springs) := goodIn_app (goodIn_r _ [24, 25, 26, 4] rfl (by decide +kernel)) ggX8_lasts_X8_springs
set_option maxRecDepth 20000 in
theorem ggX8_lasts_X8_lets : GoodIn wsX8_lasts wsX8_lets := goodIn_r _ [39, 15, 14, 40, 41, 42, 43, 44, 45, 46, 47, 48, 49, 50, 51, 52, 53, 54, 55, 56, 57, 58] rfl (by decide +kernel)
set_option maxRecDepth 20000 in
theorem gX8_lasts_X8_lets : GoodIn wsX8_lasts (wsV RX8 133 RX8 yX8_lets wsX8_lets) := goodIn_app (goodIn_r _ [36, 37, 38, 4] rfl (by decide +kernel)) ggX8_lasts_X8_lets
set_option maxRecDepth 20000 in
theorem ggX8_inSprings_X8_in : GoodIn wsX8_inSprings wsX8_in := goodIn_r _ [4] rfl (by decide +kernel)
set_option maxRecDepth 20000 in
theorem gX8_inSprings_X8_in : GoodIn wsX8_inSprings (va_wsS RX8 51 yX8_in wsX8_in) := goodIn_app (goodIn_r _ [1, 2, 3] rfl (by decide +kernel)) ggX8_inSprings_X8_in
set_option maxRecDepth 20000 in
theorem ggX8_inSprings_X8_isPan : GoodIn wsX8_inSprings wsX8_isPan := goodIn_r _ [8, 9, 1, 2, 3, 4, 47, 48, 49, 50, 51, 52, 53, 54, 55, 56, 57, 58, 59, 60, 61, 62, 63, 64, 65] rfl (by decide +kernel)
set_option maxRecDepth 20000 in
theorem gX8_inSprings_X8_isPan : GoodIn wsX8_inSprings (wsV RX8 104 RX8 yX8_isPan wsX8_isPan) := goodIn_app (goodIn_r _ [5, 6, 7, 3] rfl (by decide +kernel)) ggX8_inSprings_X8_isPan
set_option maxRecDepth 20000 in
theorem ggX8_inSprings_X8_remembers : GoodIn wsX8_inSprings wsX8_remembers := goodIn_r _ [13, 14, 15, 47, 48, 49, 50, 51, 52, 53, 54, 55, 56, 57, 58, 59, 60, 61, 62, 63, 64, 65] rfl (by decide +kernel)
set_option maxRecDepth 20000 in
theorem gX8_inSprings_X8_remembers : GoodIn wsX8_inSprings (wsV RX8 130 RX8 yX8_remembers wsX8_remembers) := goodIn_app (goodIn_r _ [10, 11, 12, 3] rfl (by decide +kernel)) ggX8_inSprings_X8_remembers
set_option maxRecDepth 20000 in
theorem ggX8_inSprings_X8_springs : GoodIn wsX8_inSprings wsX8_springs := goodIn_r _ [19, 9, 15, 20, 21, 22, 3, 23, 24, 25, 26, 27, 47, 48, 49, 50, 51, 52, 53, 54, 55, 56, 57, 58, 59, 60, 61, 62, 63, 64, 65] rfl (by decide +kernel)
set_option maxRecDepth 20000 in
theorem gX8_inSprings_X8_springs : GoodIn wsX8_inSprings (wsV RX8 127 RX8 yX8_springs wsX8_springs) := goodIn_app (goodIn_r _ [16, 17, 18, 3] rfl (by decide +kernel)) ggX8_inSprings_X8_springs
set_option maxRecDepth 20000 in
theorem ggX8_inSprings_X8_allRead : GoodIn wsX8_inSprings wsX8_allRead := goodIn_r _ [31, 9, 32, 33, 34, 3, 35, 15, 36, 37, 38, 39, 47, 48, 49, 50, 51, 52, 53, 54, 55, 56, 57, 58, 59, 60, 61, 62, 63, 64, 65] rfl (by decide +kernel)
set_option maxRecDepth 20000 in
theorem gX8_inSprings_X8_allRead : GoodIn wsX8_inSprings (wsV RX8 111 RX8 yX8_allRead wsX8_allRead) := goodIn_app (goodIn_r _ [28, 29, 30, 3] rfl (by decide +kernel)) ggX8_inSprings_X8_allRead
set_option maxRecDepth 20000 in
theorem ggX8_inSprings_X8_ones : GoodIn wsX8_inSprings wsX8_ones := goodIn_r _ [42] rfl (by decide +kernel)
set_option maxRecDepth 20000 in
theorem gX8_inSprings_X8_ones : GoodIn wsX8_inSprings (va_wsS RX8 136 yX8_ones wsX8_ones) := goodIn_app (goodIn_r _ [40, 41, 3] rfl (by decide +kernel)) ggX8_inSprings_X8_ones
set_option maxRecDepth 20000 in
theorem ggX8_inSprings_X8_full : GoodIn wsX8_inSprings wsX8_full := goodIn_r _ [39, 15, 47, 48, 49, 50, 51, 52, 53, 54, 55, 56, 57, 58, 59, 60, 61, 62, 63, 64, 65] rfl (by decide +kernel)
set_option maxRecDepth 20000 in
theorem gX8_inSprings_X8_full : GoodIn wsX8_inSprings (wsV RX8 98 RX8 yX8_full wsX8_full) := goodIn_app (goodIn_r _ [36, 37, 38, 3] rfl (by decide +kernel)) ggX8_inSprings_X8_full
set_option maxRecDepth 20000 in
theorem ggX8_inSprings_X8_lets : GoodIn wsX8_inSprings wsX8_lets := goodIn_r _ [46, 15, 14, 47, 48, 49, 50, 51, 52, 53, 54, 55, 56, 57, 58, 59, 60, 61, 62, 63, 64, 65] rfl (by decide +kernel)
set_option maxRecDepth 20000 in
theorem gX8_inSprings_X8_lets : GoodIn wsX8_inSprings (wsV RX8 133 RX8 yX8_lets wsX8_lets) := goodIn_app (goodIn_r _ [43, 44, 45, 3] rfl (by decide +kernel)) ggX8_inSprings_X8_lets
set_option maxRecDepth 20000 in
theorem ggX8_fire_X8_in : GoodIn wsX8_fire wsX8_in := goodIn_r _ [5] rfl (by decide +kernel)
set_option maxRecDepth 20000 in
theorem gX8_fire_X8_in : GoodIn wsX8_fire (va_wsS RX8 51 yX8_in wsX8_in) := goodIn_app (goodIn_r _ [2, 3, 4] rfl (by decide +kernel)) ggX8_fire_X8_in
set_option maxRecDepth 20000 in
theorem ggX8_fire_X8_full : GoodIn wsX8_fire wsX8_full := goodIn_r _ [9, 10, 22, 23, 24, 25, 26, 27, 28, 29, 30, 31, 32, 33, 34, 35, 36, 37, 38, 39, 40] rfl (by decide +kernel)
set_option maxRecDepth 20000 in
theorem gX8_fire_X8_full : GoodIn wsX8_fire (wsV RX8 98 RX8 yX8_full wsX8_full) := goodIn_app (goodIn_r _ [6, 7, 8, 4] rfl (by decide +kernel)) ggX8_fire_X8_full
set_option maxRecDepth 20000 in
theorem ggX8_fire_X8_allRead : GoodIn wsX8_fire wsX8_allRead := goodIn_r _ [14, 1, 15, 16, 17, 4, 18, 10, 6, 7, 8, 9, 22, 23, 24, 25, 26, 27, 28, 29, 30, 31, 32, 33, 34, 35, 36, 37, 38, 39, 40] rfl (by decide +kernel)
set_option maxRecDepth 20000 in
theorem gX8_fire_X8_allRead : GoodIn wsX8_fire (wsV RX8 111 RX8 yX8_allRead wsX8_allRead) := goodIn_app (goodIn_r _ [11, 12, 13, 4] rfl (by decide +kernel)) ggX8_fire_X8_allRead
set_option maxRecDepth 20000 in
theorem ggX8_fire_X8_ones : GoodIn wsX8_fire wsX8_ones := goodIn_r _ [21] rfl (by decide +kernel)
set_option maxRecDepth 20000 in
theorem gX8_fire_X8_ones : GoodIn wsX8_fire (va_wsS RX8 136 yX8_ones wsX8_ones) := goodIn_app (goodIn_r _ [19, 20, 4] rfl (by decide +kernel)) ggX8_fire_X8_ones
set_option maxRecDepth 20000 in
theorem ggX8_spoil_X8_isPan : GoodIn wsX8_spoil wsX8_isPan := goodIn_r _ [7, 2, 8, 9, 6, 10, 19, 20, 21, 22, 23, 24, 25, 26, 27, 28, 29, 30, 31, 32, 33, 34, 35, 36, 37] rfl (by decide +kernel)
set_option maxRecDepth 20000 in
theorem gX8_spoil_X8_isPan : GoodIn wsX8_spoil (wsV RX8 104 RX8 yX8_isPan wsX8_isPan) := goodIn_app (goodIn_r _ [3, 4, 5, 6] rfl (by decide +kernel)) ggX8_spoil_X8_isPan
set_option maxRecDepth 20000 in
theorem ggX8_spoil_X8_isRead : GoodIn wsX8_spoil wsX8_isRead := goodIn_r _ [14, 1, 2, 15, 16, 17, 6, 18, 19, 20, 21, 22, 23, 24, 25, 26, 27, 28, 29, 30, 31, 32, 33, 34, 35, 36, 37] rfl (by decide +kernel)
set_option maxRecDepth 20000 in
theorem gX8_spoil_X8_isRead : GoodIn wsX8_spoil (wsV RX8 101 RX8 yX8_isRead wsX8_isRead) := goodIn_app (goodIn_r _ [11, 12, 13, 6] rfl (by decide +kernel)) ggX8_spoil_X8_isRead
set_option maxRecDepth 20000 in
theorem ggX8_mix_X8_in : GoodIn wsX8_mix wsX8_in := goodIn_r _ [5] rfl (by decide +kernel)
set_option maxRecDepth 20000 in
theorem gX8_mix_X8_in : GoodIn wsX8_mix (va_wsS RX8 51 yX8_in wsX8_in) := goodIn_app (goodIn_r _ [2, 3, 4] rfl (by decide +kernel)) ggX8_mix_X8_in
set_option maxRecDepth 20000 in
theorem ggX8_levels_X8_in : GoodIn wsX8_levels wsX8_in := goodIn_r _ [7] rfl (by decide +kernel)
set_option maxRecDepth 20000 in
theorem gX8_levels_X8_in : GoodIn wsX8_levels (va_wsS RX8 51 yX8_in wsX8_in) := goodIn_app (goodIn_r _ [4, 5, 6] rfl (by decide +kernel)) ggX8_levels_X8_in
set_option maxRecDepth 20000 in
theorem ggX8_levels_X8_isPan : GoodIn wsX8_levels wsX8_isPan := goodIn_r _ [11, 12, 4, 5, 6, 7, 13, 14, 15, 16, 17, 18, 19, 20, 21, 22, 23, 24, 25, 26, 27, 28, 29, 30, 31] rfl (by decide +kernel)
set_option maxRecDepth 20000 in
theorem gX8_levels_X8_isPan : GoodIn wsX8_levels (wsV RX8 104 RX8 yX8_isPan wsX8_isPan) := goodIn_app (goodIn_r _ [8, 9, 10, 6] rfl (by decide +kernel)) ggX8_levels_X8_isPan
set_option maxRecDepth 20000 in
theorem ggX8_isSo_X8_full : GoodIn wsX8_isSo wsX8_full := goodIn_r _ [9, 10, 11, 12, 13, 14, 15, 16, 17, 18, 19, 20, 21, 22, 23, 24, 25, 26, 27, 28, 29] rfl (by decide +kernel)
set_option maxRecDepth 20000 in
theorem gX8_isSo_X8_full : GoodIn wsX8_isSo (wsV RX8 98 RX8 yX8_full wsX8_full) := goodIn_app (goodIn_r _ [5, 6, 7, 8] rfl (by decide +kernel)) ggX8_isSo_X8_full
set_option maxRecDepth 20000 in
theorem ggX8_theft_X8_in : GoodIn wsX8_theft wsX8_in := goodIn_r _ [5] rfl (by decide +kernel)
set_option maxRecDepth 20000 in
theorem gX8_theft_X8_in : GoodIn wsX8_theft (va_wsS RX8 51 yX8_in wsX8_in) := goodIn_app (goodIn_r _ [2, 3, 4] rfl (by decide +kernel)) ggX8_theft_X8_in
set_option maxRecDepth 20000 in
theorem ggX8_theft_X8_full : GoodIn wsX8_theft wsX8_full := goodIn_r _ [9, 10, 35, 36, 37, 38, 39, 40, 41, 42, 43, 44, 45, 46, 47, 48, 49, 50, 51, 52, 53] rfl (by decide +kernel)
set_option maxRecDepth 20000 in
theorem gX8_theft_X8_full : GoodIn wsX8_theft (wsV RX8 98 RX8 yX8_full wsX8_full) := goodIn_app (goodIn_r _ [6, 7, 8, 4] rfl (by decide +kernel)) ggX8_theft_X8_full
set_option maxRecDepth 20000 in
theorem ggX8_theft_X8_remembers : GoodIn wsX8_theft wsX8_remembers := goodIn_r _ [14, 15, 10, 35, 36, 37, 38, 39, 40, 41, 42, 43, 44, 45, 46, 47, 48, 49, 50, 51, 52, 53] rfl (by decide +kernel)
set_option maxRecDepth 20000 in
theorem gX8_theft_X8_remembers : GoodIn wsX8_theft (wsV RX8 130 RX8 yX8_remembers wsX8_remembers) := goodIn_app (goodIn_r _ [11, 12, 13, 4] rfl (by decide +kernel)) ggX8_theft_X8_remembers
set_option maxRecDepth 20000 in
theorem ggX8_theft_X8_goes : GoodIn wsX8_theft wsX8_goes := goodIn_r _ [19, 10, 20, 21, 22, 4, 23, 1, 35, 36, 37, 38, 39, 40, 41, 42, 43, 44, 45, 46, 47, 48, 49, 50, 51, 52, 53] rfl (by decide +kernel)
set_option maxRecDepth 20000 in
theorem gX8_theft_X8_goes : GoodIn wsX8_theft (wsV RX8 123 RX8 yX8_goes wsX8_goes) := goodIn_app (goodIn_r _ [16, 17, 18, 4] rfl (by decide +kernel)) ggX8_theft_X8_goes
set_option maxRecDepth 20000 in
theorem ggX8_theft_X8_isSo : GoodIn wsX8_theft wsX8_isSo := goodIn_r _ [27, 28, 29, 1, 30, 6, 7, 8, 4, 9, 10, 35, 36, 37, 38, 39, 40, 41, 42, 43, 44, 45, 46, 47, 48, 49, 50, 51, 52, 53] rfl (by decide +kernel)
set_option maxRecDepth 20000 in
theorem gX8_theft_X8_isSo : GoodIn wsX8_theft (wsV RX8 139 RX8 yX8_isSo wsX8_isSo) := goodIn_app (goodIn_r _ [24, 25, 26, 4] rfl (by decide +kernel)) ggX8_theft_X8_isSo
set_option maxRecDepth 20000 in
theorem ggX8_theft_X8_lets : GoodIn wsX8_theft wsX8_lets := goodIn_r _ [34, 10, 15, 35, 36, 37, 38, 39, 40, 41, 42, 43, 44, 45, 46, 47, 48, 49, 50, 51, 52, 53] rfl (by decide +kernel)
set_option maxRecDepth 20000 in
theorem gX8_theft_X8_lets : GoodIn wsX8_theft (wsV RX8 133 RX8 yX8_lets wsX8_lets) := goodIn_app (goodIn_r _ [31, 32, 33, 4] rfl (by decide +kernel)) ggX8_theft_X8_lets
set_option maxRecDepth 20000 in
theorem ggX8_stand_X8_full : GoodIn wsX8_stand wsX8_full := goodIn_r _ [6, 7, 12, 13, 14, 15, 16, 17, 18, 19, 20, 21, 22, 23, 24, 25, 26, 27, 28, 29, 30] rfl (by decide +kernel)
set_option maxRecDepth 20000 in
theorem gX8_stand_X8_full : GoodIn wsX8_stand (wsV RX8 98 RX8 yX8_full wsX8_full) := goodIn_app (goodIn_r _ [2, 3, 4, 5] rfl (by decide +kernel)) ggX8_stand_X8_full
set_option maxRecDepth 20000 in
theorem ggX8_stand_X8_isHail : GoodIn wsX8_stand wsX8_isHail := goodIn_r _ [11, 1, 12, 13, 14, 15, 16, 17, 18, 19, 20, 21, 22, 23, 24, 25, 26, 27, 28, 29, 30] rfl (by decide +kernel)
set_option maxRecDepth 20000 in
theorem gX8_stand_X8_isHail : GoodIn wsX8_stand (wsV RX8 142 RX8 yX8_isHail wsX8_isHail) := goodIn_app (goodIn_r _ [8, 9, 10, 5] rfl (by decide +kernel)) ggX8_stand_X8_isHail
set_option maxRecDepth 20000 in
theorem ggX8_shelves_X8_full : GoodIn wsX8_shelves wsX8_full := goodIn_r _ [7, 8, 17, 18, 19, 20, 21, 22, 23, 24, 25, 26, 27, 28, 29, 30, 31, 32, 33, 34, 35] rfl (by decide +kernel)
set_option maxRecDepth 20000 in
theorem gX8_shelves_X8_full : GoodIn wsX8_shelves (wsV RX8 98 RX8 yX8_full wsX8_full) := goodIn_app (goodIn_r _ [3, 4, 5, 6] rfl (by decide +kernel)) ggX8_shelves_X8_full
set_option maxRecDepth 20000 in
theorem ggX8_shelves_X8_stand : GoodIn wsX8_shelves wsX8_stand := goodIn_r _ [12, 1, 3, 4, 5, 6, 7, 8, 13, 14, 15, 16, 17, 18, 19, 20, 21, 22, 23, 24, 25, 26, 27, 28, 29, 30, 31, 32, 33, 34, 35] rfl (by decide +kernel)
set_option maxRecDepth 20000 in
theorem gX8_shelves_X8_stand : GoodIn wsX8_shelves (wsV RX8 145 RX8 yX8_stand wsX8_stand) := goodIn_app (goodIn_r _ [9, 10, 11, 6] rfl (by decide +kernel)) ggX8_shelves_X8_stand
set_option maxRecDepth 20000 in
theorem ggX8_beside_X8_isPan : GoodIn wsX8_beside wsX8_isPan := goodIn_r _ [6, 1, 7, 8, 5, 9, 26, 27, 28, 29, 30, 31, 32, 33, 34, 35, 36, 37, 38, 39, 40, 41, 42, 43, 44] rfl (by decide +kernel)
set_option maxRecDepth 20000 in
theorem gX8_beside_X8_isPan : GoodIn wsX8_beside (wsV RX8 104 RX8 yX8_isPan wsX8_isPan) := goodIn_app (goodIn_r _ [2, 3, 4, 5] rfl (by decide +kernel)) ggX8_beside_X8_isPan
set_option maxRecDepth 20000 in
theorem ggX8_beside_X8_stand : GoodIn wsX8_beside wsX8_stand := goodIn_r _ [13, 1, 14, 15, 16, 5, 17, 18, 19, 20, 21, 22, 26, 27, 28, 29, 30, 31, 32, 33, 34, 35, 36, 37, 38, 39, 40, 41, 42, 43, 44] rfl (by decide +kernel)
set_option maxRecDepth 20000 in
theorem gX8_beside_X8_stand : GoodIn wsX8_beside (wsV RX8 145 RX8 yX8_stand wsX8_stand) := goodIn_app (goodIn_r _ [10, 11, 12, 5] rfl (by decide +kernel)) ggX8_beside_X8_stand
set_option maxRecDepth 20000 in
theorem ggX8_beside_X8_full : GoodIn wsX8_beside wsX8_full := goodIn_r _ [17, 18, 26, 27, 28, 29, 30, 31, 32, 33, 34, 35, 36, 37, 38, 39, 40, 41, 42, 43, 44] rfl (by decide +kernel)
set_option maxRecDepth 20000 in
theorem gX8_beside_X8_full : GoodIn wsX8_beside (wsV RX8 98 RX8 yX8_full wsX8_full) := goodIn_app (goodIn_r _ [14, 15, 16, 5] rfl (by decide +kernel)) ggX8_beside_X8_full
set_option maxRecDepth 20000 in
theorem ggX8_beside_X8_ones : GoodIn wsX8_beside wsX8_ones := goodIn_r _ [25] rfl (by decide +kernel)
set_option maxRecDepth 20000 in
theorem gX8_beside_X8_ones : GoodIn wsX8_beside (va_wsS RX8 136 yX8_ones wsX8_ones) := goodIn_app (goodIn_r _ [23, 24, 5] rfl (by decide +kernel)) ggX8_beside_X8_ones
set_option maxRecDepth 20000 in
theorem ggX8_odds_X8_in : GoodIn wsX8_odds wsX8_in := goodIn_r _ [4] rfl (by decide +kernel)
set_option maxRecDepth 20000 in
theorem gX8_odds_X8_in : GoodIn wsX8_odds (va_wsS RX8 51 yX8_in wsX8_in) := goodIn_app (goodIn_r _ [1, 2, 3] rfl (by decide +kernel)) ggX8_odds_X8_in
set_option maxRecDepth 20000 in
theorem ggX8_odds_X8_allRead : GoodIn wsX8_odds wsX8_allRead := goodIn_r _ [8, 9, 10, 11, 12, 3, 13, 14, 15, 16, 17, 18, 22, 23, 24, 25, 26, 27, 28, 29, 30, 31, 32, 33, 34, 35, 36, 37, 38, 39, 40] rfl (by decide +kernel)
set_option maxRecDepth 20000 in
theorem gX8_odds_X8_allRead : GoodIn wsX8_odds (wsV RX8 111 RX8 yX8_allRead wsX8_allRead) := goodIn_app (goodIn_r _ [5, 6, 7, 3] rfl (by decide +kernel)) ggX8_odds_X8_allRead
set_option maxRecDepth 20000 in
theorem ggX8_odds_X8_ones : GoodIn wsX8_odds wsX8_ones := goodIn_r _ [21] rfl (by decide +kernel)
set_option maxRecDepth 20000 in
theorem gX8_odds_X8_ones : GoodIn wsX8_odds (va_wsS RX8 136 yX8_ones wsX8_ones) := goodIn_app (goodIn_r _ [19, 20, 3] rfl (by decide +kernel)) ggX8_odds_X8_ones
set_option maxRecDepth 20000 in
theorem ggX8_rate_X8_in : GoodIn wsX8_rate wsX8_in := goodIn_r _ [13] rfl (by decide +kernel)
set_option maxRecDepth 20000 in
theorem gX8_rate_X8_in : GoodIn wsX8_rate (va_wsS RX8 51 yX8_in wsX8_in) := goodIn_app (goodIn_r _ [10, 11, 12] rfl (by decide +kernel)) ggX8_rate_X8_in
set_option maxRecDepth 20000 in
theorem ggX8_rate_X8_isPan : GoodIn wsX8_rate wsX8_isPan := goodIn_r _ [17, 8, 10, 11, 12, 13, 22, 23, 24, 25, 26, 27, 28, 29, 30, 31, 32, 33, 34, 35, 36, 37, 38, 39, 40] rfl (by decide +kernel)
set_option maxRecDepth 20000 in
theorem gX8_rate_X8_isPan : GoodIn wsX8_rate (wsV RX8 104 RX8 yX8_isPan wsX8_isPan) := goodIn_app (goodIn_r _ [14, 15, 16, 12] rfl (by decide +kernel)) ggX8_rate_X8_isPan
set_option maxRecDepth 20000 in
theorem ggX8_rate_X8_full : GoodIn wsX8_rate wsX8_full := goodIn_r _ [21, 9, 22, 23, 24, 25, 26, 27, 28, 29, 30, 31, 32, 33, 34, 35, 36, 37, 38, 39, 40] rfl (by decide +kernel)
set_option maxRecDepth 20000 in
theorem gX8_rate_X8_full : GoodIn wsX8_rate (wsV RX8 98 RX8 yX8_full wsX8_full) := goodIn_app (goodIn_r _ [18, 19, 20, 12] rfl (by decide +kernel)) ggX8_rate_X8_full
set_option maxRecDepth 20000 in
theorem ggX8_keep_X8_in : GoodIn wsX8_keep wsX8_in := goodIn_r _ [7] rfl (by decide +kernel)
set_option maxRecDepth 20000 in
theorem gX8_keep_X8_in : GoodIn wsX8_keep (va_wsS RX8 51 yX8_in wsX8_in) := goodIn_app (goodIn_r _ [4, 5, 6] rfl (by decide +kernel)) ggX8_keep_X8_in
set_option maxRecDepth 20000 in
theorem ggX8_back_X8_in : GoodIn wsX8_back wsX8_in := goodIn_r _ [8] rfl (by decide +kernel)
set_option maxRecDepth 20000 in
theorem gX8_back_X8_in : GoodIn wsX8_back (va_wsS RX8 51 yX8_in wsX8_in) := goodIn_app (goodIn_r _ [5, 6, 7] rfl (by decide +kernel)) ggX8_back_X8_in
