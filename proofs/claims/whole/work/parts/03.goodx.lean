set_option maxRecDepth 20000 in
theorem ggX1_reckon_X1_look : GoodIn wsX1_reckon wsX1_look := goodIn_r _ [11, 6, 12, 13, 14, 15, 16, 17, 18, 19, 20, 21, 22, 23, 24, 25, 26, 27, 28, 29, 30, 31, 32, 33, 34, 35, 36, 37, 38, 39, 40, 41, 42, 43, 44, 45, 46, 47, 48, 49, 50, 51, 52, 53, 54, 55, 56, 57, 58, 59, 60, 61, 62, 63, 64, 65, 66, 67, 68, 69, 70, 71, 72, 73, 74, 75, 76, 77, 78, 79, 80, 81, 82, 83, 84, 85, 86, 111, 112, 113, 114, 115, 116, 117, 118, 119, 120, 121, 122, 123, 124, 125, 126, 127, 128, 129, 130, 131, 132, 133, 134, 135, 136] (by decide +kernel) (by decide +kernel)
set_option maxRecDepth 20000 in
theorem gX1_reckon_X1_look : GoodIn wsX1_reckon (wsV RX1 30 RX1 yX1_look wsX1_look) := goodIn_app (goodIn_of _ (by decide +kernel)) ggX1_reckon_X1_look
set_option maxRecDepth 20000 in
theorem ggX1_reckon_X1_middleSlope : GoodIn wsX1_reckon wsX1_middleSlope := goodIn_r _ [90, 6, 15, 91, 17, 92, 93, 94, 111, 112, 113, 114, 115, 116, 117, 118, 119, 120, 121] (by decide +kernel) (by decide +kernel)
set_option maxRecDepth 20000 in
theorem gX1_reckon_X1_middleSlope : GoodIn wsX1_reckon (wsV RX1 51 RX1 yX1_middleSlope wsX1_middleSlope) := goodIn_app (goodIn_of _ (by decide +kernel)) ggX1_reckon_X1_middleSlope
set_option maxRecDepth 20000 in
theorem ggX1_reckon_X1_middleBase : GoodIn wsX1_reckon wsX1_middleBase := goodIn_r _ [98, 6, 99, 17, 15, 100, 101, 102, 10, 103, 2, 104, 92, 93, 94, 111, 112, 113, 114, 115, 116, 117, 118, 119, 120, 121] (by decide +kernel) (by decide +kernel)
set_option maxRecDepth 20000 in
theorem gX1_reckon_X1_middleBase : GoodIn wsX1_reckon (wsV RX1 55 RX1 yX1_middleBase wsX1_middleBase) := goodIn_app (goodIn_of _ (by decide +kernel)) ggX1_reckon_X1_middleBase
set_option maxRecDepth 20000 in
theorem ggX1_reckon_X1_findOdd : GoodIn wsX1_reckon wsX1_findOdd := goodIn_r _ [108, 6, 109, 17, 15, 3, 110, 57, 58, 59, 13, 4, 5, 100, 101, 102, 10, 103, 2, 104, 111, 112, 113, 114, 115, 116, 117, 118, 119, 120, 121] (by decide +kernel) (by decide +kernel)
set_option maxRecDepth 20000 in
theorem gX1_reckon_X1_findOdd : GoodIn wsX1_reckon (wsV RX1 58 RX1 yX1_findOdd wsX1_findOdd) := goodIn_app (goodIn_of _ (by decide +kernel)) ggX1_reckon_X1_findOdd
set_option maxRecDepth 20000 in
theorem ggX1_look_Jx4a65c_size_8abf5 : GoodIn wsX1_look wsJx4a65c_size_8abf5 := goodIn_r _ [12, 13, 96, 97, 98] (by decide +kernel) (by decide +kernel)
set_option maxRecDepth 20000 in
theorem gX1_look_Jx4a65c_size_8abf5 : GoodIn wsX1_look (wsV RX1 61 RJx4a65c yJx4a65c_size_8abf5 wsJx4a65c_size_8abf5) := goodIn_app (goodIn_of _ (by decide +kernel)) ggX1_look_Jx4a65c_size_8abf5
set_option maxRecDepth 20000 in
theorem ggX1_look_Jx4a65c_get_915e3 : GoodIn wsX1_look wsJx4a65c_get_915e3 := goodIn_r _ [17, 13, 18, 19, 20, 21, 22, 23, 24, 25, 26, 27, 28, 11, 29, 30, 96, 97, 98] (by decide +kernel) (by decide +kernel)
set_option maxRecDepth 20000 in
theorem gX1_look_Jx4a65c_get_915e3 : GoodIn wsX1_look (wsV RX1 66 RJx4a65c yJx4a65c_get_915e3 wsJx4a65c_get_915e3) := goodIn_app (goodIn_of _ (by decide +kernel)) ggX1_look_Jx4a65c_get_915e3
set_option maxRecDepth 20000 in
theorem ggX1_look_X2_sees : GoodIn wsX1_look wsX2_sees := goodIn_r _ [35, 36, 37, 38, 39, 40, 41, 42, 43, 44, 45, 46, 47, 48, 49, 50, 51, 52, 34, 53, 54, 55, 56, 57, 58, 59, 60, 88, 89, 90, 91, 92, 93, 94, 95, 99, 100, 101, 102] (by decide +kernel) (by decide +kernel)
set_option maxRecDepth 20000 in
theorem gX1_look_X2_sees : GoodIn wsX1_look (wsV RX1 72 RX2 yX2_sees wsX2_sees) := goodIn_app (goodIn_of _ (by decide +kernel)) ggX1_look_X2_sees
set_option maxRecDepth 20000 in
theorem ggX1_look_X2_readingOf : GoodIn wsX1_look wsX2_readingOf := goodIn_r _ [64, 36, 65, 37, 38, 39, 40, 41, 42, 43, 44, 45, 46, 47, 48, 49, 50, 51, 52, 34, 53, 54, 55, 56, 57, 58, 59, 60, 66, 67, 68, 69, 70, 71, 72, 73, 74, 75, 76, 88, 89, 90, 91, 92, 93, 94, 95, 99, 100, 101, 102] (by decide +kernel) (by decide +kernel)
set_option maxRecDepth 20000 in
theorem gX1_look_X2_readingOf : GoodIn wsX1_look (wsV RX1 82 RX2 yX2_readingOf wsX2_readingOf) := goodIn_app (goodIn_of _ (by decide +kernel)) ggX1_look_X2_readingOf
set_option maxRecDepth 20000 in
theorem ggX1_middleSlope_X3_middle : GoodIn wsX1_middleSlope wsX3_middle := goodIn_r _ [7] (by decide +kernel) (by decide +kernel)
set_option maxRecDepth 20000 in
theorem gX1_middleSlope_X3_middle_n86 : GoodIn wsX1_middleSlope (wsX3_middle) := ggX1_middleSlope_X3_middle
set_option maxRecDepth 20000 in
theorem ggX1_middleBase_X1_riseTo : GoodIn wsX1_middleBase wsX1_riseTo := goodIn_r _ [9, 10, 11, 15, 16, 17, 18, 19, 20, 21, 22, 23, 24, 25] (by decide +kernel) (by decide +kernel)
set_option maxRecDepth 20000 in
theorem gX1_middleBase_X1_riseTo : GoodIn wsX1_middleBase (wsV RX1 92 RX1 yX1_riseTo wsX1_riseTo) := goodIn_app (goodIn_of _ (by decide +kernel)) ggX1_middleBase_X1_riseTo
set_option maxRecDepth 20000 in
theorem ggX1_middleBase_X3_middle : GoodIn wsX1_middleBase wsX3_middle := goodIn_r _ [14] (by decide +kernel) (by decide +kernel)
set_option maxRecDepth 20000 in
theorem gX1_middleBase_X3_middle_n86 : GoodIn wsX1_middleBase (wsX3_middle) := ggX1_middleBase_X3_middle
set_option maxRecDepth 20000 in
theorem ggX1_findOdd_X1_riseTo : GoodIn wsX1_findOdd wsX1_riseTo := goodIn_r _ [17, 18, 19, 20, 21, 22, 23, 24, 25, 26, 27, 28, 29, 30] (by decide +kernel) (by decide +kernel)
set_option maxRecDepth 20000 in
theorem gX1_findOdd_X1_riseTo : GoodIn wsX1_findOdd (wsV RX1 92 RX1 yX1_riseTo wsX1_riseTo) := goodIn_app (goodIn_of _ (by decide +kernel)) ggX1_findOdd_X1_riseTo
set_option maxRecDepth 20000 in
theorem ggX1_tell_X1_longestRun : GoodIn wsX1_tell wsX1_longestRun := goodIn_r _ [14, 1, 15, 16, 6, 7, 8, 9, 21, 22, 23, 24, 25, 26, 27, 28, 29, 30, 31] (by decide +kernel) (by decide +kernel)
set_option maxRecDepth 20000 in
theorem gX1_tell_X1_longestRun : GoodIn wsX1_tell (wsV RX1 101 RX1 yX1_longestRun wsX1_longestRun) := goodIn_app (goodIn_of _ (by decide +kernel)) ggX1_tell_X1_longestRun
set_option maxRecDepth 20000 in
theorem ggX1_tell_X1_fallingPairs : GoodIn wsX1_tell wsX1_fallingPairs := goodIn_r _ [20, 1, 16, 21, 22, 23, 24, 25, 26, 27, 28, 29, 30, 31] (by decide +kernel) (by decide +kernel)
set_option maxRecDepth 20000 in
theorem gX1_tell_X1_fallingPairs : GoodIn wsX1_tell (wsV RX1 108 RX1 yX1_fallingPairs wsX1_fallingPairs) := goodIn_app (goodIn_of _ (by decide +kernel)) ggX1_tell_X1_fallingPairs
set_option maxRecDepth 20000 in
theorem ggX1_guessAt_X1_riseTo : GoodIn wsX1_guessAt wsX1_riseTo := goodIn_r _ [8, 9, 10, 11, 12, 13, 14, 15, 16, 17, 18, 19, 20, 21] (by decide +kernel) (by decide +kernel)
set_option maxRecDepth 20000 in
theorem gX1_guessAt_X1_riseTo : GoodIn wsX1_guessAt (wsV RX1 92 RX1 yX1_riseTo wsX1_riseTo) := goodIn_app (goodIn_of _ (by decide +kernel)) ggX1_guessAt_X1_riseTo
set_option maxRecDepth 20000 in
theorem ggX1_stationInOrder_X1_stationsAheadOf : GoodIn wsX1_stationInOrder wsX1_stationsAheadOf := goodIn_r _ [7, 1, 8, 2, 9, 10, 11, 12, 13, 14, 15, 16, 17, 18, 19] (by decide +kernel) (by decide +kernel)
set_option maxRecDepth 20000 in
theorem gX1_stationInOrder_X1_stationsAheadOf : GoodIn wsX1_stationInOrder (wsV RX1 111 RX1 yX1_stationsAheadOf wsX1_stationsAheadOf) := goodIn_app (goodIn_of _ (by decide +kernel)) ggX1_stationInOrder_X1_stationsAheadOf
set_option maxRecDepth 20000 in
theorem ggX2_readsAt_X2_uncorrectedAt : GoodIn wsX2_readsAt wsX2_uncorrectedAt := goodIn_r _ [6, 7, 8, 9, 10, 11, 12, 13, 14, 15, 16] (by decide +kernel) (by decide +kernel)
set_option maxRecDepth 20000 in
theorem gX2_readsAt_X2_uncorrectedAt : GoodIn wsX2_readsAt (wsV RX2 31 RX2 yX2_uncorrectedAt wsX2_uncorrectedAt) := goodIn_app (goodIn_of _ (by decide +kernel)) ggX2_readsAt_X2_uncorrectedAt
set_option maxRecDepth 20000 in
theorem ggX2_correctionToRead_X2_uncorrectedAt : GoodIn wsX2_correctionToRead wsX2_uncorrectedAt := goodIn_r _ [5, 6, 7, 8, 9, 10, 11, 12, 13, 14, 15] (by decide +kernel) (by decide +kernel)
set_option maxRecDepth 20000 in
theorem gX2_correctionToRead_X2_uncorrectedAt : GoodIn wsX2_correctionToRead (wsV RX2 31 RX2 yX2_uncorrectedAt wsX2_uncorrectedAt) := goodIn_app (goodIn_of _ (by decide +kernel)) ggX2_correctionToRead_X2_uncorrectedAt
set_option maxRecDepth 20000 in
theorem ggX2_seesAt_X2_isCoveredAt : GoodIn wsX2_seesAt wsX2_isCoveredAt := goodIn_r _ [5, 6, 7, 8, 9, 10, 11, 12, 13, 14, 15, 16] (by decide +kernel) (by decide +kernel)
set_option maxRecDepth 20000 in
theorem gX2_seesAt_X2_isCoveredAt : GoodIn wsX2_seesAt (wsV RX2 41 RX2 yX2_isCoveredAt wsX2_isCoveredAt) := goodIn_app (goodIn_of _ (by decide +kernel)) ggX2_seesAt_X2_isCoveredAt
set_option maxRecDepth 20000 in
theorem ggX2_sees_X0_timeAt : GoodIn wsX2_sees wsX0_timeAt := goodIn_r _ [6, 7, 8, 9, 10, 11, 12, 13, 14, 35, 36, 37, 38] (by decide +kernel) (by decide +kernel)
set_option maxRecDepth 20000 in
theorem gX2_sees_X0_timeAt : GoodIn wsX2_sees (wsV RX2 45 RX0 yX0_timeAt wsX0_timeAt) := goodIn_app (goodIn_of _ (by decide +kernel)) ggX2_sees_X0_timeAt
set_option maxRecDepth 20000 in
theorem ggX2_sees_X2_seesAt : GoodIn wsX2_sees wsX2_seesAt := goodIn_r _ [19, 20, 21, 22, 18, 23, 24, 25, 26, 27, 28, 29, 30, 31, 32, 33, 34] (by decide +kernel) (by decide +kernel)
set_option maxRecDepth 20000 in
theorem gX2_sees_X2_seesAt : GoodIn wsX2_sees (wsV RX2 50 RX2 yX2_seesAt wsX2_seesAt) := goodIn_app (goodIn_of _ (by decide +kernel)) ggX2_sees_X2_seesAt
set_option maxRecDepth 20000 in
theorem ggX2_readingOf_X0_timeAt : GoodIn wsX2_readingOf wsX0_timeAt := goodIn_r _ [7, 8, 9, 10, 11, 12, 13, 14, 15, 47, 48, 49, 50] (by decide +kernel) (by decide +kernel)
set_option maxRecDepth 20000 in
theorem gX2_readingOf_X0_timeAt : GoodIn wsX2_readingOf (wsV RX2 45 RX0 yX0_timeAt wsX0_timeAt) := goodIn_app (goodIn_of _ (by decide +kernel)) ggX2_readingOf_X0_timeAt
set_option maxRecDepth 20000 in
theorem ggX2_readingOf_X2_seesAt : GoodIn wsX2_readingOf wsX2_seesAt := goodIn_r _ [20, 21, 22, 23, 19, 24, 25, 26, 27, 39, 40, 41, 42, 43, 44, 45, 46] (by decide +kernel) (by decide +kernel)
set_option maxRecDepth 20000 in
theorem gX2_readingOf_X2_seesAt : GoodIn wsX2_readingOf (wsV RX2 50 RX2 yX2_seesAt wsX2_seesAt) := goodIn_app (goodIn_of _ (by decide +kernel)) ggX2_readingOf_X2_seesAt
set_option maxRecDepth 20000 in
theorem ggX2_readingOf_X2_readsAt : GoodIn wsX2_readingOf wsX2_readsAt := goodIn_r _ [31, 32, 33, 34, 35, 19, 36, 37, 38, 39, 40, 41, 42, 43, 44, 45, 46] (by decide +kernel) (by decide +kernel)
set_option maxRecDepth 20000 in
theorem gX2_readingOf_X2_readsAt : GoodIn wsX2_readingOf (wsV RX2 53 RX2 yX2_readsAt wsX2_readsAt) := goodIn_app (goodIn_of _ (by decide +kernel)) ggX2_readingOf_X2_readsAt
set_option maxRecDepth 20000 in
theorem ggX3_init_Jx4a65c_init_da8c8 : GoodIn wsX3_init wsJx4a65c_init_da8c8 := goodIn_r _ [18, 19, 20, 21, 22, 23, 24, 25, 26, 27, 28, 29, 30, 2, 3, 41, 42, 43] (by decide +kernel) (by decide +kernel)
set_option maxRecDepth 20000 in
theorem gX3_init_Jx4a65c_init_da8c8 : GoodIn wsX3_init (wsJx4a65c_init_da8c8) := ggX3_init_Jx4a65c_init_da8c8
set_option maxRecDepth 20000 in
theorem ggX3_init_X1_init : GoodIn wsX3_init wsX1_init := goodIn_r _ [33, 34, 2, 3, 14, 35, 36, 37, 38, 39, 40, 49, 50, 51, 52, 53, 54, 55, 56, 57, 58, 59] (by decide +kernel) (by decide +kernel)
set_option maxRecDepth 20000 in
theorem gX3_init_X1_init : GoodIn wsX3_init (wsX1_init) := ggX3_init_X1_init
set_option maxRecDepth 20000 in
theorem ggX3_build_X3_outside : GoodIn wsX3_build wsX3_outside := goodIn_r _ [13] (by decide +kernel) (by decide +kernel)
set_option maxRecDepth 20000 in
theorem gX3_build_X3_outside : GoodIn wsX3_build (va_wsS RX3 33 yX3_outside wsX3_outside) := goodIn_app (goodIn_of _ (by decide +kernel)) ggX3_build_X3_outside
set_option maxRecDepth 20000 in
theorem ggX3_build_X3_isTaken : GoodIn wsX3_build wsX3_isTaken := goodIn_r _ [17, 5, 18, 19, 20, 21, 22, 23, 24, 25, 26, 27, 28, 29, 30, 31, 32, 33, 34, 35, 36, 37, 38, 39, 40, 41, 42, 122, 123, 124, 125, 126, 127, 128, 129, 130, 131, 132, 133, 134, 135, 136, 137] (by decide +kernel) (by decide +kernel)
set_option maxRecDepth 20000 in
theorem gX3_build_X3_isTaken : GoodIn wsX3_build (wsV RX3 40 RX3 yX3_isTaken wsX3_isTaken) := goodIn_app (goodIn_of _ (by decide +kernel)) ggX3_build_X3_isTaken
set_option maxRecDepth 20000 in
theorem ggX3_build_Jx4a65c_size_8abf5 : GoodIn wsX3_build wsJx4a65c_size_8abf5 := goodIn_r _ [24, 25, 135, 136, 137] (by decide +kernel) (by decide +kernel)
set_option maxRecDepth 20000 in
theorem gX3_build_Jx4a65c_size_8abf5 : GoodIn wsX3_build (wsV RX3 44 RJx4a65c yJx4a65c_size_8abf5 wsJx4a65c_size_8abf5) := goodIn_app (goodIn_of _ (by decide +kernel)) ggX3_build_Jx4a65c_size_8abf5
set_option maxRecDepth 20000 in
theorem ggX3_build_X2_init : GoodIn wsX3_build wsX2_init := goodIn_r _ [45, 46, 47, 48, 49, 50, 51, 52, 53, 54, 55, 127, 128, 129, 130, 131, 132, 133, 134] (by decide +kernel) (by decide +kernel)
set_option maxRecDepth 20000 in
theorem gX3_build_X2_init : GoodIn wsX3_build (wsX2_init) := ggX3_build_X2_init
set_option maxRecDepth 20000 in
theorem ggX3_build_Jx4a65c_add_9ea2d : GoodIn wsX3_build wsJx4a65c_add_9ea2d := goodIn_r _ [59, 60, 61, 42, 25, 62, 63, 64, 23, 65, 66, 67, 68, 69, 70, 71, 72, 73, 74, 75, 76, 77, 78, 79, 80, 81, 82, 83, 84, 85, 86, 87, 88, 89, 90, 91, 92, 93, 94, 95, 96, 97, 98, 99, 100, 101, 102, 103, 104, 105, 106, 107, 108, 135, 136, 137] (by decide +kernel) (by decide +kernel)
set_option maxRecDepth 20000 in
theorem gX3_build_Jx4a65c_add_9ea2d : GoodIn wsX3_build (wsV RX3 56 RJx4a65c yJx4a65c_add_9ea2d wsJx4a65c_add_9ea2d) := goodIn_app (goodIn_of _ (by decide +kernel)) ggX3_build_Jx4a65c_add_9ea2d
set_option maxRecDepth 20000 in
theorem ggX3_build_X3_stationsBefore : GoodIn wsX3_build wsX3_stationsBefore := goodIn_r _ [112, 9, 18, 19, 20, 21, 22, 23, 24, 25, 26, 27, 28, 29, 30, 31, 32, 33, 34, 35, 36, 37, 38, 39, 40, 41, 42, 122, 123, 124, 125, 126, 127, 128, 129, 130, 131, 132, 133, 134, 135, 136, 137] (by decide +kernel) (by decide +kernel)
set_option maxRecDepth 20000 in
theorem gX3_build_X3_stationsBefore : GoodIn wsX3_build (wsV RX3 60 RX3 yX3_stationsBefore wsX3_stationsBefore) := goodIn_app (goodIn_of _ (by decide +kernel)) ggX3_build_X3_stationsBefore
set_option maxRecDepth 20000 in
theorem ggX3_build_Jx4a65c_add_7a177 : GoodIn wsX3_build wsJx4a65c_add_7a177 := goodIn_r _ [116, 60, 61, 25, 42, 117, 106, 107, 108, 118, 119, 120, 23, 121, 66, 67, 68, 69, 70, 71, 72, 73, 74, 75, 76, 77, 78, 79, 80, 81, 82, 83, 84, 85, 86, 87, 88, 89, 90, 91, 92, 93, 94, 95, 96, 97, 98, 99, 100, 101, 102, 103, 104, 105, 135, 136, 137] (by decide +kernel) (by decide +kernel)
set_option maxRecDepth 20000 in
theorem gX3_build_Jx4a65c_add_7a177 : GoodIn wsX3_build (wsV RX3 64 RJx4a65c yJx4a65c_add_7a177 wsJx4a65c_add_7a177) := goodIn_app (goodIn_of _ (by decide +kernel)) ggX3_build_Jx4a65c_add_7a177
set_option maxRecDepth 20000 in
theorem ggX3_cloud_X3_noStation : GoodIn wsX3_cloud wsX3_noStation := goodIn_r _ [14, 7, 15, 16, 17, 18, 19, 20, 21, 22, 13, 23, 53, 54, 55, 56, 57, 66, 67, 68] (by decide +kernel) (by decide +kernel)
set_option maxRecDepth 20000 in
theorem gX3_cloud_X3_noStation : GoodIn wsX3_cloud (wsV RX3 67 RX3 yX3_noStation wsX3_noStation) := goodIn_app (goodIn_of _ (by decide +kernel)) ggX3_cloud_X3_noStation
set_option maxRecDepth 20000 in
theorem ggX3_cloud_Jx4a65c_get_915e3 : GoodIn wsX3_cloud wsJx4a65c_get_915e3 := goodIn_r _ [27, 20, 28, 29, 30, 31, 32, 33, 34, 35, 36, 37, 38, 18, 39, 40, 66, 67, 68] (by decide +kernel) (by decide +kernel)
set_option maxRecDepth 20000 in
theorem gX3_cloud_Jx4a65c_get_915e3 : GoodIn wsX3_cloud (wsV RX3 73 RJx4a65c yJx4a65c_get_915e3 wsJx4a65c_get_915e3) := goodIn_app (goodIn_of _ (by decide +kernel)) ggX3_cloud_Jx4a65c_get_915e3
set_option maxRecDepth 20000 in
theorem ggX3_cloud_X2_isFullOfClouds : GoodIn wsX3_cloud wsX2_isFullOfClouds := goodIn_r _ [45, 46, 58, 59, 60, 61, 62, 63, 64, 65] (by decide +kernel) (by decide +kernel)
set_option maxRecDepth 20000 in
theorem gX3_cloud_X2_isFullOfClouds : GoodIn wsX3_cloud (wsV RX3 77 RX2 yX2_isFullOfClouds wsX2_isFullOfClouds) := goodIn_app (goodIn_of _ (by decide +kernel)) ggX3_cloud_X2_isFullOfClouds
set_option maxRecDepth 20000 in
theorem ggX3_cloud_X2_cover : GoodIn wsX3_cloud wsX2_cover := goodIn_r _ [50, 46, 51, 52, 58, 59, 60, 61, 62, 63, 64, 65] (by decide +kernel) (by decide +kernel)
set_option maxRecDepth 20000 in
theorem gX3_cloud_X2_cover : GoodIn wsX3_cloud (wsV RX3 81 RX2 yX2_cover wsX2_cover) := goodIn_app (goodIn_of _ (by decide +kernel)) ggX3_cloud_X2_cover
set_option maxRecDepth 20000 in
theorem ggX3_clear_X3_noStation : GoodIn wsX3_clear wsX3_noStation := goodIn_r _ [10, 3, 11, 12, 13, 14, 15, 16, 17, 18, 9, 19, 37, 38, 39, 40, 41, 50, 51, 52] (by decide +kernel) (by decide +kernel)
set_option maxRecDepth 20000 in
theorem gX3_clear_X3_noStation : GoodIn wsX3_clear (wsV RX3 67 RX3 yX3_noStation wsX3_noStation) := goodIn_app (goodIn_of _ (by decide +kernel)) ggX3_clear_X3_noStation
set_option maxRecDepth 20000 in
theorem ggX3_clear_Jx4a65c_get_915e3 : GoodIn wsX3_clear wsJx4a65c_get_915e3 := goodIn_r _ [23, 16, 24, 25, 26, 27, 28, 29, 30, 31, 32, 33, 34, 14, 35, 36, 50, 51, 52] (by decide +kernel) (by decide +kernel)
set_option maxRecDepth 20000 in
theorem gX3_clear_Jx4a65c_get_915e3 : GoodIn wsX3_clear (wsV RX3 73 RJx4a65c yJx4a65c_get_915e3 wsJx4a65c_get_915e3) := goodIn_app (goodIn_of _ (by decide +kernel)) ggX3_clear_Jx4a65c_get_915e3
set_option maxRecDepth 20000 in
theorem ggX3_correct_X3_noStation : GoodIn wsX3_correct wsX3_noStation := goodIn_r _ [14, 7, 15, 16, 17, 18, 19, 20, 21, 22, 13, 23, 41, 42, 43, 44, 45, 54, 55, 56] (by decide +kernel) (by decide +kernel)
set_option maxRecDepth 20000 in
theorem gX3_correct_X3_noStation : GoodIn wsX3_correct (wsV RX3 67 RX3 yX3_noStation wsX3_noStation) := goodIn_app (goodIn_of _ (by decide +kernel)) ggX3_correct_X3_noStation
set_option maxRecDepth 20000 in
theorem ggX3_correct_X3_outside : GoodIn wsX3_correct wsX3_outside := goodIn_r _ [23] (by decide +kernel) (by decide +kernel)
set_option maxRecDepth 20000 in
theorem gX3_correct_X3_outside : GoodIn wsX3_correct (va_wsS RX3 33 yX3_outside wsX3_outside) := goodIn_app (goodIn_of _ (by decide +kernel)) ggX3_correct_X3_outside
set_option maxRecDepth 20000 in
theorem ggX3_correct_Jx4a65c_get_915e3 : GoodIn wsX3_correct wsJx4a65c_get_915e3 := goodIn_r _ [27, 20, 28, 29, 30, 31, 32, 33, 34, 35, 36, 37, 38, 18, 39, 40, 54, 55, 56] (by decide +kernel) (by decide +kernel)
set_option maxRecDepth 20000 in
theorem gX3_correct_Jx4a65c_get_915e3 : GoodIn wsX3_correct (wsV RX3 73 RJx4a65c yJx4a65c_get_915e3 wsJx4a65c_get_915e3) := goodIn_app (goodIn_of _ (by decide +kernel)) ggX3_correct_Jx4a65c_get_915e3
set_option maxRecDepth 20000 in
theorem ggX3_station_X3_noStation : GoodIn wsX3_station wsX3_noStation := goodIn_r _ [9, 3, 10, 11, 12, 13, 14, 15, 16, 17, 8, 18, 81, 82, 83, 84, 85, 86, 87, 88] (by decide +kernel) (by decide +kernel)
set_option maxRecDepth 20000 in
theorem gX3_station_X3_noStation : GoodIn wsX3_station (wsV RX3 67 RX3 yX3_noStation wsX3_noStation) := goodIn_app (goodIn_of _ (by decide +kernel)) ggX3_station_X3_noStation
set_option maxRecDepth 20000 in
theorem ggX3_station_X3_outside : GoodIn wsX3_station wsX3_outside := goodIn_r _ [18] (by decide +kernel) (by decide +kernel)
set_option maxRecDepth 20000 in
theorem gX3_station_X3_outside : GoodIn wsX3_station (va_wsS RX3 33 yX3_outside wsX3_outside) := goodIn_app (goodIn_of _ (by decide +kernel)) ggX3_station_X3_outside
set_option maxRecDepth 20000 in
theorem ggX3_station_Jx4a65c_get_915e3 : GoodIn wsX3_station wsJx4a65c_get_915e3 := goodIn_r _ [22, 15, 23, 24, 25, 26, 27, 28, 29, 30, 31, 32, 33, 13, 34, 35, 86, 87, 88] (by decide +kernel) (by decide +kernel)
set_option maxRecDepth 20000 in
theorem gX3_station_Jx4a65c_get_915e3 : GoodIn wsX3_station (wsV RX3 73 RJx4a65c yJx4a65c_get_915e3 wsJx4a65c_get_915e3) := goodIn_app (goodIn_of _ (by decide +kernel)) ggX3_station_Jx4a65c_get_915e3
set_option maxRecDepth 20000 in
theorem ggX3_station_X3_tellOfStation : GoodIn wsX3_station wsX3_tellOfStation := goodIn_r _ [39, 40, 41, 42, 43, 44, 45, 46, 47, 8, 48, 49, 50, 10, 11, 12, 13, 14, 15, 19, 20, 21, 22, 23, 24, 25, 26, 27, 28, 29, 30, 31, 32, 33, 34, 35, 51, 52, 53, 54, 55, 56, 57, 58, 59, 60, 61, 62, 63, 64, 65, 66, 67, 68, 69, 70, 71, 72, 73, 74, 75, 76, 77, 78, 79, 80, 89, 90, 91, 92, 93, 94, 95, 96, 81, 82, 83, 84, 85, 86, 87, 88, 97, 98, 99, 100] (by decide +kernel) (by decide +kernel)
set_option maxRecDepth 20000 in
theorem gX3_station_X3_tellOfStation : GoodIn wsX3_station (wsV RX3 94 RX3 yX3_tellOfStation wsX3_tellOfStation) := goodIn_app (goodIn_of _ (by decide +kernel)) ggX3_station_X3_tellOfStation
set_option maxRecDepth 20000 in
theorem ggX3_clock_X3_noStation : GoodIn wsX3_clock wsX3_noStation := goodIn_r _ [12, 6, 13, 14, 15, 16, 17, 18, 19, 20, 11, 21, 51, 52, 53, 54, 55, 56, 57, 58] (by decide +kernel) (by decide +kernel)
set_option maxRecDepth 20000 in
theorem gX3_clock_X3_noStation : GoodIn wsX3_clock (wsV RX3 67 RX3 yX3_noStation wsX3_noStation) := goodIn_app (goodIn_of _ (by decide +kernel)) ggX3_clock_X3_noStation
set_option maxRecDepth 20000 in
theorem ggX3_clock_X3_outside : GoodIn wsX3_clock wsX3_outside := goodIn_r _ [21] (by decide +kernel) (by decide +kernel)
set_option maxRecDepth 20000 in
theorem gX3_clock_X3_outside : GoodIn wsX3_clock (va_wsS RX3 33 yX3_outside wsX3_outside) := goodIn_app (goodIn_of _ (by decide +kernel)) ggX3_clock_X3_outside
set_option maxRecDepth 20000 in
theorem ggX3_clock_Jx4a65c_get_915e3 : GoodIn wsX3_clock wsJx4a65c_get_915e3 := goodIn_r _ [25, 18, 26, 27, 28, 29, 30, 31, 32, 33, 34, 35, 36, 16, 37, 38, 56, 57, 58] (by decide +kernel) (by decide +kernel)
set_option maxRecDepth 20000 in
theorem gX3_clock_Jx4a65c_get_915e3 : GoodIn wsX3_clock (wsV RX3 73 RJx4a65c yJx4a65c_get_915e3 wsJx4a65c_get_915e3) := goodIn_app (goodIn_of _ (by decide +kernel)) ggX3_clock_Jx4a65c_get_915e3
set_option maxRecDepth 20000 in
theorem ggX3_clock_X2_readsAt : GoodIn wsX3_clock wsX2_readsAt := goodIn_r _ [43, 44, 45, 46, 47, 42, 48, 49, 50, 59, 60, 61, 62, 63, 64, 65, 66] (by decide +kernel) (by decide +kernel)
set_option maxRecDepth 20000 in
theorem gX3_clock_X2_readsAt : GoodIn wsX3_clock (wsV RX3 99 RX2 yX2_readsAt wsX2_readsAt) := goodIn_app (goodIn_of _ (by decide +kernel)) ggX3_clock_X2_readsAt
set_option maxRecDepth 20000 in
theorem ggX3_addHalo_X3_outside : GoodIn wsX3_addHalo wsX3_outside := goodIn_r _ [13] (by decide +kernel) (by decide +kernel)
set_option maxRecDepth 20000 in
theorem gX3_addHalo_X3_outside : GoodIn wsX3_addHalo (va_wsS RX3 33 yX3_outside wsX3_outside) := goodIn_app (goodIn_of _ (by decide +kernel)) ggX3_addHalo_X3_outside
set_option maxRecDepth 20000 in
theorem ggX3_addHalo_Jx4a65c_size_8abf5 : GoodIn wsX3_addHalo wsJx4a65c_size_8abf5 := goodIn_r _ [18, 19, 93, 94, 95] (by decide +kernel) (by decide +kernel)
set_option maxRecDepth 20000 in
theorem gX3_addHalo_Jx4a65c_size_8abf5 : GoodIn wsX3_addHalo (wsV RX3 44 RJx4a65c yJx4a65c_size_8abf5 wsJx4a65c_size_8abf5) := goodIn_app (goodIn_of _ (by decide +kernel)) ggX3_addHalo_Jx4a65c_size_8abf5
set_option maxRecDepth 20000 in
theorem ggX3_addHalo_X0_init : GoodIn wsX3_addHalo wsX0_init := goodIn_r _ [22, 23, 24, 25, 26, 27, 28, 29, 89, 90, 91, 92] (by decide +kernel) (by decide +kernel)
set_option maxRecDepth 20000 in
theorem gX3_addHalo_X0_init : GoodIn wsX3_addHalo (wsX0_init) := ggX3_addHalo_X0_init
set_option maxRecDepth 20000 in
theorem ggX3_addHalo_Jx4a65c_add_9ea2d : GoodIn wsX3_addHalo wsJx4a65c_add_9ea2d := goodIn_r _ [33, 34, 35, 36, 19, 37, 38, 39, 17, 40, 41, 42, 43, 44, 45, 46, 47, 48, 49, 50, 51, 52, 53, 54, 55, 56, 57, 58, 59, 60, 61, 62, 63, 64, 65, 66, 67, 68, 69, 70, 71, 72, 73, 74, 75, 76, 77, 78, 79, 80, 81, 82, 83, 93, 94, 95] (by decide +kernel) (by decide +kernel)
set_option maxRecDepth 20000 in
theorem gX3_addHalo_Jx4a65c_add_9ea2d : GoodIn wsX3_addHalo (wsV RX3 56 RJx4a65c yJx4a65c_add_9ea2d wsJx4a65c_add_9ea2d) := goodIn_app (goodIn_of _ (by decide +kernel)) ggX3_addHalo_Jx4a65c_add_9ea2d
set_option maxRecDepth 20000 in
theorem ggX3_comes_X3_noHalo : GoodIn wsX3_comes wsX3_noHalo := goodIn_r _ [12, 3, 13, 14, 15, 16, 17, 18, 19, 20, 11, 21, 56, 57, 58, 59, 60, 69, 70, 71] (by decide +kernel) (by decide +kernel)
set_option maxRecDepth 20000 in
theorem gX3_comes_X3_noHalo : GoodIn wsX3_comes (wsV RX3 105 RX3 yX3_noHalo wsX3_noHalo) := goodIn_app (goodIn_of _ (by decide +kernel)) ggX3_comes_X3_noHalo
set_option maxRecDepth 20000 in
theorem ggX3_comes_X3_noStation : GoodIn wsX3_comes wsX3_noStation := goodIn_r _ [25, 5, 13, 14, 15, 16, 17, 18, 19, 20, 11, 21, 56, 57, 58, 59, 60, 69, 70, 71] (by decide +kernel) (by decide +kernel)
set_option maxRecDepth 20000 in
theorem gX3_comes_X3_noStation : GoodIn wsX3_comes (wsV RX3 67 RX3 yX3_noStation wsX3_noStation) := goodIn_app (goodIn_of _ (by decide +kernel)) ggX3_comes_X3_noStation
set_option maxRecDepth 20000 in
theorem ggX3_comes_Jx4a65c_get_915e3 : GoodIn wsX3_comes wsJx4a65c_get_915e3 := goodIn_r _ [29, 18, 30, 31, 32, 33, 34, 35, 36, 37, 38, 39, 40, 16, 41, 42, 69, 70, 71] (by decide +kernel) (by decide +kernel)
set_option maxRecDepth 20000 in
theorem gX3_comes_Jx4a65c_get_915e3 : GoodIn wsX3_comes (wsV RX3 73 RJx4a65c yJx4a65c_get_915e3 wsJx4a65c_get_915e3) := goodIn_app (goodIn_of _ (by decide +kernel)) ggX3_comes_Jx4a65c_get_915e3
set_option maxRecDepth 20000 in
theorem ggX3_comes_X0_timeAt : GoodIn wsX3_comes wsX0_timeAt := goodIn_r _ [47, 48, 49, 50, 51, 52, 53, 54, 55, 72, 73, 74, 75] (by decide +kernel) (by decide +kernel)
set_option maxRecDepth 20000 in
theorem gX3_comes_X0_timeAt : GoodIn wsX3_comes (wsV RX3 111 RX0 yX0_timeAt wsX0_timeAt) := goodIn_app (goodIn_of _ (by decide +kernel)) ggX3_comes_X0_timeAt
set_option maxRecDepth 20000 in
theorem ggX3_reading_X3_noHalo : GoodIn wsX3_reading wsX3_noHalo := goodIn_r _ [11, 5, 12, 13, 14, 15, 16, 17, 18, 19, 10, 20, 84, 85, 86, 87, 88, 89, 90, 91] (by decide +kernel) (by decide +kernel)
set_option maxRecDepth 20000 in
theorem gX3_reading_X3_noHalo : GoodIn wsX3_reading (wsV RX3 105 RX3 yX3_noHalo wsX3_noHalo) := goodIn_app (goodIn_of _ (by decide +kernel)) ggX3_reading_X3_noHalo
set_option maxRecDepth 20000 in
theorem ggX3_reading_X3_noStation : GoodIn wsX3_reading wsX3_noStation := goodIn_r _ [24, 3, 12, 13, 14, 15, 16, 17, 18, 19, 10, 20, 84, 85, 86, 87, 88, 89, 90, 91] (by decide +kernel) (by decide +kernel)
set_option maxRecDepth 20000 in
theorem gX3_reading_X3_noStation : GoodIn wsX3_reading (wsV RX3 67 RX3 yX3_noStation wsX3_noStation) := goodIn_app (goodIn_of _ (by decide +kernel)) ggX3_reading_X3_noStation
set_option maxRecDepth 20000 in
theorem ggX3_reading_Jx4a65c_get_915e3 : GoodIn wsX3_reading wsJx4a65c_get_915e3 := goodIn_r _ [28, 17, 29, 30, 31, 32, 33, 34, 35, 36, 37, 38, 39, 15, 40, 41, 89, 90, 91] (by decide +kernel) (by decide +kernel)
set_option maxRecDepth 20000 in
theorem gX3_reading_Jx4a65c_get_915e3 : GoodIn wsX3_reading (wsV RX3 73 RJx4a65c yJx4a65c_get_915e3 wsJx4a65c_get_915e3) := goodIn_app (goodIn_of _ (by decide +kernel)) ggX3_reading_Jx4a65c_get_915e3
set_option maxRecDepth 20000 in
theorem ggX3_reading_X2_readingOf : GoodIn wsX3_reading wsX2_readingOf := goodIn_r _ [46, 47, 48, 49, 50, 51, 52, 53, 54, 55, 56, 57, 58, 59, 60, 61, 62, 63, 64, 45, 65, 66, 67, 68, 69, 70, 71, 72, 73, 74, 75, 76, 77, 78, 79, 80, 81, 82, 83, 92, 93, 94, 95, 96, 97, 98, 99, 100, 101, 102, 103] (by decide +kernel) (by decide +kernel)
set_option maxRecDepth 20000 in
theorem gX3_reading_X2_readingOf : GoodIn wsX3_reading (wsV RX3 114 RX2 yX2_readingOf wsX2_readingOf) := goodIn_app (goodIn_of _ (by decide +kernel)) ggX3_reading_X2_readingOf
set_option maxRecDepth 20000 in
theorem ggX3_order_X3_noHalo : GoodIn wsX3_order wsX3_noHalo := goodIn_r _ [11, 4, 12, 13, 14, 15, 16, 17, 18, 19, 10, 20, 106, 107, 108, 109, 110, 111, 112, 113] (by decide +kernel) (by decide +kernel)
set_option maxRecDepth 20000 in
theorem gX3_order_X3_noHalo : GoodIn wsX3_order (wsV RX3 105 RX3 yX3_noHalo wsX3_noHalo) := goodIn_app (goodIn_of _ (by decide +kernel)) ggX3_order_X3_noHalo
set_option maxRecDepth 20000 in
theorem ggX3_order_Jx4a65c_get_915e3 : GoodIn wsX3_order wsJx4a65c_get_915e3 := goodIn_r _ [24, 17, 25, 26, 27, 28, 29, 30, 31, 32, 33, 34, 35, 15, 36, 37, 111, 112, 113] (by decide +kernel) (by decide +kernel)
set_option maxRecDepth 20000 in
theorem gX3_order_Jx4a65c_get_915e3 : GoodIn wsX3_order (wsV RX3 73 RJx4a65c yJx4a65c_get_915e3 wsJx4a65c_get_915e3) := goodIn_app (goodIn_of _ (by decide +kernel)) ggX3_order_Jx4a65c_get_915e3
set_option maxRecDepth 20000 in
theorem ggX3_order_X1_look : GoodIn wsX3_order wsX1_look := goodIn_r _ [42, 43, 44, 45, 46, 47, 48, 49, 50, 13, 14, 15, 16, 17, 51, 22, 23, 24, 25, 26, 27, 28, 29, 30, 31, 32, 33, 34, 35, 36, 37, 52, 53, 54, 55, 56, 57, 58, 59, 60, 61, 62, 63, 64, 65, 66, 67, 68, 69, 70, 71, 72, 73, 74, 75, 76, 77, 78, 79, 80, 81, 82, 83, 84, 85, 86, 87, 88, 89, 90, 91, 92, 93, 94, 95, 96, 97, 114, 115, 116, 117, 118, 119, 120, 121, 122, 123, 124, 125, 126, 127, 128, 129, 130, 131, 132, 111, 112, 113, 133, 134, 135, 136] (by decide +kernel) (by decide +kernel)
set_option maxRecDepth 20000 in
theorem gX3_order_X1_look : GoodIn wsX3_order (wsV RX3 118 RX1 yX1_look wsX1_look) := goodIn_app (goodIn_of _ (by decide +kernel)) ggX3_order_X1_look
set_option maxRecDepth 20000 in
theorem ggX3_order_X1_stationInOrder : GoodIn wsX3_order wsX1_stationInOrder := goodIn_r _ [101, 43, 45, 102, 103, 104, 41, 105, 49, 114, 115, 116, 117, 118, 119, 120, 121, 122, 123, 124] (by decide +kernel) (by decide +kernel)
set_option maxRecDepth 20000 in
theorem gX3_order_X1_stationInOrder : GoodIn wsX3_order (wsV RX3 122 RX1 yX1_stationInOrder wsX1_stationInOrder) := goodIn_app (goodIn_of _ (by decide +kernel)) ggX3_order_X1_stationInOrder
set_option maxRecDepth 20000 in
theorem ggX3_halo_X3_noHalo : GoodIn wsX3_halo wsX3_noHalo := goodIn_r _ [11, 4, 12, 13, 14, 15, 16, 17, 18, 19, 10, 20, 145, 146, 147, 148, 149, 150, 151, 152] (by decide +kernel) (by decide +kernel)
set_option maxRecDepth 20000 in
theorem gX3_halo_X3_noHalo : GoodIn wsX3_halo (wsV RX3 105 RX3 yX3_noHalo wsX3_noHalo) := goodIn_app (goodIn_of _ (by decide +kernel)) ggX3_halo_X3_noHalo
set_option maxRecDepth 20000 in
theorem ggX3_halo_X3_outside : GoodIn wsX3_halo wsX3_outside := goodIn_r _ [20] (by decide +kernel) (by decide +kernel)
set_option maxRecDepth 20000 in
theorem gX3_halo_X3_outside : GoodIn wsX3_halo (va_wsS RX3 33 yX3_outside wsX3_outside) := goodIn_app (goodIn_of _ (by decide +kernel)) ggX3_halo_X3_outside
set_option maxRecDepth 20000 in
theorem ggX3_halo_Jx4a65c_get_915e3 : GoodIn wsX3_halo wsJx4a65c_get_915e3 := goodIn_r _ [24, 17, 25, 26, 27, 28, 29, 30, 31, 32, 33, 34, 35, 15, 36, 37, 150, 151, 152] (by decide +kernel) (by decide +kernel)
set_option maxRecDepth 20000 in
theorem gX3_halo_Jx4a65c_get_915e3 : GoodIn wsX3_halo (wsV RX3 73 RJx4a65c yJx4a65c_get_915e3 wsJx4a65c_get_915e3) := goodIn_app (goodIn_of _ (by decide +kernel)) ggX3_halo_Jx4a65c_get_915e3
set_option maxRecDepth 20000 in
theorem ggX3_halo_X1_reckon : GoodIn wsX3_halo wsX1_reckon := goodIn_r _ [42, 43, 44, 45, 46, 47, 48, 49, 50, 51, 41, 52, 53, 54, 55, 56, 57, 58, 59, 13, 14, 15, 16, 17, 60, 22, 23, 24, 25, 26, 27, 28, 29, 30, 31, 32, 33, 34, 35, 36, 37, 61, 62, 63, 64, 65, 66, 67, 68, 69, 70, 71, 72, 73, 74, 75, 76, 77, 78, 79, 80, 81, 82, 83, 84, 85, 86, 87, 88, 89, 90, 91, 92, 93, 94, 95, 96, 97, 98, 99, 100, 101, 102, 103, 104, 105, 106, 107, 108, 109, 110, 111, 112, 10, 113, 114, 115, 116, 117, 118, 119, 120, 121, 122, 123, 124, 125, 126, 127, 128, 129, 153, 154, 155, 156, 157, 158, 159, 160, 161, 162, 163, 164, 165, 166, 167, 168, 169, 170, 171, 150, 151, 152, 172, 173, 174, 175] (by decide +kernel) (by decide +kernel)
set_option maxRecDepth 20000 in
theorem gX3_halo_X1_reckon : GoodIn wsX3_halo (wsV RX3 125 RX1 yX1_reckon wsX1_reckon) := goodIn_app (goodIn_of _ (by decide +kernel)) ggX3_halo_X1_reckon
set_option maxRecDepth 20000 in
theorem ggX3_halo_X1_tell : GoodIn wsX3_halo wsX1_tell := goodIn_r _ [133, 48, 44, 45, 46, 47, 134, 135, 78, 136, 137, 138, 139, 41, 140, 118, 58, 141, 142, 143, 144, 153, 154, 155, 156, 157, 158, 159, 160, 161, 162, 163] (by decide +kernel) (by decide +kernel)
set_option maxRecDepth 20000 in
theorem gX3_halo_X1_tell : GoodIn wsX3_halo (wsV RX3 128 RX1 yX1_tell wsX1_tell) := goodIn_app (goodIn_of _ (by decide +kernel)) ggX3_halo_X1_tell
set_option maxRecDepth 20000 in
theorem ggX3_guess_X3_noHalo : GoodIn wsX3_guess wsX3_noHalo := goodIn_r _ [14, 4, 15, 16, 17, 18, 19, 20, 21, 22, 13, 23, 141, 142, 143, 144, 145, 154, 155, 156] (by decide +kernel) (by decide +kernel)
set_option maxRecDepth 20000 in
theorem gX3_guess_X3_noHalo : GoodIn wsX3_guess (wsV RX3 105 RX3 yX3_noHalo wsX3_noHalo) := goodIn_app (goodIn_of _ (by decide +kernel)) ggX3_guess_X3_noHalo
set_option maxRecDepth 20000 in
theorem ggX3_guess_X3_noStation : GoodIn wsX3_guess wsX3_noStation := goodIn_r _ [27, 7, 15, 16, 17, 18, 19, 20, 21, 22, 13, 23, 141, 142, 143, 144, 145, 154, 155, 156] (by decide +kernel) (by decide +kernel)
set_option maxRecDepth 20000 in
theorem gX3_guess_X3_noStation : GoodIn wsX3_guess (wsV RX3 67 RX3 yX3_noStation wsX3_noStation) := goodIn_app (goodIn_of _ (by decide +kernel)) ggX3_guess_X3_noStation
set_option maxRecDepth 20000 in
theorem ggX3_guess_Jx4a65c_get_915e3 : GoodIn wsX3_guess wsJx4a65c_get_915e3 := goodIn_r _ [31, 20, 32, 33, 34, 35, 36, 37, 38, 39, 40, 41, 42, 18, 43, 44, 154, 155, 156] (by decide +kernel) (by decide +kernel)
set_option maxRecDepth 20000 in
theorem gX3_guess_Jx4a65c_get_915e3 : GoodIn wsX3_guess (wsV RX3 73 RJx4a65c yJx4a65c_get_915e3 wsJx4a65c_get_915e3) := goodIn_app (goodIn_of _ (by decide +kernel)) ggX3_guess_Jx4a65c_get_915e3
set_option maxRecDepth 20000 in
theorem ggX3_guess_X1_reckon : GoodIn wsX3_guess wsX1_reckon := goodIn_r _ [49, 50, 51, 52, 53, 54, 55, 56, 57, 58, 48, 59, 60, 61, 62, 63, 64, 65, 66, 16, 17, 18, 19, 20, 67, 29, 30, 31, 32, 33, 34, 35, 36, 37, 38, 39, 40, 41, 42, 43, 44, 68, 69, 70, 71, 72, 73, 74, 75, 76, 77, 78, 79, 80, 81, 82, 83, 84, 85, 86, 87, 88, 89, 90, 91, 92, 93, 94, 95, 96, 97, 98, 99, 100, 101, 102, 103, 104, 105, 106, 107, 108, 109, 110, 111, 112, 113, 114, 115, 116, 117, 118, 119, 13, 120, 121, 122, 123, 124, 125, 126, 127, 128, 129, 130, 131, 132, 133, 134, 135, 136, 157, 158, 159, 160, 161, 162, 163, 164, 165, 166, 167, 146, 147, 148, 149, 150, 151, 152, 153, 154, 155, 156, 168, 169, 170, 171] (by decide +kernel) (by decide +kernel)
set_option maxRecDepth 20000 in
theorem gX3_guess_X1_reckon : GoodIn wsX3_guess (wsV RX3 125 RX1 yX1_reckon wsX1_reckon) := goodIn_app (goodIn_of _ (by decide +kernel)) ggX3_guess_X1_reckon
set_option maxRecDepth 20000 in
theorem ggX3_guess_X1_guessAt : GoodIn wsX3_guess wsX1_guessAt := goodIn_r _ [140, 55, 50, 52, 126, 127, 128, 48, 129, 51, 130, 157, 158, 159, 160, 161, 162, 163, 164, 165, 166, 167] (by decide +kernel) (by decide +kernel)
set_option maxRecDepth 20000 in
theorem gX3_guess_X1_guessAt : GoodIn wsX3_guess (wsV RX3 131 RX1 yX1_guessAt wsX1_guessAt) := goodIn_app (goodIn_of _ (by decide +kernel)) ggX3_guess_X1_guessAt
set_option maxRecDepth 20000 in
theorem ggX3_blame_X3_noStation : GoodIn wsX3_blame wsX3_noStation := goodIn_r _ [13, 14, 15, 16, 17, 18, 19, 20, 21, 22, 12, 23, 133, 134, 135, 136, 137, 149, 150, 151] (by decide +kernel) (by decide +kernel)
set_option maxRecDepth 20000 in
theorem gX3_blame_X3_noStation : GoodIn wsX3_blame (wsV RX3 67 RX3 yX3_noStation wsX3_noStation) := goodIn_app (goodIn_of _ (by decide +kernel)) ggX3_blame_X3_noStation
set_option maxRecDepth 20000 in
theorem ggX3_blame_Jx4a65c_size_8abf5 : GoodIn wsX3_blame wsJx4a65c_size_8abf5 := goodIn_r _ [19, 20, 149, 150, 151] (by decide +kernel) (by decide +kernel)
set_option maxRecDepth 20000 in
theorem gX3_blame_Jx4a65c_size_8abf5 : GoodIn wsX3_blame (wsV RX3 44 RJx4a65c yJx4a65c_size_8abf5 wsJx4a65c_size_8abf5) := goodIn_app (goodIn_of _ (by decide +kernel)) ggX3_blame_Jx4a65c_size_8abf5
set_option maxRecDepth 20000 in
theorem ggX3_blame_Jx4a65c_get_915e3 : GoodIn wsX3_blame wsJx4a65c_get_915e3 := goodIn_r _ [27, 20, 28, 29, 30, 31, 32, 33, 34, 35, 36, 37, 38, 18, 39, 40, 149, 150, 151] (by decide +kernel) (by decide +kernel)
set_option maxRecDepth 20000 in
theorem gX3_blame_Jx4a65c_get_915e3 : GoodIn wsX3_blame (wsV RX3 73 RJx4a65c yJx4a65c_get_915e3 wsJx4a65c_get_915e3) := goodIn_app (goodIn_of _ (by decide +kernel)) ggX3_blame_Jx4a65c_get_915e3
set_option maxRecDepth 20000 in
theorem ggX3_blame_X1_reckon : GoodIn wsX3_blame wsX1_reckon := goodIn_r _ [45, 46, 47, 48, 49, 50, 51, 52, 53, 54, 44, 55, 56, 57, 58, 59, 60, 61, 62, 16, 17, 18, 19, 20, 63, 25, 26, 27, 28, 29, 30, 31, 32, 33, 34, 35, 36, 37, 38, 39, 40, 64, 65, 66, 67, 68, 69, 70, 71, 72, 73, 74, 75, 76, 77, 78, 79, 80, 81, 82, 83, 84, 85, 86, 87, 88, 89, 90, 91, 92, 93, 94, 95, 96, 97, 98, 99, 100, 101, 102, 103, 104, 105, 106, 107, 108, 109, 110, 111, 112, 113, 114, 115, 12, 116, 117, 118, 119, 120, 121, 122, 123, 124, 125, 126, 127, 128, 129, 130, 131, 132, 138, 139, 140, 141, 142, 143, 144, 145, 146, 147, 148, 152, 153, 154, 155, 156, 157, 158, 159, 149, 150, 151, 160, 161, 162, 163] (by decide +kernel) (by decide +kernel)
set_option maxRecDepth 20000 in
theorem gX3_blame_X1_reckon : GoodIn wsX3_blame (wsV RX3 125 RX1 yX1_reckon wsX1_reckon) := goodIn_app (goodIn_of _ (by decide +kernel)) ggX3_blame_X1_reckon
set_option maxRecDepth 20000 in
theorem ggX3_advise_X3_noStation : GoodIn wsX3_advise wsX3_noStation := goodIn_r _ [11, 3, 12, 13, 14, 15, 16, 17, 18, 19, 10, 20, 147, 148, 149, 150, 151, 160, 161, 162] (by decide +kernel) (by decide +kernel)
set_option maxRecDepth 20000 in
theorem gX3_advise_X3_noStation : GoodIn wsX3_advise (wsV RX3 67 RX3 yX3_noStation wsX3_noStation) := goodIn_app (goodIn_of _ (by decide +kernel)) ggX3_advise_X3_noStation
set_option maxRecDepth 20000 in
theorem ggX3_advise_Jx4a65c_get_915e3 : GoodIn wsX3_advise wsJx4a65c_get_915e3 := goodIn_r _ [24, 17, 25, 26, 27, 28, 29, 30, 31, 32, 33, 34, 35, 15, 36, 37, 160, 161, 162] (by decide +kernel) (by decide +kernel)
set_option maxRecDepth 20000 in
theorem gX3_advise_Jx4a65c_get_915e3 : GoodIn wsX3_advise (wsV RX3 73 RJx4a65c yJx4a65c_get_915e3 wsJx4a65c_get_915e3) := goodIn_app (goodIn_of _ (by decide +kernel)) ggX3_advise_Jx4a65c_get_915e3
set_option maxRecDepth 20000 in
theorem ggX3_advise_X3_gatherMisses : GoodIn wsX3_advise wsX3_gatherMisses := goodIn_r _ [41, 42, 43, 44, 45, 46, 6, 47, 12, 13, 14, 15, 16, 17, 21, 22, 23, 24, 25, 26, 27, 28, 29, 30, 31, 32, 33, 34, 35, 36, 37, 48, 49, 50, 51, 52, 53, 54, 55, 56, 57, 58, 59, 60, 61, 62, 63, 64, 65, 66, 67, 68, 69, 70, 71, 72, 73, 74, 75, 76, 77, 78, 79, 80, 81, 82, 83, 84, 85, 86, 87, 88, 89, 90, 91, 92, 93, 94, 95, 96, 97, 98, 99, 100, 101, 102, 103, 104, 105, 106, 107, 108, 109, 110, 111, 112, 113, 114, 115, 116, 117, 118, 119, 120, 121, 122, 123, 10, 124, 125, 126, 127, 128, 129, 130, 131, 132, 133, 134, 135, 136, 137, 138, 139, 140, 141, 142, 143, 144, 145, 147, 148, 149, 150, 151, 163, 164, 165, 166, 167, 168, 169, 170, 171, 172, 173, 152, 153, 154, 155, 156, 157, 158, 159, 160, 161, 162, 174, 175, 176, 177] (by decide +kernel) (by decide +kernel)
set_option maxRecDepth 20000 in
theorem gX3_advise_X3_gatherMisses : GoodIn wsX3_advise (wsV RX3 140 RX3 yX3_gatherMisses wsX3_gatherMisses) := goodIn_app (goodIn_of _ (by decide +kernel)) ggX3_advise_X3_gatherMisses
set_option maxRecDepth 20000 in
theorem ggX3_advise_X3_middle : GoodIn wsX3_advise wsX3_middle := goodIn_r _ [124] (by decide +kernel) (by decide +kernel)
set_option maxRecDepth 20000 in
theorem gX3_advise_X3_middle : GoodIn wsX3_advise (va_wsS RX3 144 yX3_middle wsX3_middle) := goodIn_app (goodIn_of _ (by decide +kernel)) ggX3_advise_X3_middle
set_option maxRecDepth 20000 in
theorem ggX3_wire_X3_noStation : GoodIn wsX3_wire wsX3_noStation := goodIn_r _ [17, 6, 18, 19, 20, 21, 22, 23, 24, 25, 16, 26, 56, 57, 58, 59, 60, 69, 70, 71] (by decide +kernel) (by decide +kernel)
set_option maxRecDepth 20000 in
theorem gX3_wire_X3_noStation : GoodIn wsX3_wire (wsV RX3 67 RX3 yX3_noStation wsX3_noStation) := goodIn_app (goodIn_of _ (by decide +kernel)) ggX3_wire_X3_noStation
set_option maxRecDepth 20000 in
theorem ggX3_wire_X3_outside : GoodIn wsX3_wire wsX3_outside := goodIn_r _ [26] (by decide +kernel) (by decide +kernel)
set_option maxRecDepth 20000 in
theorem gX3_wire_X3_outside : GoodIn wsX3_wire (va_wsS RX3 33 yX3_outside wsX3_outside) := goodIn_app (goodIn_of _ (by decide +kernel)) ggX3_wire_X3_outside
set_option maxRecDepth 20000 in
theorem ggX3_wire_Jx4a65c_get_915e3 : GoodIn wsX3_wire wsJx4a65c_get_915e3 := goodIn_r _ [30, 23, 31, 32, 33, 34, 35, 36, 37, 38, 39, 40, 41, 21, 42, 43, 69, 70, 71] (by decide +kernel) (by decide +kernel)
set_option maxRecDepth 20000 in
theorem gX3_wire_Jx4a65c_get_915e3 : GoodIn wsX3_wire (wsV RX3 73 RJx4a65c yJx4a65c_get_915e3 wsJx4a65c_get_915e3) := goodIn_app (goodIn_of _ (by decide +kernel)) ggX3_wire_Jx4a65c_get_915e3
set_option maxRecDepth 20000 in
theorem ggX3_wire_X2_readsAt : GoodIn wsX3_wire wsX2_readsAt := goodIn_r _ [48, 49, 50, 51, 52, 47, 53, 54, 55, 61, 62, 63, 64, 65, 66, 67, 68] (by decide +kernel) (by decide +kernel)
set_option maxRecDepth 20000 in
theorem gX3_wire_X2_readsAt : GoodIn wsX3_wire (wsV RX3 99 RX2 yX2_readsAt wsX2_readsAt) := goodIn_app (goodIn_of _ (by decide +kernel)) ggX3_wire_X2_readsAt
set_option maxRecDepth 20000 in
theorem ggX3_align_X3_noStation : GoodIn wsX3_align wsX3_noStation := goodIn_r _ [16, 8, 17, 18, 19, 20, 21, 22, 23, 24, 15, 25, 64, 65, 66, 67, 68, 69, 70, 71] (by decide +kernel) (by decide +kernel)
set_option maxRecDepth 20000 in
theorem gX3_align_X3_noStation : GoodIn wsX3_align (wsV RX3 67 RX3 yX3_noStation wsX3_noStation) := goodIn_app (goodIn_of _ (by decide +kernel)) ggX3_align_X3_noStation
set_option maxRecDepth 20000 in
theorem ggX3_align_X3_outside : GoodIn wsX3_align wsX3_outside := goodIn_r _ [25] (by decide +kernel) (by decide +kernel)
set_option maxRecDepth 20000 in
theorem gX3_align_X3_outside : GoodIn wsX3_align (va_wsS RX3 33 yX3_outside wsX3_outside) := goodIn_app (goodIn_of _ (by decide +kernel)) ggX3_align_X3_outside
set_option maxRecDepth 20000 in
theorem ggX3_align_Jx4a65c_get_915e3 : GoodIn wsX3_align wsJx4a65c_get_915e3 := goodIn_r _ [29, 22, 30, 31, 32, 33, 34, 35, 36, 37, 38, 39, 40, 20, 41, 42, 69, 70, 71] (by decide +kernel) (by decide +kernel)
set_option maxRecDepth 20000 in
theorem gX3_align_Jx4a65c_get_915e3 : GoodIn wsX3_align (wsV RX3 73 RJx4a65c yJx4a65c_get_915e3 wsJx4a65c_get_915e3) := goodIn_app (goodIn_of _ (by decide +kernel)) ggX3_align_Jx4a65c_get_915e3
set_option maxRecDepth 20000 in
theorem ggX3_align_X2_readsAt : GoodIn wsX3_align wsX2_readsAt := goodIn_r _ [47, 48, 49, 50, 51, 46, 52, 53, 54, 72, 73, 74, 75, 76, 77, 78, 79] (by decide +kernel) (by decide +kernel)
set_option maxRecDepth 20000 in
theorem gX3_align_X2_readsAt : GoodIn wsX3_align (wsV RX3 99 RX2 yX2_readsAt wsX2_readsAt) := goodIn_app (goodIn_of _ (by decide +kernel)) ggX3_align_X2_readsAt
set_option maxRecDepth 20000 in
theorem ggX3_align_Jx4a65c_size_8abf5 : GoodIn wsX3_align wsJx4a65c_size_8abf5 := goodIn_r _ [21, 22, 69, 70, 71] (by decide +kernel) (by decide +kernel)
set_option maxRecDepth 20000 in
theorem gX3_align_Jx4a65c_size_8abf5 : GoodIn wsX3_align (wsV RX3 44 RJx4a65c yJx4a65c_size_8abf5 wsJx4a65c_size_8abf5) := goodIn_app (goodIn_of _ (by decide +kernel)) ggX3_align_Jx4a65c_size_8abf5
set_option maxRecDepth 20000 in
theorem ggX3_align_X2_correctionToRead : GoodIn wsX3_align wsX2_correctionToRead := goodIn_r _ [58, 49, 50, 51, 46, 52, 53, 54, 72, 73, 74, 75, 76, 77, 78, 79] (by decide +kernel) (by decide +kernel)
set_option maxRecDepth 20000 in
theorem gX3_align_X2_correctionToRead : GoodIn wsX3_align (wsV RX3 153 RX2 yX2_correctionToRead wsX2_correctionToRead) := goodIn_app (goodIn_of _ (by decide +kernel)) ggX3_align_X2_correctionToRead
set_option maxRecDepth 20000 in
theorem ggX3_align_X3_setAll : GoodIn wsX3_align wsX3_setAll := goodIn_r _ [62, 8, 9, 63, 17, 18, 19, 20, 21, 22, 26, 27, 28, 29, 30, 31, 32, 33, 34, 35, 36, 37, 38, 39, 40, 41, 42, 55, 56, 57, 46, 58, 49, 50, 51, 52, 53, 54, 64, 65, 66, 67, 68, 72, 73, 74, 75, 76, 77, 78, 79, 69, 70, 71] (by decide +kernel) (by decide +kernel)
set_option maxRecDepth 20000 in
theorem gX3_align_X3_setAll : GoodIn wsX3_align (wsV RX3 157 RX3 yX3_setAll wsX3_setAll) := goodIn_app (goodIn_of _ (by decide +kernel)) ggX3_align_X3_setAll
set_option maxRecDepth 20000 in
theorem ggX3_spread_X3_outside : GoodIn wsX3_spread wsX3_outside := goodIn_r _ [16] (by decide +kernel) (by decide +kernel)
set_option maxRecDepth 20000 in
theorem gX3_spread_X3_outside : GoodIn wsX3_spread (va_wsS RX3 33 yX3_outside wsX3_outside) := goodIn_app (goodIn_of _ (by decide +kernel)) ggX3_spread_X3_outside
set_option maxRecDepth 20000 in
theorem ggX3_spread_Jx4a65c_isEmpty_aae02 : GoodIn wsX3_spread wsJx4a65c_isEmpty_aae02 := goodIn_r _ [21, 22, 61, 62, 63] (by decide +kernel) (by decide +kernel)
set_option maxRecDepth 20000 in
theorem gX3_spread_Jx4a65c_isEmpty_aae02 : GoodIn wsX3_spread (wsV RX3 160 RJx4a65c yJx4a65c_isEmpty_aae02 wsJx4a65c_isEmpty_aae02) := goodIn_app (goodIn_of _ (by decide +kernel)) ggX3_spread_Jx4a65c_isEmpty_aae02
set_option maxRecDepth 20000 in
theorem ggX3_spread_Jx4a65c_get_915e3 : GoodIn wsX3_spread wsJx4a65c_get_915e3 := goodIn_r _ [26, 22, 27, 28, 29, 30, 31, 32, 33, 34, 35, 36, 37, 20, 38, 39, 61, 62, 63] (by decide +kernel) (by decide +kernel)
set_option maxRecDepth 20000 in
theorem gX3_spread_Jx4a65c_get_915e3 : GoodIn wsX3_spread (wsV RX3 73 RJx4a65c yJx4a65c_get_915e3 wsJx4a65c_get_915e3) := goodIn_app (goodIn_of _ (by decide +kernel)) ggX3_spread_Jx4a65c_get_915e3
set_option maxRecDepth 20000 in
theorem ggX3_spread_X2_readsAt : GoodIn wsX3_spread wsX2_readsAt := goodIn_r _ [44, 45, 46, 47, 48, 43, 49, 50, 51, 64, 65, 66, 67, 68, 69, 70, 71] (by decide +kernel) (by decide +kernel)
set_option maxRecDepth 20000 in
theorem gX3_spread_X2_readsAt : GoodIn wsX3_spread (wsV RX3 99 RX2 yX2_readsAt wsX2_readsAt) := goodIn_app (goodIn_of _ (by decide +kernel)) ggX3_spread_X2_readsAt
set_option maxRecDepth 20000 in
theorem ggX3_spread_Jx4a65c_size_8abf5 : GoodIn wsX3_spread wsJx4a65c_size_8abf5 := goodIn_r _ [55, 22, 61, 62, 63] (by decide +kernel) (by decide +kernel)
set_option maxRecDepth 20000 in
theorem gX3_spread_Jx4a65c_size_8abf5 : GoodIn wsX3_spread (wsV RX3 44 RJx4a65c yJx4a65c_size_8abf5 wsJx4a65c_size_8abf5) := goodIn_app (goodIn_of _ (by decide +kernel)) ggX3_spread_Jx4a65c_size_8abf5
set_option maxRecDepth 20000 in
theorem ggX3_count_X3_outside : GoodIn wsX3_count wsX3_outside := goodIn_r _ [6] (by decide +kernel) (by decide +kernel)
set_option maxRecDepth 20000 in
theorem gX3_count_X3_outside : GoodIn wsX3_count (va_wsS RX3 33 yX3_outside wsX3_outside) := goodIn_app (goodIn_of _ (by decide +kernel)) ggX3_count_X3_outside
set_option maxRecDepth 20000 in
theorem ggX3_count_X3_countOf : GoodIn wsX3_count wsX3_countOf := goodIn_r _ [10, 11, 12, 13, 14, 15, 16, 17, 18, 19, 20, 21, 5, 22, 23, 24, 25, 26, 27, 28, 29, 30, 31, 32, 33, 34, 35, 36, 37, 38, 39, 40, 41, 42, 43, 44, 45, 46, 47, 48, 49, 50, 51, 52, 53, 54, 55, 56, 57, 58, 59, 60, 61, 62, 63, 64, 65, 66, 67, 68, 69, 70, 71, 72, 73, 74, 75, 76, 77, 78, 79, 80, 81, 82, 83, 84, 85, 86, 87, 88, 89, 90, 91, 92, 93, 94, 95, 96, 97, 98, 99, 100, 101, 102, 103, 104] (by decide +kernel) (by decide +kernel)
set_option maxRecDepth 20000 in
theorem gX3_count_X3_countOf : GoodIn wsX3_count (wsV RX3 169 RX3 yX3_countOf wsX3_countOf) := goodIn_app (goodIn_of _ (by decide +kernel)) ggX3_count_X3_countOf
set_option maxRecDepth 20000 in
theorem ggX3_error_X3_noHalo : GoodIn wsX3_error wsX3_noHalo := goodIn_r _ [11, 4, 12, 13, 14, 15, 16, 17, 18, 19, 10, 20, 134, 135, 136, 137, 138, 139, 140, 141] (by decide +kernel) (by decide +kernel)
set_option maxRecDepth 20000 in
theorem gX3_error_X3_noHalo : GoodIn wsX3_error (wsV RX3 105 RX3 yX3_noHalo wsX3_noHalo) := goodIn_app (goodIn_of _ (by decide +kernel)) ggX3_error_X3_noHalo
set_option maxRecDepth 20000 in
theorem ggX3_error_Jx4a65c_get_915e3 : GoodIn wsX3_error wsJx4a65c_get_915e3 := goodIn_r _ [24, 17, 25, 26, 27, 28, 29, 30, 31, 32, 33, 34, 35, 15, 36, 37, 139, 140, 141] (by decide +kernel) (by decide +kernel)
set_option maxRecDepth 20000 in
theorem gX3_error_Jx4a65c_get_915e3 : GoodIn wsX3_error (wsV RX3 73 RJx4a65c yJx4a65c_get_915e3 wsJx4a65c_get_915e3) := goodIn_app (goodIn_of _ (by decide +kernel)) ggX3_error_Jx4a65c_get_915e3
set_option maxRecDepth 20000 in
theorem ggX3_error_X1_reckon : GoodIn wsX3_error wsX1_reckon := goodIn_r _ [42, 43, 44, 45, 46, 47, 48, 49, 50, 51, 41, 52, 53, 54, 55, 56, 57, 58, 59, 13, 14, 15, 16, 17, 60, 22, 23, 24, 25, 26, 27, 28, 29, 30, 31, 32, 33, 34, 35, 36, 37, 61, 62, 63, 64, 65, 66, 67, 68, 69, 70, 71, 72, 73, 74, 75, 76, 77, 78, 79, 80, 81, 82, 83, 84, 85, 86, 87, 88, 89, 90, 91, 92, 93, 94, 95, 96, 97, 98, 99, 100, 101, 102, 103, 104, 105, 106, 107, 108, 109, 110, 111, 112, 10, 113, 114, 115, 116, 117, 118, 119, 120, 121, 122, 123, 124, 125, 126, 127, 128, 129, 142, 143, 144, 145, 146, 147, 148, 149, 150, 151, 152, 153, 154, 155, 156, 157, 158, 159, 160, 139, 140, 141, 161, 162, 163, 164] (by decide +kernel) (by decide +kernel)
set_option maxRecDepth 20000 in
theorem gX3_error_X1_reckon : GoodIn wsX3_error (wsV RX3 125 RX1 yX1_reckon wsX1_reckon) := goodIn_app (goodIn_of _ (by decide +kernel)) ggX3_error_X1_reckon
set_option maxRecDepth 20000 in
theorem ggX3_error_X1_meanLeft : GoodIn wsX3_error wsX1_meanLeft := goodIn_r _ [133, 48, 128, 129, 77, 78, 79, 142, 143, 144, 145, 146, 147, 148, 149, 150, 151, 152] (by decide +kernel) (by decide +kernel)
set_option maxRecDepth 20000 in
theorem gX3_error_X1_meanLeft : GoodIn wsX3_error (wsV RX3 172 RX1 yX1_meanLeft wsX1_meanLeft) := goodIn_app (goodIn_of _ (by decide +kernel)) ggX3_error_X1_meanLeft
set_option maxRecDepth 20000 in
theorem ggX3_digest_X3_countOf : GoodIn wsX3_digest wsX3_countOf := goodIn_r _ [11, 3, 5, 12, 13, 14, 15, 16, 17, 18, 19, 20, 10, 21, 6, 22, 23, 24, 25, 26, 27, 28, 29, 30, 31, 32, 33, 34, 35, 36, 37, 38, 39, 40, 41, 42, 4, 43, 44, 45, 46, 47, 48, 49, 50, 51, 52, 53, 54, 55, 56, 57, 58, 59, 60, 61, 62, 63, 64, 65, 66, 67, 68, 69, 70, 71, 72, 73, 74, 75, 76, 77, 78, 79, 80, 81, 179, 180, 181, 182, 183, 184, 185, 186, 187, 188, 189, 190, 191, 192, 193, 194, 195, 196, 197, 198] (by decide +kernel) (by decide +kernel)
set_option maxRecDepth 20000 in
theorem gX3_digest_X3_countOf : GoodIn wsX3_digest (wsV RX3 169 RX3 yX3_countOf wsX3_countOf) := goodIn_app (goodIn_of _ (by decide +kernel)) ggX3_digest_X3_countOf
set_option maxRecDepth 20000 in
theorem ggX3_digest_Jx4a65c_size_8abf5 : GoodIn wsX3_digest wsJx4a65c_size_8abf5 := goodIn_r _ [16, 17, 184, 185, 186] (by decide +kernel) (by decide +kernel)
set_option maxRecDepth 20000 in
theorem gX3_digest_Jx4a65c_size_8abf5 : GoodIn wsX3_digest (wsV RX3 44 RJx4a65c yJx4a65c_size_8abf5 wsJx4a65c_size_8abf5) := goodIn_app (goodIn_of _ (by decide +kernel)) ggX3_digest_Jx4a65c_size_8abf5
set_option maxRecDepth 20000 in
theorem ggX3_digest_Jx4a65c_get_915e3 : GoodIn wsX3_digest wsJx4a65c_get_915e3 := goodIn_r _ [25, 17, 26, 27, 28, 29, 30, 31, 32, 33, 34, 35, 36, 15, 37, 38, 184, 185, 186] (by decide +kernel) (by decide +kernel)
set_option maxRecDepth 20000 in
theorem gX3_digest_Jx4a65c_get_915e3 : GoodIn wsX3_digest (wsV RX3 73 RJx4a65c yJx4a65c_get_915e3 wsJx4a65c_get_915e3) := goodIn_app (goodIn_of _ (by decide +kernel)) ggX3_digest_Jx4a65c_get_915e3
set_option maxRecDepth 20000 in
theorem ggX3_digest_X3_tellOfStation : GoodIn wsX3_digest wsX3_tellOfStation := goodIn_r _ [85, 86, 87, 88, 89, 81, 90, 91, 92, 10, 93, 5, 6, 12, 13, 14, 15, 16, 17, 22, 23, 24, 25, 26, 27, 28, 29, 30, 31, 32, 33, 34, 35, 36, 37, 38, 43, 44, 45, 46, 47, 48, 49, 50, 51, 52, 53, 54, 55, 56, 57, 58, 59, 60, 61, 62, 63, 64, 65, 66, 67, 68, 69, 70, 71, 72, 187, 188, 189, 190, 191, 192, 193, 194, 179, 180, 181, 182, 183, 184, 185, 186, 195, 196, 197, 198] (by decide +kernel) (by decide +kernel)
set_option maxRecDepth 20000 in
theorem gX3_digest_X3_tellOfStation : GoodIn wsX3_digest (wsV RX3 94 RX3 yX3_tellOfStation wsX3_tellOfStation) := goodIn_app (goodIn_of _ (by decide +kernel)) ggX3_digest_X3_tellOfStation
set_option maxRecDepth 20000 in
theorem ggX3_digest_X3_digestHalo : GoodIn wsX3_digest wsX3_digestHalo := goodIn_r _ [97, 98, 99, 2, 3, 4, 100, 101, 102, 103, 104, 105, 106, 107, 108, 109, 110, 111, 112, 113, 114, 115, 116, 117, 118, 119, 120, 121, 13, 14, 15, 16, 17, 122, 23, 24, 25, 26, 27, 28, 29, 30, 31, 32, 33, 34, 35, 36, 37, 38, 123, 44, 45, 46, 47, 48, 49, 50, 51, 52, 53, 54, 55, 56, 57, 58, 59, 60, 61, 62, 63, 64, 65, 66, 67, 68, 69, 70, 71, 72, 124, 125, 126, 127, 128, 129, 130, 131, 132, 133, 134, 135, 136, 137, 138, 139, 140, 141, 142, 143, 144, 145, 10, 146, 147, 148, 149, 150, 151, 152, 153, 154, 155, 156, 157, 158, 159, 160, 161, 162, 163, 164, 165, 166, 167, 168, 169, 170, 171, 172, 173, 174, 175, 176, 177, 12, 22, 178, 179, 180, 181, 182, 183, 199, 200, 201, 202, 203, 204, 205, 206, 207, 208, 209, 187, 188, 189, 190, 191, 192, 193, 194, 184, 185, 186, 195, 196, 197, 198] (by decide +kernel) (by decide +kernel)
set_option maxRecDepth 20000 in
theorem gX3_digest_X3_digestHalo : GoodIn wsX3_digest (wsV RX3 180 RX3 yX3_digestHalo wsX3_digestHalo) := goodIn_app (goodIn_of _ (by decide +kernel)) ggX3_digest_X3_digestHalo
set_option maxRecDepth 20000 in
theorem ggX3_noStation_Jx4a65c_size_8abf5 : GoodIn wsX3_noStation wsJx4a65c_size_8abf5 := goodIn_r _ [6, 7, 17, 18, 19] (by decide +kernel) (by decide +kernel)
set_option maxRecDepth 20000 in
theorem gX3_noStation_Jx4a65c_size_8abf5 : GoodIn wsX3_noStation (wsV RX3 44 RJx4a65c yJx4a65c_size_8abf5 wsJx4a65c_size_8abf5) := goodIn_app (goodIn_of _ (by decide +kernel)) ggX3_noStation_Jx4a65c_size_8abf5
set_option maxRecDepth 20000 in
theorem ggX3_noStation_X3_outside : GoodIn wsX3_noStation wsX3_outside := goodIn_r _ [11] (by decide +kernel) (by decide +kernel)
set_option maxRecDepth 20000 in
theorem gX3_noStation_X3_outside : GoodIn wsX3_noStation (va_wsS RX3 33 yX3_outside wsX3_outside) := goodIn_app (goodIn_of _ (by decide +kernel)) ggX3_noStation_X3_outside
set_option maxRecDepth 20000 in
theorem ggX3_noHalo_Jx4a65c_size_8abf5 : GoodIn wsX3_noHalo wsJx4a65c_size_8abf5 := goodIn_r _ [6, 7, 17, 18, 19] (by decide +kernel) (by decide +kernel)
set_option maxRecDepth 20000 in
theorem gX3_noHalo_Jx4a65c_size_8abf5 : GoodIn wsX3_noHalo (wsV RX3 44 RJx4a65c yJx4a65c_size_8abf5 wsJx4a65c_size_8abf5) := goodIn_app (goodIn_of _ (by decide +kernel)) ggX3_noHalo_Jx4a65c_size_8abf5
set_option maxRecDepth 20000 in
theorem ggX3_noHalo_X3_outside : GoodIn wsX3_noHalo wsX3_outside := goodIn_r _ [11] (by decide +kernel) (by decide +kernel)
set_option maxRecDepth 20000 in
theorem gX3_noHalo_X3_outside : GoodIn wsX3_noHalo (va_wsS RX3 33 yX3_outside wsX3_outside) := goodIn_app (goodIn_of _ (by decide +kernel)) ggX3_noHalo_X3_outside
set_option maxRecDepth 20000 in
theorem ggX3_isTaken_Jx4a65c_size_8abf5 : GoodIn wsX3_isTaken wsJx4a65c_size_8abf5 := goodIn_r _ [8, 9, 40, 41, 42] (by decide +kernel) (by decide +kernel)
set_option maxRecDepth 20000 in
theorem gX3_isTaken_Jx4a65c_size_8abf5 : GoodIn wsX3_isTaken (wsV RX3 44 RJx4a65c yJx4a65c_size_8abf5 wsJx4a65c_size_8abf5) := goodIn_app (goodIn_of _ (by decide +kernel)) ggX3_isTaken_Jx4a65c_size_8abf5
set_option maxRecDepth 20000 in
theorem ggX3_isTaken_Jx4a65c_get_915e3 : GoodIn wsX3_isTaken wsJx4a65c_get_915e3 := goodIn_r _ [13, 9, 14, 15, 16, 17, 18, 19, 20, 21, 22, 23, 24, 7, 25, 26, 40, 41, 42] (by decide +kernel) (by decide +kernel)
set_option maxRecDepth 20000 in
theorem gX3_isTaken_Jx4a65c_get_915e3 : GoodIn wsX3_isTaken (wsV RX3 73 RJx4a65c yJx4a65c_get_915e3 wsJx4a65c_get_915e3) := goodIn_app (goodIn_of _ (by decide +kernel)) ggX3_isTaken_Jx4a65c_get_915e3
set_option maxRecDepth 20000 in
theorem ggX3_stationsBefore_Jx4a65c_size_8abf5 : GoodIn wsX3_stationsBefore wsJx4a65c_size_8abf5 := goodIn_r _ [8, 9, 40, 41, 42] (by decide +kernel) (by decide +kernel)
set_option maxRecDepth 20000 in
theorem gX3_stationsBefore_Jx4a65c_size_8abf5 : GoodIn wsX3_stationsBefore (wsV RX3 44 RJx4a65c yJx4a65c_size_8abf5 wsJx4a65c_size_8abf5) := goodIn_app (goodIn_of _ (by decide +kernel)) ggX3_stationsBefore_Jx4a65c_size_8abf5
set_option maxRecDepth 20000 in
theorem ggX3_stationsBefore_Jx4a65c_get_915e3 : GoodIn wsX3_stationsBefore wsJx4a65c_get_915e3 := goodIn_r _ [13, 9, 14, 15, 16, 17, 18, 19, 20, 21, 22, 23, 24, 7, 25, 26, 40, 41, 42] (by decide +kernel) (by decide +kernel)
set_option maxRecDepth 20000 in
theorem gX3_stationsBefore_Jx4a65c_get_915e3 : GoodIn wsX3_stationsBefore (wsV RX3 73 RJx4a65c yJx4a65c_get_915e3 wsJx4a65c_get_915e3) := goodIn_app (goodIn_of _ (by decide +kernel)) ggX3_stationsBefore_Jx4a65c_get_915e3
set_option maxRecDepth 20000 in
theorem ggX3_tellOfStation_X3_halosSeenBy : GoodIn wsX3_tellOfStation wsX3_halosSeenBy := goodIn_r _ [10, 11, 12, 13, 14, 15, 16, 17, 18, 19, 20, 21, 22, 23, 24, 25, 26, 27, 28, 29, 30, 31, 32, 33, 34, 35, 36, 37, 38, 39, 40, 41, 42, 43, 44, 45, 46, 47, 48, 49, 50, 51, 52, 53, 54, 55, 56, 57, 58, 59, 60, 61, 62, 63, 64, 65, 74, 75, 76, 77, 78, 79, 80, 81, 66, 67, 68, 69, 70, 71, 72, 73, 82, 83, 84, 85] (by decide +kernel) (by decide +kernel)
set_option maxRecDepth 20000 in
theorem gX3_tellOfStation_X3_halosSeenBy : GoodIn wsX3_tellOfStation (wsV RX3 190 RX3 yX3_halosSeenBy wsX3_halosSeenBy) := goodIn_app (goodIn_of _ (by decide +kernel)) ggX3_tellOfStation_X3_halosSeenBy
set_option maxRecDepth 20000 in
theorem ggX3_halosSeenBy_Jx4a65c_size_8abf5 : GoodIn wsX3_halosSeenBy wsJx4a65c_size_8abf5 := goodIn_r _ [7, 8, 61, 62, 63] (by decide +kernel) (by decide +kernel)
set_option maxRecDepth 20000 in
theorem gX3_halosSeenBy_Jx4a65c_size_8abf5 : GoodIn wsX3_halosSeenBy (wsV RX3 44 RJx4a65c yJx4a65c_size_8abf5 wsJx4a65c_size_8abf5) := goodIn_app (goodIn_of _ (by decide +kernel)) ggX3_halosSeenBy_Jx4a65c_size_8abf5
set_option maxRecDepth 20000 in
theorem ggX3_halosSeenBy_Jx4a65c_get_915e3 : GoodIn wsX3_halosSeenBy wsJx4a65c_get_915e3 := goodIn_r _ [12, 8, 13, 14, 15, 16, 17, 18, 19, 20, 21, 22, 23, 6, 24, 25, 61, 62, 63] (by decide +kernel) (by decide +kernel)
set_option maxRecDepth 20000 in
theorem gX3_halosSeenBy_Jx4a65c_get_915e3 : GoodIn wsX3_halosSeenBy (wsV RX3 73 RJx4a65c yJx4a65c_get_915e3 wsJx4a65c_get_915e3) := goodIn_app (goodIn_of _ (by decide +kernel)) ggX3_halosSeenBy_Jx4a65c_get_915e3
set_option maxRecDepth 20000 in
theorem ggX3_halosSeenBy_X2_sees : GoodIn wsX3_halosSeenBy wsX2_sees := goodIn_r _ [30, 31, 32, 33, 34, 35, 36, 37, 38, 39, 40, 41, 42, 43, 44, 45, 46, 47, 29, 48, 49, 50, 51, 52, 53, 54, 55, 64, 65, 66, 67, 68, 69, 70, 71, 72, 73, 74, 75] (by decide +kernel) (by decide +kernel)
set_option maxRecDepth 20000 in
theorem gX3_halosSeenBy_X2_sees : GoodIn wsX3_halosSeenBy (wsV RX3 193 RX2 yX2_sees wsX2_sees) := goodIn_app (goodIn_of _ (by decide +kernel)) ggX3_halosSeenBy_X2_sees
set_option maxRecDepth 20000 in
theorem ggX3_stationsThatSee_Jx4a65c_size_8abf5 : GoodIn wsX3_stationsThatSee wsJx4a65c_size_8abf5 := goodIn_r _ [7, 8, 61, 62, 63] (by decide +kernel) (by decide +kernel)
set_option maxRecDepth 20000 in
theorem gX3_stationsThatSee_Jx4a65c_size_8abf5 : GoodIn wsX3_stationsThatSee (wsV RX3 44 RJx4a65c yJx4a65c_size_8abf5 wsJx4a65c_size_8abf5) := goodIn_app (goodIn_of _ (by decide +kernel)) ggX3_stationsThatSee_Jx4a65c_size_8abf5
set_option maxRecDepth 20000 in
theorem ggX3_stationsThatSee_Jx4a65c_get_915e3 : GoodIn wsX3_stationsThatSee wsJx4a65c_get_915e3 := goodIn_r _ [12, 8, 13, 14, 15, 16, 17, 18, 19, 20, 21, 22, 23, 6, 24, 25, 61, 62, 63] (by decide +kernel) (by decide +kernel)
set_option maxRecDepth 20000 in
theorem gX3_stationsThatSee_Jx4a65c_get_915e3 : GoodIn wsX3_stationsThatSee (wsV RX3 73 RJx4a65c yJx4a65c_get_915e3 wsJx4a65c_get_915e3) := goodIn_app (goodIn_of _ (by decide +kernel)) ggX3_stationsThatSee_Jx4a65c_get_915e3
set_option maxRecDepth 20000 in
theorem ggX3_stationsThatSee_X2_sees : GoodIn wsX3_stationsThatSee wsX2_sees := goodIn_r _ [30, 31, 32, 33, 34, 35, 36, 37, 38, 39, 40, 41, 42, 43, 44, 45, 46, 47, 29, 48, 49, 50, 51, 52, 53, 54, 55, 64, 65, 66, 67, 68, 69, 70, 71, 72, 73, 74, 75] (by decide +kernel) (by decide +kernel)
set_option maxRecDepth 20000 in
theorem gX3_stationsThatSee_X2_sees : GoodIn wsX3_stationsThatSee (wsV RX3 193 RX2 yX2_sees wsX2_sees) := goodIn_app (goodIn_of _ (by decide +kernel)) ggX3_stationsThatSee_X2_sees
set_option maxRecDepth 20000 in
theorem ggX3_gatherMisses_Jx4a65c_size_8abf5 : GoodIn wsX3_gatherMisses wsJx4a65c_size_8abf5 := goodIn_r _ [12, 13, 154, 155, 156] (by decide +kernel) (by decide +kernel)
set_option maxRecDepth 20000 in
theorem gX3_gatherMisses_Jx4a65c_size_8abf5 : GoodIn wsX3_gatherMisses (wsV RX3 44 RJx4a65c yJx4a65c_size_8abf5 wsJx4a65c_size_8abf5) := goodIn_app (goodIn_of _ (by decide +kernel)) ggX3_gatherMisses_Jx4a65c_size_8abf5
set_option maxRecDepth 20000 in
theorem ggX3_gatherMisses_Jx4a65c_get_915e3 : GoodIn wsX3_gatherMisses wsJx4a65c_get_915e3 := goodIn_r _ [17, 13, 18, 19, 20, 21, 22, 23, 24, 25, 26, 27, 28, 11, 29, 30, 154, 155, 156] (by decide +kernel) (by decide +kernel)
set_option maxRecDepth 20000 in
theorem gX3_gatherMisses_Jx4a65c_get_915e3 : GoodIn wsX3_gatherMisses (wsV RX3 73 RJx4a65c yJx4a65c_get_915e3 wsJx4a65c_get_915e3) := goodIn_app (goodIn_of _ (by decide +kernel)) ggX3_gatherMisses_Jx4a65c_get_915e3
set_option maxRecDepth 20000 in
theorem ggX3_gatherMisses_X2_sees : GoodIn wsX3_gatherMisses wsX2_sees := goodIn_r _ [35, 36, 37, 38, 39, 40, 41, 42, 43, 44, 45, 46, 47, 48, 49, 50, 51, 52, 34, 53, 54, 55, 56, 57, 58, 59, 60, 146, 147, 148, 149, 150, 151, 152, 153, 157, 158, 159, 160] (by decide +kernel) (by decide +kernel)
set_option maxRecDepth 20000 in
theorem gX3_gatherMisses_X2_sees : GoodIn wsX3_gatherMisses (wsV RX3 193 RX2 yX2_sees wsX2_sees) := goodIn_app (goodIn_of _ (by decide +kernel)) ggX3_gatherMisses_X2_sees
set_option maxRecDepth 20000 in
theorem ggX3_gatherMisses_X1_reckon : GoodIn wsX3_gatherMisses wsX1_reckon := goodIn_r _ [65, 66, 67, 68, 69, 70, 71, 72, 73, 74, 64, 75, 76, 77, 78, 79, 80, 81, 82, 9, 10, 11, 12, 13, 83, 15, 16, 17, 18, 19, 20, 21, 22, 23, 24, 25, 26, 27, 28, 29, 30, 84, 32, 33, 34, 35, 36, 37, 38, 39, 40, 41, 42, 43, 44, 45, 46, 47, 48, 49, 50, 51, 52, 53, 54, 55, 56, 57, 58, 59, 60, 85, 86, 87, 88, 89, 90, 91, 92, 93, 94, 95, 96, 97, 98, 99, 100, 101, 102, 103, 104, 105, 106, 107, 108, 109, 110, 111, 112, 113, 114, 115, 116, 117, 118, 119, 120, 121, 122, 123, 124, 135, 136, 137, 138, 139, 140, 141, 142, 143, 144, 145, 146, 147, 148, 149, 150, 151, 152, 153, 154, 155, 156, 157, 158, 159, 160] (by decide +kernel) (by decide +kernel)
set_option maxRecDepth 20000 in
theorem gX3_gatherMisses_X1_reckon : GoodIn wsX3_gatherMisses (wsV RX3 125 RX1 yX1_reckon wsX1_reckon) := goodIn_app (goodIn_of _ (by decide +kernel)) ggX3_gatherMisses_X1_reckon
set_option maxRecDepth 20000 in
theorem ggX3_gatherMisses_X2_readingOf : GoodIn wsX3_gatherMisses wsX2_readingOf := goodIn_r _ [88, 36, 89, 37, 38, 39, 40, 41, 42, 43, 44, 45, 46, 47, 48, 49, 50, 51, 52, 34, 53, 54, 55, 56, 57, 58, 59, 60, 90, 91, 92, 93, 94, 95, 96, 97, 98, 99, 100, 146, 147, 148, 149, 150, 151, 152, 153, 157, 158, 159, 160] (by decide +kernel) (by decide +kernel)
set_option maxRecDepth 20000 in
theorem gX3_gatherMisses_X2_readingOf : GoodIn wsX3_gatherMisses (wsV RX3 114 RX2 yX2_readingOf wsX2_readingOf) := goodIn_app (goodIn_of _ (by decide +kernel)) ggX3_gatherMisses_X2_readingOf
set_option maxRecDepth 20000 in
theorem ggX3_gatherMisses_X1_guessAt : GoodIn wsX3_gatherMisses wsX1_guessAt := goodIn_r _ [129, 71, 66, 68, 114, 115, 116, 64, 117, 67, 118, 135, 136, 137, 138, 139, 140, 141, 142, 143, 144, 145] (by decide +kernel) (by decide +kernel)
set_option maxRecDepth 20000 in
theorem gX3_gatherMisses_X1_guessAt : GoodIn wsX3_gatherMisses (wsV RX3 131 RX1 yX1_guessAt wsX1_guessAt) := goodIn_app (goodIn_of _ (by decide +kernel)) ggX3_gatherMisses_X1_guessAt
set_option maxRecDepth 20000 in
theorem ggX3_setAll_Jx4a65c_size_8abf5 : GoodIn wsX3_setAll wsJx4a65c_size_8abf5 := goodIn_r _ [8, 9, 51, 52, 53] (by decide +kernel) (by decide +kernel)
set_option maxRecDepth 20000 in
theorem gX3_setAll_Jx4a65c_size_8abf5 : GoodIn wsX3_setAll (wsV RX3 44 RJx4a65c yJx4a65c_size_8abf5 wsJx4a65c_size_8abf5) := goodIn_app (goodIn_of _ (by decide +kernel)) ggX3_setAll_Jx4a65c_size_8abf5
set_option maxRecDepth 20000 in
theorem ggX3_setAll_Jx4a65c_get_915e3 : GoodIn wsX3_setAll wsJx4a65c_get_915e3 := goodIn_r _ [13, 9, 14, 15, 16, 17, 18, 19, 20, 21, 22, 23, 24, 7, 25, 26, 51, 52, 53] (by decide +kernel) (by decide +kernel)
set_option maxRecDepth 20000 in
theorem gX3_setAll_Jx4a65c_get_915e3 : GoodIn wsX3_setAll (wsV RX3 73 RJx4a65c yJx4a65c_get_915e3 wsJx4a65c_get_915e3) := goodIn_app (goodIn_of _ (by decide +kernel)) ggX3_setAll_Jx4a65c_get_915e3
set_option maxRecDepth 20000 in
theorem ggX3_setAll_X2_correctionToRead : GoodIn wsX3_setAll wsX2_correctionToRead := goodIn_r _ [31, 32, 33, 34, 30, 35, 36, 37, 43, 44, 45, 46, 47, 48, 49, 50] (by decide +kernel) (by decide +kernel)
set_option maxRecDepth 20000 in
theorem gX3_setAll_X2_correctionToRead : GoodIn wsX3_setAll (wsV RX3 153 RX2 yX2_correctionToRead wsX2_correctionToRead) := goodIn_app (goodIn_of _ (by decide +kernel)) ggX3_setAll_X2_correctionToRead
set_option maxRecDepth 20000 in
theorem ggX3_countOf_Jx4a65c_size_8abf5 : GoodIn wsX3_countOf wsJx4a65c_size_8abf5 := goodIn_r _ [7, 8, 81, 82, 83] (by decide +kernel) (by decide +kernel)
set_option maxRecDepth 20000 in
theorem gX3_countOf_Jx4a65c_size_8abf5 : GoodIn wsX3_countOf (wsV RX3 44 RJx4a65c yJx4a65c_size_8abf5 wsJx4a65c_size_8abf5) := goodIn_app (goodIn_of _ (by decide +kernel)) ggX3_countOf_Jx4a65c_size_8abf5
set_option maxRecDepth 20000 in
theorem ggX3_countOf_X3_sightings : GoodIn wsX3_countOf wsX3_sightings := goodIn_r _ [13, 2, 14, 3, 4, 5, 6, 7, 8, 15, 16, 17, 18, 19, 20, 21, 22, 23, 24, 25, 26, 27, 28, 29, 30, 31, 32, 33, 34, 12, 35, 1, 36, 37, 38, 39, 40, 41, 42, 43, 44, 45, 46, 47, 48, 49, 50, 51, 52, 53, 54, 55, 56, 57, 58, 59, 60, 61, 62, 63, 64, 65, 66, 76, 77, 78, 79, 80, 81, 82, 83, 84, 85, 86, 87, 88, 89, 90, 91, 92, 93, 94, 95] (by decide +kernel) (by decide +kernel)
set_option maxRecDepth 20000 in
theorem gX3_countOf_X3_sightings : GoodIn wsX3_countOf (wsV RX3 197 RX3 yX3_sightings wsX3_sightings) := goodIn_app (goodIn_of _ (by decide +kernel)) ggX3_countOf_X3_sightings
set_option maxRecDepth 20000 in
theorem ggX3_countOf_X3_unseenHalos : GoodIn wsX3_countOf wsX3_unseenHalos := goodIn_r _ [70, 2, 14, 3, 4, 5, 6, 7, 8, 15, 16, 17, 18, 19, 20, 21, 22, 23, 24, 25, 26, 27, 28, 29, 30, 31, 32, 33, 34, 12, 35, 1, 36, 37, 38, 39, 40, 41, 42, 43, 44, 45, 46, 47, 48, 49, 50, 51, 52, 53, 54, 55, 56, 57, 58, 59, 60, 61, 62, 63, 64, 65, 66, 76, 77, 78, 79, 80, 81, 82, 83, 84, 85, 86, 87, 88, 89, 90, 91, 92, 93, 94, 95] (by decide +kernel) (by decide +kernel)
set_option maxRecDepth 20000 in
theorem gX3_countOf_X3_unseenHalos : GoodIn wsX3_countOf (wsV RX3 200 RX3 yX3_unseenHalos wsX3_unseenHalos) := goodIn_app (goodIn_of _ (by decide +kernel)) ggX3_countOf_X3_unseenHalos
set_option maxRecDepth 20000 in
theorem ggX3_countOf_X3_allClouds : GoodIn wsX3_countOf wsX3_allClouds := goodIn_r _ [74, 1, 36, 75, 3, 4, 5, 6, 7, 8, 15, 16, 17, 18, 19, 20, 21, 22, 23, 24, 25, 26, 27, 28, 29, 30, 31, 76, 77, 78, 79, 80, 84, 85, 86, 87, 88, 89, 90, 91, 81, 82, 83] (by decide +kernel) (by decide +kernel)
set_option maxRecDepth 20000 in
theorem gX3_countOf_X3_allClouds : GoodIn wsX3_countOf (wsV RX3 203 RX3 yX3_allClouds wsX3_allClouds) := goodIn_app (goodIn_of _ (by decide +kernel)) ggX3_countOf_X3_allClouds
set_option maxRecDepth 20000 in
theorem ggX3_sightings_Jx4a65c_size_8abf5 : GoodIn wsX3_sightings wsJx4a65c_size_8abf5 := goodIn_r _ [7, 8, 68, 69, 70] (by decide +kernel) (by decide +kernel)
set_option maxRecDepth 20000 in
theorem gX3_sightings_Jx4a65c_size_8abf5 : GoodIn wsX3_sightings (wsV RX3 44 RJx4a65c yJx4a65c_size_8abf5 wsJx4a65c_size_8abf5) := goodIn_app (goodIn_of _ (by decide +kernel)) ggX3_sightings_Jx4a65c_size_8abf5
set_option maxRecDepth 20000 in
theorem ggX3_sightings_Jx4a65c_get_915e3 : GoodIn wsX3_sightings wsJx4a65c_get_915e3 := goodIn_r _ [12, 8, 13, 14, 15, 16, 17, 18, 19, 20, 21, 22, 23, 6, 24, 25, 68, 69, 70] (by decide +kernel) (by decide +kernel)
set_option maxRecDepth 20000 in
theorem gX3_sightings_Jx4a65c_get_915e3 : GoodIn wsX3_sightings (wsV RX3 73 RJx4a65c yJx4a65c_get_915e3 wsJx4a65c_get_915e3) := goodIn_app (goodIn_of _ (by decide +kernel)) ggX3_sightings_Jx4a65c_get_915e3
set_option maxRecDepth 20000 in
theorem ggX3_sightings_X3_stationsThatSee : GoodIn wsX3_sightings wsX3_stationsThatSee := goodIn_r _ [30, 31, 32, 3, 4, 5, 6, 7, 8, 9, 10, 11, 12, 13, 14, 15, 16, 17, 18, 19, 20, 21, 22, 23, 24, 25, 33, 34, 35, 36, 37, 38, 39, 40, 41, 42, 43, 44, 45, 46, 47, 48, 49, 50, 51, 52, 53, 54, 55, 56, 57, 58, 59, 60, 61, 62, 63, 64, 65, 66, 67, 68, 69, 70, 71, 72, 73, 74, 75, 76, 77, 78, 79, 80, 81, 82] (by decide +kernel) (by decide +kernel)
set_option maxRecDepth 20000 in
theorem gX3_sightings_X3_stationsThatSee : GoodIn wsX3_sightings (wsV RX3 206 RX3 yX3_stationsThatSee wsX3_stationsThatSee) := goodIn_app (goodIn_of _ (by decide +kernel)) ggX3_sightings_X3_stationsThatSee
set_option maxRecDepth 20000 in
theorem ggX3_unseenHalos_Jx4a65c_size_8abf5 : GoodIn wsX3_unseenHalos wsJx4a65c_size_8abf5 := goodIn_r _ [7, 8, 68, 69, 70] (by decide +kernel) (by decide +kernel)
set_option maxRecDepth 20000 in
theorem gX3_unseenHalos_Jx4a65c_size_8abf5 : GoodIn wsX3_unseenHalos (wsV RX3 44 RJx4a65c yJx4a65c_size_8abf5 wsJx4a65c_size_8abf5) := goodIn_app (goodIn_of _ (by decide +kernel)) ggX3_unseenHalos_Jx4a65c_size_8abf5
set_option maxRecDepth 20000 in
theorem ggX3_unseenHalos_Jx4a65c_get_915e3 : GoodIn wsX3_unseenHalos wsJx4a65c_get_915e3 := goodIn_r _ [12, 8, 13, 14, 15, 16, 17, 18, 19, 20, 21, 22, 23, 6, 24, 25, 68, 69, 70] (by decide +kernel) (by decide +kernel)
set_option maxRecDepth 20000 in
theorem gX3_unseenHalos_Jx4a65c_get_915e3 : GoodIn wsX3_unseenHalos (wsV RX3 73 RJx4a65c yJx4a65c_get_915e3 wsJx4a65c_get_915e3) := goodIn_app (goodIn_of _ (by decide +kernel)) ggX3_unseenHalos_Jx4a65c_get_915e3
set_option maxRecDepth 20000 in
theorem ggX3_unseenHalos_X3_stationsThatSee : GoodIn wsX3_unseenHalos wsX3_stationsThatSee := goodIn_r _ [30, 31, 32, 3, 4, 5, 6, 7, 8, 9, 10, 11, 12, 13, 14, 15, 16, 17, 18, 19, 20, 21, 22, 23, 24, 25, 33, 34, 35, 36, 37, 38, 39, 40, 41, 42, 43, 44, 45, 46, 47, 48, 49, 50, 51, 52, 53, 54, 55, 56, 57, 58, 59, 60, 61, 62, 63, 64, 65, 66, 67, 68, 69, 70, 71, 72, 73, 74, 75, 76, 77, 78, 79, 80, 81, 82] (by decide +kernel) (by decide +kernel)
set_option maxRecDepth 20000 in
theorem gX3_unseenHalos_X3_stationsThatSee : GoodIn wsX3_unseenHalos (wsV RX3 206 RX3 yX3_stationsThatSee wsX3_stationsThatSee) := goodIn_app (goodIn_of _ (by decide +kernel)) ggX3_unseenHalos_X3_stationsThatSee
set_option maxRecDepth 20000 in
theorem ggX3_allClouds_Jx4a65c_size_8abf5 : GoodIn wsX3_allClouds wsJx4a65c_size_8abf5 := goodIn_r _ [8, 9, 40, 41, 42] (by decide +kernel) (by decide +kernel)
set_option maxRecDepth 20000 in
theorem gX3_allClouds_Jx4a65c_size_8abf5 : GoodIn wsX3_allClouds (wsV RX3 44 RJx4a65c yJx4a65c_size_8abf5 wsJx4a65c_size_8abf5) := goodIn_app (goodIn_of _ (by decide +kernel)) ggX3_allClouds_Jx4a65c_size_8abf5
set_option maxRecDepth 20000 in
theorem ggX3_allClouds_Jx4a65c_get_915e3 : GoodIn wsX3_allClouds wsJx4a65c_get_915e3 := goodIn_r _ [13, 9, 14, 15, 16, 17, 18, 19, 20, 21, 22, 23, 24, 7, 25, 26, 40, 41, 42] (by decide +kernel) (by decide +kernel)
set_option maxRecDepth 20000 in
theorem gX3_allClouds_Jx4a65c_get_915e3 : GoodIn wsX3_allClouds (wsV RX3 73 RJx4a65c yJx4a65c_get_915e3 wsJx4a65c_get_915e3) := goodIn_app (goodIn_of _ (by decide +kernel)) ggX3_allClouds_Jx4a65c_get_915e3
set_option maxRecDepth 20000 in
theorem ggX3_digestHalo_X1_reckon : GoodIn wsX3_digestHalo wsX1_reckon := goodIn_r _ [10, 11, 12, 13, 14, 15, 16, 17, 18, 19, 9, 20, 21, 22, 23, 24, 25, 26, 27, 28, 29, 30, 31, 32, 33, 34, 35, 36, 37, 38, 39, 40, 41, 42, 43, 44, 45, 46, 47, 48, 49, 50, 51, 52, 53, 54, 55, 56, 57, 58, 59, 60, 61, 62, 63, 64, 65, 66, 67, 68, 69, 70, 71, 72, 73, 74, 75, 76, 77, 78, 79, 80, 81, 82, 83, 84, 85, 86, 87, 88, 89, 90, 91, 92, 93, 94, 95, 96, 97, 98, 99, 100, 101, 102, 103, 104, 105, 106, 107, 108, 109, 110, 111, 112, 113, 114, 115, 116, 117, 118, 119, 143, 144, 145, 146, 147, 148, 149, 150, 151, 152, 153, 154, 155, 156, 157, 158, 159, 160, 161, 162, 163, 164, 165, 166, 167, 168] (by decide +kernel) (by decide +kernel)
set_option maxRecDepth 20000 in
theorem gX3_digestHalo_X1_reckon : GoodIn wsX3_digestHalo (wsV RX3 125 RX1 yX1_reckon wsX1_reckon) := goodIn_app (goodIn_of _ (by decide +kernel)) ggX3_digestHalo_X1_reckon
set_option maxRecDepth 20000 in
theorem ggX3_digestHalo_X1_tell : GoodIn wsX3_digestHalo wsX1_tell := goodIn_r _ [123, 16, 12, 13, 14, 15, 124, 125, 67, 126, 127, 128, 129, 9, 130, 108, 26, 131, 132, 133, 134, 143, 144, 145, 146, 147, 148, 149, 150, 151, 152, 153] (by decide +kernel) (by decide +kernel)
set_option maxRecDepth 20000 in
theorem gX3_digestHalo_X1_tell : GoodIn wsX3_digestHalo (wsV RX3 128 RX1 yX1_tell wsX1_tell) := goodIn_app (goodIn_of _ (by decide +kernel)) ggX3_digestHalo_X1_tell
set_option maxRecDepth 20000 in
theorem ggX3_digestHalo_Jx4a65c_size_8abf5 : GoodIn wsX3_digestHalo wsJx4a65c_size_8abf5 := goodIn_r _ [31, 32, 162, 163, 164] (by decide +kernel) (by decide +kernel)
set_option maxRecDepth 20000 in
theorem gX3_digestHalo_Jx4a65c_size_8abf5 : GoodIn wsX3_digestHalo (wsV RX3 44 RJx4a65c yJx4a65c_size_8abf5 wsJx4a65c_size_8abf5) := goodIn_app (goodIn_of _ (by decide +kernel)) ggX3_digestHalo_Jx4a65c_size_8abf5
set_option maxRecDepth 20000 in
theorem ggX3_digestHalo_Jx4a65c_get_915e3 : GoodIn wsX3_digestHalo wsJx4a65c_get_915e3 := goodIn_r _ [36, 32, 37, 38, 39, 40, 41, 42, 43, 44, 45, 46, 47, 30, 48, 49, 162, 163, 164] (by decide +kernel) (by decide +kernel)
set_option maxRecDepth 20000 in
theorem gX3_digestHalo_Jx4a65c_get_915e3 : GoodIn wsX3_digestHalo (wsV RX3 73 RJx4a65c yJx4a65c_get_915e3 wsJx4a65c_get_915e3) := goodIn_app (goodIn_of _ (by decide +kernel)) ggX3_digestHalo_Jx4a65c_get_915e3
set_option maxRecDepth 20000 in
theorem ggX3_digestHalo_X2_readingOf : GoodIn wsX3_digestHalo wsX2_readingOf := goodIn_r _ [83, 55, 84, 56, 57, 58, 59, 60, 61, 62, 63, 64, 65, 66, 67, 68, 69, 70, 71, 53, 72, 73, 74, 75, 76, 77, 78, 79, 85, 86, 87, 88, 89, 90, 91, 92, 93, 94, 95, 154, 155, 156, 157, 158, 159, 160, 161, 165, 166, 167, 168] (by decide +kernel) (by decide +kernel)
set_option maxRecDepth 20000 in
theorem gX3_digestHalo_X2_readingOf : GoodIn wsX3_digestHalo (wsV RX3 114 RX2 yX2_readingOf wsX2_readingOf) := goodIn_app (goodIn_of _ (by decide +kernel)) ggX3_digestHalo_X2_readingOf
set_option maxRecDepth 20000 in
theorem ggJxc12de_init_da8c8_Jxa1e45_init_da8c8 : GoodIn wsJxc12de_init_da8c8 wsJxa1e45_init_da8c8 := goodIn_r _ [5, 6, 7, 8] (by decide +kernel) (by decide +kernel)
set_option maxRecDepth 20000 in
theorem gJxc12de_init_da8c8_Jxa1e45_init_da8c8 : GoodIn wsJxc12de_init_da8c8 (wsJxa1e45_init_da8c8) := ggJxc12de_init_da8c8_Jxa1e45_init_da8c8
set_option maxRecDepth 20000 in
theorem ggJx4a65c_init_da8c8_Jxc12de_init_da8c8 : GoodIn wsJx4a65c_init_da8c8 wsJxc12de_init_da8c8 := goodIn_r _ [6, 7, 8, 9, 10, 11, 12, 13, 14, 15, 16, 17] (by decide +kernel) (by decide +kernel)
set_option maxRecDepth 20000 in
theorem gJx4a65c_init_da8c8_Jxc12de_init_da8c8 : GoodIn wsJx4a65c_init_da8c8 (wsJxc12de_init_da8c8) := ggJx4a65c_init_da8c8_Jxc12de_init_da8c8
set_option maxRecDepth 20000 in
theorem ggJx4a65c_grow_92f84_J8_newLength_cabcc : GoodIn wsJx4a65c_grow_92f84 wsJ8_newLength_cabcc := goodIn_r _ [11, 12, 4, 5, 6, 13, 14, 15, 10, 16] (by decide +kernel) (by decide +kernel)
set_option maxRecDepth 20000 in
theorem gJx4a65c_grow_92f84_J8_newLength_cabcc : GoodIn wsJx4a65c_grow_92f84 (va_wsS RJx4a65c 73 yJ8_newLength_cabcc wsJ8_newLength_cabcc) := goodIn_app (goodIn_of _ (by decide +kernel)) ggJx4a65c_grow_92f84_J8_newLength_cabcc
set_option maxRecDepth 20000 in
theorem ggJx4a65c_grow_92f84_J7_copyOf_1904c : GoodIn wsJx4a65c_grow_92f84 wsJ7_copyOf_1904c := goodIn_r _ [20, 21, 22, 23, 24, 25, 26, 19, 27, 28, 29, 30, 31, 5, 32, 33, 34, 35, 36] (by decide +kernel) (by decide +kernel)
set_option maxRecDepth 20000 in
theorem gJx4a65c_grow_92f84_J7_copyOf_1904c : GoodIn wsJx4a65c_grow_92f84 (va_wsS RJx4a65c 66 yJ7_copyOf_1904c wsJ7_copyOf_1904c) := goodIn_app (goodIn_of _ (by decide +kernel)) ggJx4a65c_grow_92f84_J7_copyOf_1904c
set_option maxRecDepth 20000 in
theorem ggJx4a65c_grow_d5877_Jx4a65c_grow_92f84 : GoodIn wsJx4a65c_grow_d5877 wsJx4a65c_grow_92f84 := goodIn_r _ [6, 7, 8, 9, 10, 11, 12, 13, 14, 15, 16, 17, 18, 19, 20, 21, 22, 23, 24, 25, 26, 27, 28, 29, 30, 31, 32, 33, 34, 35, 36, 37, 38, 39, 40, 41, 42, 43, 44, 45] (by decide +kernel) (by decide +kernel)
set_option maxRecDepth 20000 in
theorem gJx4a65c_grow_d5877_Jx4a65c_grow_92f84 : GoodIn wsJx4a65c_grow_d5877 (wsV RJx4a65c 69 RJx4a65c yJx4a65c_grow_92f84 wsJx4a65c_grow_92f84) := goodIn_app (goodIn_of _ (by decide +kernel)) ggJx4a65c_grow_d5877_Jx4a65c_grow_92f84
set_option maxRecDepth 20000 in
theorem ggJx4a65c_get_915e3_J15_checkIndex_7cf53 : GoodIn wsJx4a65c_get_915e3 wsJ15_checkIndex_7cf53 := goodIn_r _ [5, 6, 7, 8, 9] (by decide +kernel) (by decide +kernel)
set_option maxRecDepth 20000 in
theorem gJx4a65c_get_915e3_J15_checkIndex_7cf53 : GoodIn wsJx4a65c_get_915e3 (va_wsS RJx4a65c 118 yJ15_checkIndex_7cf53 wsJ15_checkIndex_7cf53) := goodIn_app (goodIn_of _ (by decide +kernel)) ggJx4a65c_get_915e3_J15_checkIndex_7cf53
set_option maxRecDepth 20000 in
theorem ggJx4a65c_get_915e3_Jx4a65c_elementData_915e3 : GoodIn wsJx4a65c_get_915e3 wsJx4a65c_elementData_915e3 := goodIn_r _ [14, 15, 16, 17, 18] (by decide +kernel) (by decide +kernel)
set_option maxRecDepth 20000 in
theorem gJx4a65c_get_915e3_Jx4a65c_elementData_915e3 : GoodIn wsJx4a65c_get_915e3 (wsV RJx4a65c 123 RJx4a65c yJx4a65c_elementData_915e3 wsJx4a65c_elementData_915e3) := goodIn_app (goodIn_of _ (by decide +kernel)) ggJx4a65c_get_915e3_Jx4a65c_elementData_915e3
set_option maxRecDepth 20000 in
theorem ggJx4a65c_add_72be8_Jx4a65c_grow_d5877 : GoodIn wsJx4a65c_add_72be8 wsJx4a65c_grow_d5877 := goodIn_r _ [6, 1, 7, 8, 9, 5, 10, 11, 12, 13, 14, 15, 16, 17, 18, 19, 20, 21, 22, 23, 24, 25, 26, 27, 28, 29, 30, 31, 32, 33, 34, 35, 36, 37, 38, 39, 40, 41, 42, 43, 44, 45, 46, 47, 48, 49] (by decide +kernel) (by decide +kernel)
set_option maxRecDepth 20000 in
theorem gJx4a65c_add_72be8_Jx4a65c_grow_d5877 : GoodIn wsJx4a65c_add_72be8 (wsV RJx4a65c 129 RJx4a65c yJx4a65c_grow_d5877 wsJx4a65c_grow_d5877) := goodIn_app (goodIn_of _ (by decide +kernel)) ggJx4a65c_add_72be8_Jx4a65c_grow_d5877
set_option maxRecDepth 20000 in
theorem ggJx4a65c_add_9ea2d_Jx4a65c_add_72be8 : GoodIn wsJx4a65c_add_9ea2d wsJx4a65c_add_72be8 := goodIn_r _ [9, 4, 10, 11, 12, 8, 13, 14, 15, 16, 17, 3, 18, 19, 20, 21, 22, 23, 24, 25, 26, 27, 28, 29, 30, 31, 32, 33, 34, 35, 36, 37, 38, 39, 40, 41, 42, 43, 44, 45, 46, 47, 48, 49, 50, 51, 52, 53, 54, 55] (by decide +kernel) (by decide +kernel)
set_option maxRecDepth 20000 in
theorem gJx4a65c_add_9ea2d_Jx4a65c_add_72be8 : GoodIn wsJx4a65c_add_9ea2d (wsV RJx4a65c 131 RJx4a65c yJx4a65c_add_72be8 wsJx4a65c_add_72be8) := goodIn_app (goodIn_of _ (by decide +kernel)) ggJx4a65c_add_9ea2d_Jx4a65c_add_72be8
set_option maxRecDepth 20000 in
theorem ggJx4a65c_add_7a177_Jx4a65c_rangeCheckForAdd_d00df : GoodIn wsJx4a65c_add_7a177 wsJx4a65c_rangeCheckForAdd_d00df := goodIn_r _ [13, 3, 54, 55, 56] (by decide +kernel) (by decide +kernel)
set_option maxRecDepth 20000 in
theorem gJx4a65c_add_7a177_Jx4a65c_rangeCheckForAdd_d00df : GoodIn wsJx4a65c_add_7a177 (wsV RJx4a65c 135 RJx4a65c yJx4a65c_rangeCheckForAdd_d00df wsJx4a65c_rangeCheckForAdd_d00df) := goodIn_app (goodIn_of _ (by decide +kernel)) ggJx4a65c_add_7a177_Jx4a65c_rangeCheckForAdd_d00df
set_option maxRecDepth 20000 in
theorem ggJx4a65c_add_7a177_Jx4a65c_grow_d5877 : GoodIn wsJx4a65c_add_7a177 wsJx4a65c_grow_d5877 := goodIn_r _ [17, 3, 18, 19, 20, 12, 21, 4, 22, 23, 24, 25, 26, 27, 28, 29, 30, 31, 32, 33, 34, 35, 36, 37, 38, 39, 40, 41, 42, 43, 44, 45, 46, 47, 48, 49, 50, 51, 52, 53, 6, 7, 8, 54, 55, 56] (by decide +kernel) (by decide +kernel)
set_option maxRecDepth 20000 in
theorem gJx4a65c_add_7a177_Jx4a65c_grow_d5877 : GoodIn wsJx4a65c_add_7a177 (wsV RJx4a65c 129 RJx4a65c yJx4a65c_grow_d5877 wsJx4a65c_grow_d5877) := goodIn_app (goodIn_of _ (by decide +kernel)) ggJx4a65c_add_7a177_Jx4a65c_grow_d5877
set_option maxRecDepth 20000 in
theorem ggJx4a65c_outOfBoundsMsg_b52d3_J4_init_da8c8 : GoodIn wsJx4a65c_outOfBoundsMsg_b52d3 wsJ4_init_da8c8 := goodIn_r _ [7, 8, 9, 10, 11, 12, 13, 14, 15, 16, 17, 18, 19, 20, 21, 22, 23, 24, 25, 26, 237, 238, 239, 240] (by decide +kernel) (by decide +kernel)
set_option maxRecDepth 20000 in
theorem gJx4a65c_outOfBoundsMsg_b52d3_J4_init_da8c8 : GoodIn wsJx4a65c_outOfBoundsMsg_b52d3 (wsJ4_init_da8c8) := ggJx4a65c_outOfBoundsMsg_b52d3_J4_init_da8c8
set_option maxRecDepth 20000 in
theorem ggJx4a65c_outOfBoundsMsg_b52d3_J4_append_15ec4 : GoodIn wsJx4a65c_outOfBoundsMsg_b52d3 wsJ4_append_15ec4 := goodIn_r _ [30, 31, 32, 33, 34, 10, 35, 36, 37, 38, 39, 40, 41, 17, 42, 43, 44, 45, 46, 18, 47, 48, 49, 50, 51, 52, 53, 54, 55, 56, 57, 58, 59, 60, 61, 62, 63, 64, 65, 66, 67, 68, 69, 70, 71, 72, 73, 74, 16, 75, 76, 77, 78, 79, 80, 81, 82, 83, 84, 85, 86, 15, 87, 88, 21, 89, 90, 91, 92, 93, 94, 95, 96, 97, 98, 99, 100, 101, 102, 103, 104, 105, 106, 107, 108, 109, 110, 111, 112, 113, 114, 115, 116, 117, 118, 119, 120, 121, 122, 123, 124, 125, 126, 127, 128, 129, 130, 131, 132, 133, 134, 135, 136, 137, 19, 20, 22, 23, 24, 25, 26, 138, 139, 140, 141, 142, 143, 144, 145, 146, 147, 148, 149, 150, 151, 152, 153, 154, 155, 156, 157, 158, 159, 237, 238, 239, 240, 244, 245, 246, 247] (by decide +kernel) (by decide +kernel)
set_option maxRecDepth 20000 in
theorem gJx4a65c_outOfBoundsMsg_b52d3_J4_append_15ec4 : GoodIn wsJx4a65c_outOfBoundsMsg_b52d3 (wsV RJx4a65c 25 RJ4 yJ4_append_15ec4 wsJ4_append_15ec4) := goodIn_app (goodIn_of _ (by decide +kernel)) ggJx4a65c_outOfBoundsMsg_b52d3_J4_append_15ec4
set_option maxRecDepth 20000 in
theorem ggJx4a65c_outOfBoundsMsg_b52d3_J4_append_bf812 : GoodIn wsJx4a65c_outOfBoundsMsg_b52d3 wsJ4_append_bf812 := goodIn_r _ [163, 164, 165, 33, 166, 10, 167, 36, 17, 168, 169, 170, 171, 42, 43, 44, 45, 46, 18, 47, 48, 49, 50, 51, 52, 53, 54, 55, 56, 57, 58, 59, 60, 61, 62, 63, 64, 65, 66, 67, 68, 69, 70, 71, 72, 73, 74, 16, 75, 76, 77, 78, 79, 80, 81, 82, 83, 84, 85, 86, 15, 172, 173, 174, 175, 176, 177, 178, 21, 179, 90, 91, 92, 93, 94, 95, 96, 97, 98, 99, 100, 101, 102, 103, 104, 105, 180, 181, 182, 183, 184, 106, 107, 108, 109, 110, 237, 238, 239, 240] (by decide +kernel) (by decide +kernel)
set_option maxRecDepth 20000 in
theorem gJx4a65c_outOfBoundsMsg_b52d3_J4_append_bf812 : GoodIn wsJx4a65c_outOfBoundsMsg_b52d3 (wsV RJx4a65c 29 RJ4 yJ4_append_bf812 wsJ4_append_bf812) := goodIn_app (goodIn_of _ (by decide +kernel)) ggJx4a65c_outOfBoundsMsg_b52d3_J4_append_bf812
set_option maxRecDepth 20000 in
theorem ggJx4a65c_outOfBoundsMsg_b52d3_J4_toString_0e30d : GoodIn wsJx4a65c_outOfBoundsMsg_b52d3 wsJ4_toString_0e30d := goodIn_r _ [188, 189, 190, 99, 191, 192, 193, 194, 195, 196, 197, 13, 14, 121, 115, 120, 198, 199, 200, 201, 202, 10, 203, 17, 204, 205, 206, 207, 208, 3, 209, 210, 33, 211, 212, 36, 213, 83, 84, 85, 86, 15, 18, 214, 215, 67, 216, 69, 70, 71, 72, 73, 74, 217, 218, 219, 16, 75, 76, 59, 77, 78, 79, 80, 81, 220, 221, 222, 223, 2, 224, 225, 21, 226, 227, 228, 229, 145, 146, 147, 94, 95, 96, 148, 149, 150, 101, 151, 152, 104, 153, 230, 231, 232, 90, 109, 110, 23, 24, 25, 26, 233, 234, 235, 236, 244, 245, 246, 247, 237, 238, 239, 240] (by decide +kernel) (by decide +kernel)
set_option maxRecDepth 20000 in
theorem gJx4a65c_outOfBoundsMsg_b52d3_J4_toString_0e30d : GoodIn wsJx4a65c_outOfBoundsMsg_b52d3 (wsV RJx4a65c 32 RJ4 yJ4_toString_0e30d wsJ4_toString_0e30d) := goodIn_app (goodIn_of _ (by decide +kernel)) ggJx4a65c_outOfBoundsMsg_b52d3_J4_toString_0e30d
set_option maxRecDepth 20000 in
theorem ggJ7_copyOf_1904c_J7_copyOf_6403c : GoodIn wsJ7_copyOf_1904c wsJ7_copyOf_6403c := goodIn_r _ [8, 9, 10, 11, 12, 13, 14, 15, 16, 17, 18] (by decide +kernel) (by decide +kernel)
set_option maxRecDepth 20000 in
theorem gJ7_copyOf_1904c_J7_copyOf_6403c : GoodIn wsJ7_copyOf_1904c (va_wsS RJ7 300 yJ7_copyOf_6403c wsJ7_copyOf_6403c) := goodIn_app (goodIn_of _ (by decide +kernel)) ggJ7_copyOf_1904c_J7_copyOf_6403c
set_option maxRecDepth 20000 in
theorem ggJ7_copyOfRange_39247_J7_copyOfRangeByte_39247 : GoodIn wsJ7_copyOfRange_39247 wsJ7_copyOfRangeByte_39247 := goodIn_r _ [10, 11, 12, 13, 14, 15, 16, 17, 18, 19, 20, 21, 9, 22, 23, 24, 25, 26, 27, 28, 29] (by decide +kernel) (by decide +kernel)
set_option maxRecDepth 20000 in
theorem gJ7_copyOfRange_39247_J7_copyOfRangeByte_39247 : GoodIn wsJ7_copyOfRange_39247 (va_wsS RJ7 339 yJ7_copyOfRangeByte_39247 wsJ7_copyOfRangeByte_39247) := goodIn_app (goodIn_of _ (by decide +kernel)) ggJ7_copyOfRange_39247_J7_copyOfRangeByte_39247
set_option maxRecDepth 20000 in
theorem ggJ7_copyOfRangeByte_39247_J7_checkLength_df160 : GoodIn wsJ7_copyOfRangeByte_39247 wsJ7_checkLength_df160 := goodIn_r _ [13, 14, 15, 16, 17, 18, 19, 20] (by decide +kernel) (by decide +kernel)
set_option maxRecDepth 20000 in
theorem gJ7_copyOfRangeByte_39247_J7_checkLength_df160 : GoodIn wsJ7_copyOfRangeByte_39247 (va_wsS RJ7 343 yJ7_checkLength_df160 wsJ7_checkLength_df160) := goodIn_app (goodIn_of _ (by decide +kernel)) ggJ7_copyOfRangeByte_39247_J7_checkLength_df160
set_option maxRecDepth 20000 in
theorem ggJ15_checkIndex_7cf53_J3_checkIndex_8e157 : GoodIn wsJ15_checkIndex_7cf53 wsJ3_checkIndex_8e157 := goodIn_r _ [4] (by decide +kernel) (by decide +kernel)
set_option maxRecDepth 20000 in
theorem gJ15_checkIndex_7cf53_J3_checkIndex_8e157 : GoodIn wsJ15_checkIndex_7cf53 (va_wsS RJ15 105 yJ3_checkIndex_8e157 wsJ3_checkIndex_8e157) := goodIn_app (goodIn_of _ (by decide +kernel)) ggJ15_checkIndex_7cf53_J3_checkIndex_8e157
set_option maxRecDepth 20000 in
theorem ggJ8_newLength_cabcc_J8_hugeLength_7cf53 : GoodIn wsJ8_newLength_cabcc wsJ8_hugeLength_7cf53 := goodIn_r _ [9, 5] (by decide +kernel) (by decide +kernel)
set_option maxRecDepth 20000 in
theorem gJ8_newLength_cabcc_J8_hugeLength_7cf53 : GoodIn wsJ8_newLength_cabcc (va_wsS RJ8 201 yJ8_hugeLength_7cf53 wsJ8_hugeLength_7cf53) := goodIn_app (goodIn_of _ (by decide +kernel)) ggJ8_newLength_cabcc_J8_hugeLength_7cf53
