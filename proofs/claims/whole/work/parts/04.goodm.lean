set_option maxRecDepth 20000 in
theorem ggX4_isTime_X4_isIn : GoodIn wsX4_isTime wsX4_isIn := goodIn_r _ [5] (by decide +kernel) (by decide +kernel)
set_option maxRecDepth 20000 in
theorem gX4_isTime_X4_isIn : GoodIn wsX4_isTime (va_wsS RX4 30 yX4_isIn wsX4_isIn) := goodIn_app (goodIn_of _ (by decide +kernel)) ggX4_isTime_X4_isIn
set_option maxRecDepth 20000 in
theorem ggX4_isStation_X4_isIn : GoodIn wsX4_isStation wsX4_isIn := goodIn_r _ [5] (by decide +kernel) (by decide +kernel)
set_option maxRecDepth 20000 in
theorem gX4_isStation_X4_isIn : GoodIn wsX4_isStation (va_wsS RX4 30 yX4_isIn wsX4_isIn) := goodIn_app (goodIn_of _ (by decide +kernel)) ggX4_isStation_X4_isIn
set_option maxRecDepth 20000 in
theorem ggX4_isHalo_X4_isIn : GoodIn wsX4_isHalo wsX4_isIn := goodIn_r _ [5] (by decide +kernel) (by decide +kernel)
set_option maxRecDepth 20000 in
theorem gX4_isHalo_X4_isIn : GoodIn wsX4_isHalo (va_wsS RX4 30 yX4_isIn wsX4_isIn) := goodIn_app (goodIn_of _ (by decide +kernel)) ggX4_isHalo_X4_isIn
set_option maxRecDepth 20000 in
theorem ggX4_build_X4_isIn : GoodIn wsX4_build wsX4_isIn := goodIn_r _ [6] (by decide +kernel) (by decide +kernel)
set_option maxRecDepth 20000 in
theorem gX4_build_X4_isIn : GoodIn wsX4_build (va_wsS RX4 30 yX4_isIn wsX4_isIn) := goodIn_app (goodIn_of _ (by decide +kernel)) ggX4_build_X4_isIn
set_option maxRecDepth 20000 in
theorem ggX4_build_X4_fail : GoodIn wsX4_build wsX4_fail := goodIn_r _ [10, 1, 20, 21, 22, 23, 24, 25, 26, 27, 28, 29, 30] (by decide +kernel) (by decide +kernel)
set_option maxRecDepth 20000 in
theorem gX4_build_X4_fail : GoodIn wsX4_build (wsV RX4 40 RX4 yX4_fail wsX4_fail) := goodIn_app (goodIn_of _ (by decide +kernel)) ggX4_build_X4_fail
set_option maxRecDepth 20000 in
theorem ggX4_build_X4_get : GoodIn wsX4_build wsX4_get := goodIn_r _ [14, 15, 20, 21, 22, 23, 24, 25, 26, 27, 28, 29, 30] (by decide +kernel) (by decide +kernel)
set_option maxRecDepth 20000 in
theorem gX4_build_X4_get : GoodIn wsX4_build (wsV RX4 44 RX4 yX4_get wsX4_get) := goodIn_app (goodIn_of _ (by decide +kernel)) ggX4_build_X4_get
set_option maxRecDepth 20000 in
theorem ggX4_build_X4_set : GoodIn wsX4_build wsX4_set := goodIn_r _ [19, 15, 20, 21, 22, 23, 24, 25, 26, 27, 28, 29, 30] (by decide +kernel) (by decide +kernel)
set_option maxRecDepth 20000 in
theorem gX4_build_X4_set : GoodIn wsX4_build (wsV RX4 48 RX4 yX4_set wsX4_set) := goodIn_app (goodIn_of _ (by decide +kernel)) ggX4_build_X4_set
set_option maxRecDepth 20000 in
theorem ggX4_cloud_X4_isStation : GoodIn wsX4_cloud wsX4_isStation := goodIn_r _ [6, 7, 8, 9, 5, 10, 24, 25, 26, 27, 28, 29, 30, 31, 32, 33, 34] (by decide +kernel) (by decide +kernel)
set_option maxRecDepth 20000 in
theorem gX4_cloud_X4_isStation : GoodIn wsX4_cloud (wsV RX4 52 RX4 yX4_isStation wsX4_isStation) := goodIn_app (goodIn_of _ (by decide +kernel)) ggX4_cloud_X4_isStation
set_option maxRecDepth 20000 in
theorem ggX4_cloud_X4_fail : GoodIn wsX4_cloud wsX4_fail := goodIn_r _ [14, 1, 24, 25, 26, 27, 28, 29, 30, 31, 32, 33, 34] (by decide +kernel) (by decide +kernel)
set_option maxRecDepth 20000 in
theorem gX4_cloud_X4_fail : GoodIn wsX4_cloud (wsV RX4 40 RX4 yX4_fail wsX4_fail) := goodIn_app (goodIn_of _ (by decide +kernel)) ggX4_cloud_X4_fail
set_option maxRecDepth 20000 in
theorem ggX4_cloud_X4_get : GoodIn wsX4_cloud wsX4_get := goodIn_r _ [18, 19, 24, 25, 26, 27, 28, 29, 30, 31, 32, 33, 34] (by decide +kernel) (by decide +kernel)
set_option maxRecDepth 20000 in
theorem gX4_cloud_X4_get : GoodIn wsX4_cloud (wsV RX4 44 RX4 yX4_get wsX4_get) := goodIn_app (goodIn_of _ (by decide +kernel)) ggX4_cloud_X4_get
set_option maxRecDepth 20000 in
theorem ggX4_cloud_X4_set : GoodIn wsX4_cloud wsX4_set := goodIn_r _ [23, 19, 24, 25, 26, 27, 28, 29, 30, 31, 32, 33, 34] (by decide +kernel) (by decide +kernel)
set_option maxRecDepth 20000 in
theorem gX4_cloud_X4_set : GoodIn wsX4_cloud (wsV RX4 48 RX4 yX4_set wsX4_set) := goodIn_app (goodIn_of _ (by decide +kernel)) ggX4_cloud_X4_set
set_option maxRecDepth 20000 in
theorem ggX4_clear_X4_isStation : GoodIn wsX4_clear wsX4_isStation := goodIn_r _ [6, 7, 8, 9, 5, 10, 24, 25, 26, 27, 28, 29, 30, 31, 32, 33, 34] (by decide +kernel) (by decide +kernel)
set_option maxRecDepth 20000 in
theorem gX4_clear_X4_isStation : GoodIn wsX4_clear (wsV RX4 52 RX4 yX4_isStation wsX4_isStation) := goodIn_app (goodIn_of _ (by decide +kernel)) ggX4_clear_X4_isStation
set_option maxRecDepth 20000 in
theorem ggX4_clear_X4_fail : GoodIn wsX4_clear wsX4_fail := goodIn_r _ [14, 1, 24, 25, 26, 27, 28, 29, 30, 31, 32, 33, 34] (by decide +kernel) (by decide +kernel)
set_option maxRecDepth 20000 in
theorem gX4_clear_X4_fail : GoodIn wsX4_clear (wsV RX4 40 RX4 yX4_fail wsX4_fail) := goodIn_app (goodIn_of _ (by decide +kernel)) ggX4_clear_X4_fail
set_option maxRecDepth 20000 in
theorem ggX4_clear_X4_get : GoodIn wsX4_clear wsX4_get := goodIn_r _ [18, 19, 24, 25, 26, 27, 28, 29, 30, 31, 32, 33, 34] (by decide +kernel) (by decide +kernel)
set_option maxRecDepth 20000 in
theorem gX4_clear_X4_get : GoodIn wsX4_clear (wsV RX4 44 RX4 yX4_get wsX4_get) := goodIn_app (goodIn_of _ (by decide +kernel)) ggX4_clear_X4_get
set_option maxRecDepth 20000 in
theorem ggX4_clear_X4_set : GoodIn wsX4_clear wsX4_set := goodIn_r _ [23, 19, 24, 25, 26, 27, 28, 29, 30, 31, 32, 33, 34] (by decide +kernel) (by decide +kernel)
set_option maxRecDepth 20000 in
theorem gX4_clear_X4_set : GoodIn wsX4_clear (wsV RX4 48 RX4 yX4_set wsX4_set) := goodIn_app (goodIn_of _ (by decide +kernel)) ggX4_clear_X4_set
set_option maxRecDepth 20000 in
theorem ggX4_correct_X4_isStation : GoodIn wsX4_correct wsX4_isStation := goodIn_r _ [8, 9, 10, 11, 7, 12, 26, 27, 28, 29, 30, 31, 32, 33, 34, 35, 36] (by decide +kernel) (by decide +kernel)
set_option maxRecDepth 20000 in
theorem gX4_correct_X4_isStation : GoodIn wsX4_correct (wsV RX4 52 RX4 yX4_isStation wsX4_isStation) := goodIn_app (goodIn_of _ (by decide +kernel)) ggX4_correct_X4_isStation
set_option maxRecDepth 20000 in
theorem ggX4_correct_X4_fail : GoodIn wsX4_correct wsX4_fail := goodIn_r _ [16, 1, 26, 27, 28, 29, 30, 31, 32, 33, 34, 35, 36] (by decide +kernel) (by decide +kernel)
set_option maxRecDepth 20000 in
theorem gX4_correct_X4_fail : GoodIn wsX4_correct (wsV RX4 40 RX4 yX4_fail wsX4_fail) := goodIn_app (goodIn_of _ (by decide +kernel)) ggX4_correct_X4_fail
set_option maxRecDepth 20000 in
theorem ggX4_correct_X4_isIn : GoodIn wsX4_correct wsX4_isIn := goodIn_r _ [12] (by decide +kernel) (by decide +kernel)
set_option maxRecDepth 20000 in
theorem gX4_correct_X4_isIn : GoodIn wsX4_correct (va_wsS RX4 30 yX4_isIn wsX4_isIn) := goodIn_app (goodIn_of _ (by decide +kernel)) ggX4_correct_X4_isIn
set_option maxRecDepth 20000 in
theorem ggX4_correct_X4_get : GoodIn wsX4_correct wsX4_get := goodIn_r _ [20, 21, 26, 27, 28, 29, 30, 31, 32, 33, 34, 35, 36] (by decide +kernel) (by decide +kernel)
set_option maxRecDepth 20000 in
theorem gX4_correct_X4_get : GoodIn wsX4_correct (wsV RX4 44 RX4 yX4_get wsX4_get) := goodIn_app (goodIn_of _ (by decide +kernel)) ggX4_correct_X4_get
set_option maxRecDepth 20000 in
theorem ggX4_correct_X4_set : GoodIn wsX4_correct wsX4_set := goodIn_r _ [25, 21, 26, 27, 28, 29, 30, 31, 32, 33, 34, 35, 36] (by decide +kernel) (by decide +kernel)
set_option maxRecDepth 20000 in
theorem gX4_correct_X4_set : GoodIn wsX4_correct (wsV RX4 48 RX4 yX4_set wsX4_set) := goodIn_app (goodIn_of _ (by decide +kernel)) ggX4_correct_X4_set
set_option maxRecDepth 20000 in
theorem ggX4_sightings_X4_sees : GoodIn wsX4_sightings wsX4_sees := goodIn_r _ [6, 7, 8, 9, 5, 10, 11, 12, 13, 14, 15, 16, 17, 18, 19, 20, 21, 22, 23, 24, 25, 26, 27, 28, 29, 30, 31, 32, 33, 34, 35, 36, 37, 38] (by decide +kernel) (by decide +kernel)
set_option maxRecDepth 20000 in
theorem gX4_sightings_X4_sees : GoodIn wsX4_sightings (wsV RX4 58 RX4 yX4_sees wsX4_sees) := goodIn_app (goodIn_of _ (by decide +kernel)) ggX4_sightings_X4_sees
set_option maxRecDepth 20000 in
theorem ggX4_stationTold_X4_get : GoodIn wsX4_stationTold wsX4_get := goodIn_r _ [5, 6, 32, 33, 34, 35, 36, 37, 38, 39, 40, 41, 42] (by decide +kernel) (by decide +kernel)
set_option maxRecDepth 20000 in
theorem gX4_stationTold_X4_get : GoodIn wsX4_stationTold (wsV RX4 44 RX4 yX4_get wsX4_get) := goodIn_app (goodIn_of _ (by decide +kernel)) ggX4_stationTold_X4_get
set_option maxRecDepth 20000 in
theorem ggX4_stationTold_X4_sightings : GoodIn wsX4_stationTold wsX4_sightings := goodIn_r _ [10, 11, 12, 13, 14, 4, 15, 16, 17, 18, 19, 20, 21, 22, 23, 1, 2, 3, 5, 6, 24, 25, 26, 27, 28, 29, 30, 31, 32, 33, 34, 35, 36, 37, 38, 39, 40, 41, 42] (by decide +kernel) (by decide +kernel)
set_option maxRecDepth 20000 in
theorem gX4_stationTold_X4_sightings : GoodIn wsX4_stationTold (wsV RX4 62 RX4 yX4_sightings wsX4_sightings) := goodIn_app (goodIn_of _ (by decide +kernel)) ggX4_stationTold_X4_sightings
set_option maxRecDepth 20000 in
theorem ggX4_station_X4_isStation : GoodIn wsX4_station wsX4_isStation := goodIn_r _ [6, 7, 8, 9, 5, 10, 46, 47, 48, 49, 50, 51, 52, 53, 54, 55, 56] (by decide +kernel) (by decide +kernel)
set_option maxRecDepth 20000 in
theorem gX4_station_X4_isStation : GoodIn wsX4_station (wsV RX4 52 RX4 yX4_isStation wsX4_isStation) := goodIn_app (goodIn_of _ (by decide +kernel)) ggX4_station_X4_isStation
set_option maxRecDepth 20000 in
theorem ggX4_station_X4_isIn : GoodIn wsX4_station wsX4_isIn := goodIn_r _ [10] (by decide +kernel) (by decide +kernel)
set_option maxRecDepth 20000 in
theorem gX4_station_X4_isIn : GoodIn wsX4_station (va_wsS RX4 30 yX4_isIn wsX4_isIn) := goodIn_app (goodIn_of _ (by decide +kernel)) ggX4_station_X4_isIn
set_option maxRecDepth 20000 in
theorem ggX4_station_X4_stationTold : GoodIn wsX4_station wsX4_stationTold := goodIn_r _ [14, 15, 16, 17, 5, 18, 19, 20, 21, 22, 23, 24, 25, 26, 27, 28, 29, 30, 31, 32, 33, 34, 35, 36, 37, 38, 39, 40, 41, 8, 9, 10, 46, 47, 48, 49, 50, 51, 52, 53, 54, 55, 56] (by decide +kernel) (by decide +kernel)
set_option maxRecDepth 20000 in
theorem gX4_station_X4_stationTold : GoodIn wsX4_station (wsV RX4 65 RX4 yX4_stationTold wsX4_stationTold) := goodIn_app (goodIn_of _ (by decide +kernel)) ggX4_station_X4_stationTold
set_option maxRecDepth 20000 in
theorem ggX4_station_X4_fail : GoodIn wsX4_station wsX4_fail := goodIn_r _ [45, 1, 46, 47, 48, 49, 50, 51, 52, 53, 54, 55, 56] (by decide +kernel) (by decide +kernel)
set_option maxRecDepth 20000 in
theorem gX4_station_X4_fail : GoodIn wsX4_station (wsV RX4 40 RX4 yX4_fail wsX4_fail) := goodIn_app (goodIn_of _ (by decide +kernel)) ggX4_station_X4_fail
set_option maxRecDepth 20000 in
theorem ggX4_clockOf_X4_get : GoodIn wsX4_clockOf wsX4_get := goodIn_r _ [5, 6, 7, 8, 9, 10, 11, 12, 13, 14, 15, 16, 17] (by decide +kernel) (by decide +kernel)
set_option maxRecDepth 20000 in
theorem gX4_clockOf_X4_get : GoodIn wsX4_clockOf (wsV RX4 44 RX4 yX4_get wsX4_get) := goodIn_app (goodIn_of _ (by decide +kernel)) ggX4_clockOf_X4_get
set_option maxRecDepth 20000 in
theorem ggX4_clock_X4_isStation : GoodIn wsX4_clock wsX4_isStation := goodIn_r _ [6, 7, 8, 9, 5, 10, 28, 29, 30, 31, 32, 33, 34, 35, 36, 37, 38] (by decide +kernel) (by decide +kernel)
set_option maxRecDepth 20000 in
theorem gX4_clock_X4_isStation : GoodIn wsX4_clock (wsV RX4 52 RX4 yX4_isStation wsX4_isStation) := goodIn_app (goodIn_of _ (by decide +kernel)) ggX4_clock_X4_isStation
set_option maxRecDepth 20000 in
theorem ggX4_clock_X4_fail : GoodIn wsX4_clock wsX4_fail := goodIn_r _ [14, 1, 28, 29, 30, 31, 32, 33, 34, 35, 36, 37, 38] (by decide +kernel) (by decide +kernel)
set_option maxRecDepth 20000 in
theorem gX4_clock_X4_fail : GoodIn wsX4_clock (wsV RX4 40 RX4 yX4_fail wsX4_fail) := goodIn_app (goodIn_of _ (by decide +kernel)) ggX4_clock_X4_fail
set_option maxRecDepth 20000 in
theorem ggX4_clock_X4_isTime : GoodIn wsX4_clock wsX4_isTime := goodIn_r _ [17, 18, 8, 9, 5, 10] (by decide +kernel) (by decide +kernel)
set_option maxRecDepth 20000 in
theorem gX4_clock_X4_isTime : GoodIn wsX4_clock (va_wsS RX4 68 yX4_isTime wsX4_isTime) := goodIn_app (goodIn_of _ (by decide +kernel)) ggX4_clock_X4_isTime
set_option maxRecDepth 20000 in
theorem ggX4_clock_X4_clockOf : GoodIn wsX4_clock wsX4_clockOf := goodIn_r _ [22, 23, 24, 25, 5, 26, 27, 28, 29, 30, 31, 32, 33, 34, 35, 36, 37, 38] (by decide +kernel) (by decide +kernel)
set_option maxRecDepth 20000 in
theorem gX4_clock_X4_clockOf : GoodIn wsX4_clock (wsV RX4 71 RX4 yX4_clockOf wsX4_clockOf) := goodIn_app (goodIn_of _ (by decide +kernel)) ggX4_clock_X4_clockOf
set_option maxRecDepth 20000 in
theorem ggX4_addHalo_X4_isIn : GoodIn wsX4_addHalo wsX4_isIn := goodIn_r _ [13] (by decide +kernel) (by decide +kernel)
set_option maxRecDepth 20000 in
theorem gX4_addHalo_X4_isIn : GoodIn wsX4_addHalo (va_wsS RX4 30 yX4_isIn wsX4_isIn) := goodIn_app (goodIn_of _ (by decide +kernel)) ggX4_addHalo_X4_isIn
set_option maxRecDepth 20000 in
theorem ggX4_addHalo_X4_fail : GoodIn wsX4_addHalo wsX4_fail := goodIn_r _ [17, 1, 18, 19, 20, 21, 22, 23, 24, 25, 26, 27, 28] (by decide +kernel) (by decide +kernel)
set_option maxRecDepth 20000 in
theorem gX4_addHalo_X4_fail : GoodIn wsX4_addHalo (wsV RX4 40 RX4 yX4_fail wsX4_fail) := goodIn_app (goodIn_of _ (by decide +kernel)) ggX4_addHalo_X4_fail
set_option maxRecDepth 20000 in
theorem ggX4_comesTo_X4_get : GoodIn wsX4_comesTo wsX4_get := goodIn_r _ [9, 10, 16, 17, 18, 19, 20, 21, 22, 23, 24, 25, 26] (by decide +kernel) (by decide +kernel)
set_option maxRecDepth 20000 in
theorem gX4_comesTo_X4_get : GoodIn wsX4_comesTo (wsV RX4 44 RX4 yX4_get wsX4_get) := goodIn_app (goodIn_of _ (by decide +kernel)) ggX4_comesTo_X4_get
set_option maxRecDepth 20000 in
theorem ggX4_comesTo_X4_ha : GoodIn wsX4_comesTo wsX4_ha := goodIn_r _ [14, 15, 16, 17, 18, 19, 20, 21, 22, 23, 24, 25, 26] (by decide +kernel) (by decide +kernel)
set_option maxRecDepth 20000 in
theorem gX4_comesTo_X4_ha : GoodIn wsX4_comesTo (wsV RX4 80 RX4 yX4_ha wsX4_ha) := goodIn_app (goodIn_of _ (by decide +kernel)) ggX4_comesTo_X4_ha
set_option maxRecDepth 20000 in
theorem ggX4_sees_X4_comesTo : GoodIn wsX4_sees wsX4_comesTo := goodIn_r _ [5, 6, 7, 8, 9, 10, 11, 12, 4, 13, 14, 15, 16, 17, 18, 19, 23, 24, 25, 26, 27, 28, 29, 30, 31, 32, 33] (by decide +kernel) (by decide +kernel)
set_option maxRecDepth 20000 in
theorem gX4_sees_X4_comesTo : GoodIn wsX4_sees (wsV RX4 88 RX4 yX4_comesTo wsX4_comesTo) := goodIn_app (goodIn_of _ (by decide +kernel)) ggX4_sees_X4_comesTo
set_option maxRecDepth 20000 in
theorem ggX4_sees_X4_get : GoodIn wsX4_sees wsX4_get := goodIn_r _ [13, 14, 23, 24, 25, 26, 27, 28, 29, 30, 31, 32, 33] (by decide +kernel) (by decide +kernel)
set_option maxRecDepth 20000 in
theorem gX4_sees_X4_get : GoodIn wsX4_sees (wsV RX4 44 RX4 yX4_get wsX4_get) := goodIn_app (goodIn_of _ (by decide +kernel)) ggX4_sees_X4_get
set_option maxRecDepth 20000 in
theorem ggX4_sees_X4_isIn : GoodIn wsX4_sees wsX4_isIn := goodIn_r _ [22] (by decide +kernel) (by decide +kernel)
set_option maxRecDepth 20000 in
theorem gX4_sees_X4_isIn : GoodIn wsX4_sees (va_wsS RX4 30 yX4_isIn wsX4_isIn) := goodIn_app (goodIn_of _ (by decide +kernel)) ggX4_sees_X4_isIn
set_option maxRecDepth 20000 in
theorem ggX4_readingOf_X4_sees : GoodIn wsX4_readingOf wsX4_sees := goodIn_r _ [6, 7, 8, 9, 5, 10, 11, 12, 13, 14, 15, 16, 17, 18, 19, 20, 21, 22, 23, 24, 25, 26, 27, 32, 33, 34, 35, 36, 37, 38, 39, 40, 41, 42] (by decide +kernel) (by decide +kernel)
set_option maxRecDepth 20000 in
theorem gX4_readingOf_X4_sees : GoodIn wsX4_readingOf (wsV RX4 58 RX4 yX4_sees wsX4_sees) := goodIn_app (goodIn_of _ (by decide +kernel)) ggX4_readingOf_X4_sees
set_option maxRecDepth 20000 in
theorem ggX4_readingOf_X4_comesTo : GoodIn wsX4_readingOf wsX4_comesTo := goodIn_r _ [10, 11, 12, 13, 14, 15, 16, 17, 5, 18, 19, 20, 21, 22, 23, 24, 32, 33, 34, 35, 36, 37, 38, 39, 40, 41, 42] (by decide +kernel) (by decide +kernel)
set_option maxRecDepth 20000 in
theorem gX4_readingOf_X4_comesTo : GoodIn wsX4_readingOf (wsV RX4 88 RX4 yX4_comesTo wsX4_comesTo) := goodIn_app (goodIn_of _ (by decide +kernel)) ggX4_readingOf_X4_comesTo
set_option maxRecDepth 20000 in
theorem ggX4_readingOf_X4_clockOf : GoodIn wsX4_readingOf wsX4_clockOf := goodIn_r _ [31, 15, 16, 17, 5, 18, 19, 32, 33, 34, 35, 36, 37, 38, 39, 40, 41, 42] (by decide +kernel) (by decide +kernel)
set_option maxRecDepth 20000 in
theorem gX4_readingOf_X4_clockOf : GoodIn wsX4_readingOf (wsV RX4 71 RX4 yX4_clockOf wsX4_clockOf) := goodIn_app (goodIn_of _ (by decide +kernel)) ggX4_readingOf_X4_clockOf
set_option maxRecDepth 20000 in
theorem ggX4_comes_X4_isHalo : GoodIn wsX4_comes wsX4_isHalo := goodIn_r _ [6, 7, 8, 9, 5, 10, 38, 39, 40, 41, 42, 43, 44, 45, 46, 47, 48] (by decide +kernel) (by decide +kernel)
set_option maxRecDepth 20000 in
theorem gX4_comes_X4_isHalo : GoodIn wsX4_comes (wsV RX4 92 RX4 yX4_isHalo wsX4_isHalo) := goodIn_app (goodIn_of _ (by decide +kernel)) ggX4_comes_X4_isHalo
set_option maxRecDepth 20000 in
theorem ggX4_comes_X4_isStation : GoodIn wsX4_comes wsX4_isStation := goodIn_r _ [14, 15, 8, 9, 5, 10, 38, 39, 40, 41, 42, 43, 44, 45, 46, 47, 48] (by decide +kernel) (by decide +kernel)
set_option maxRecDepth 20000 in
theorem gX4_comes_X4_isStation : GoodIn wsX4_comes (wsV RX4 52 RX4 yX4_isStation wsX4_isStation) := goodIn_app (goodIn_of _ (by decide +kernel)) ggX4_comes_X4_isStation
set_option maxRecDepth 20000 in
theorem ggX4_comes_X4_comesTo : GoodIn wsX4_comes wsX4_comesTo := goodIn_r _ [19, 20, 21, 22, 23, 24, 25, 26, 5, 27, 28, 29, 30, 31, 32, 33, 38, 39, 40, 41, 42, 43, 44, 45, 46, 47, 48] (by decide +kernel) (by decide +kernel)
set_option maxRecDepth 20000 in
theorem gX4_comes_X4_comesTo : GoodIn wsX4_comes (wsV RX4 88 RX4 yX4_comesTo wsX4_comesTo) := goodIn_app (goodIn_of _ (by decide +kernel)) ggX4_comes_X4_comesTo
set_option maxRecDepth 20000 in
theorem ggX4_comes_X4_fail : GoodIn wsX4_comes wsX4_fail := goodIn_r _ [37, 1, 38, 39, 40, 41, 42, 43, 44, 45, 46, 47, 48] (by decide +kernel) (by decide +kernel)
set_option maxRecDepth 20000 in
theorem gX4_comes_X4_fail : GoodIn wsX4_comes (wsV RX4 40 RX4 yX4_fail wsX4_fail) := goodIn_app (goodIn_of _ (by decide +kernel)) ggX4_comes_X4_fail
set_option maxRecDepth 20000 in
theorem ggX4_reading_X4_isHalo : GoodIn wsX4_reading wsX4_isHalo := goodIn_r _ [6, 7, 8, 9, 5, 10, 51, 52, 53, 54, 55, 56, 57, 58, 59, 60, 61] (by decide +kernel) (by decide +kernel)
set_option maxRecDepth 20000 in
theorem gX4_reading_X4_isHalo : GoodIn wsX4_reading (wsV RX4 92 RX4 yX4_isHalo wsX4_isHalo) := goodIn_app (goodIn_of _ (by decide +kernel)) ggX4_reading_X4_isHalo
set_option maxRecDepth 20000 in
theorem ggX4_reading_X4_isStation : GoodIn wsX4_reading wsX4_isStation := goodIn_r _ [14, 15, 8, 9, 5, 10, 51, 52, 53, 54, 55, 56, 57, 58, 59, 60, 61] (by decide +kernel) (by decide +kernel)
set_option maxRecDepth 20000 in
theorem gX4_reading_X4_isStation : GoodIn wsX4_reading (wsV RX4 52 RX4 yX4_isStation wsX4_isStation) := goodIn_app (goodIn_of _ (by decide +kernel)) ggX4_reading_X4_isStation
set_option maxRecDepth 20000 in
theorem ggX4_reading_X4_readingOf : GoodIn wsX4_reading wsX4_readingOf := goodIn_r _ [19, 20, 21, 22, 23, 5, 24, 25, 26, 27, 28, 29, 30, 31, 32, 33, 34, 35, 36, 37, 38, 39, 40, 41, 42, 8, 9, 10, 43, 44, 45, 46, 51, 52, 53, 54, 55, 56, 57, 58, 59, 60, 61] (by decide +kernel) (by decide +kernel)
set_option maxRecDepth 20000 in
theorem gX4_reading_X4_readingOf : GoodIn wsX4_reading (wsV RX4 95 RX4 yX4_readingOf wsX4_readingOf) := goodIn_app (goodIn_of _ (by decide +kernel)) ggX4_reading_X4_readingOf
set_option maxRecDepth 20000 in
theorem ggX4_reading_X4_fail : GoodIn wsX4_reading wsX4_fail := goodIn_r _ [50, 1, 51, 52, 53, 54, 55, 56, 57, 58, 59, 60, 61] (by decide +kernel) (by decide +kernel)
set_option maxRecDepth 20000 in
theorem gX4_reading_X4_fail : GoodIn wsX4_reading (wsV RX4 40 RX4 yX4_fail wsX4_fail) := goodIn_app (goodIn_of _ (by decide +kernel)) ggX4_reading_X4_fail
set_option maxRecDepth 20000 in
theorem ggX4_order_X4_isHalo : GoodIn wsX4_order wsX4_isHalo := goodIn_r _ [7, 8, 9, 10, 6, 11, 47, 48, 49, 50, 51, 52, 53, 54, 55, 56, 57] (by decide +kernel) (by decide +kernel)
set_option maxRecDepth 20000 in
theorem gX4_order_X4_isHalo : GoodIn wsX4_order (wsV RX4 92 RX4 yX4_isHalo wsX4_isHalo) := goodIn_app (goodIn_of _ (by decide +kernel)) ggX4_order_X4_isHalo
set_option maxRecDepth 20000 in
theorem ggX4_order_X4_fail : GoodIn wsX4_order wsX4_fail := goodIn_r _ [15, 1, 47, 48, 49, 50, 51, 52, 53, 54, 55, 56, 57] (by decide +kernel) (by decide +kernel)
set_option maxRecDepth 20000 in
theorem gX4_order_X4_fail : GoodIn wsX4_order (wsV RX4 40 RX4 yX4_fail wsX4_fail) := goodIn_app (goodIn_of _ (by decide +kernel)) ggX4_order_X4_fail
set_option maxRecDepth 20000 in
theorem ggX4_order_X4_sees : GoodIn wsX4_order wsX4_sees := goodIn_r _ [19, 20, 21, 22, 6, 23, 24, 25, 26, 27, 28, 29, 30, 31, 32, 33, 34, 35, 36, 37, 9, 10, 11, 47, 48, 49, 50, 51, 52, 53, 54, 55, 56, 57] (by decide +kernel) (by decide +kernel)
set_option maxRecDepth 20000 in
theorem gX4_order_X4_sees : GoodIn wsX4_order (wsV RX4 58 RX4 yX4_sees wsX4_sees) := goodIn_app (goodIn_of _ (by decide +kernel)) ggX4_order_X4_sees
set_option maxRecDepth 20000 in
theorem ggX4_order_X4_readingOf : GoodIn wsX4_order wsX4_readingOf := goodIn_r _ [41, 42, 16, 17, 18, 6, 19, 20, 21, 22, 23, 24, 25, 26, 27, 28, 29, 30, 31, 32, 33, 34, 35, 36, 37, 9, 10, 11, 43, 44, 45, 46, 47, 48, 49, 50, 51, 52, 53, 54, 55, 56, 57] (by decide +kernel) (by decide +kernel)
set_option maxRecDepth 20000 in
theorem gX4_order_X4_readingOf : GoodIn wsX4_order (wsV RX4 95 RX4 yX4_readingOf wsX4_readingOf) := goodIn_app (goodIn_of _ (by decide +kernel)) ggX4_order_X4_readingOf
set_option maxRecDepth 20000 in
theorem ggX4_along_X4_get : GoodIn wsX4_along wsX4_get := goodIn_r _ [7, 8, 9, 10, 11, 12, 13, 14, 15, 16, 17, 18, 19] (by decide +kernel) (by decide +kernel)
set_option maxRecDepth 20000 in
theorem gX4_along_X4_get : GoodIn wsX4_along (wsV RX4 44 RX4 yX4_get wsX4_get) := goodIn_app (goodIn_of _ (by decide +kernel)) ggX4_along_X4_get
set_option maxRecDepth 20000 in
theorem ggX4_reckon_X4_next : GoodIn wsX4_reckon wsX4_next := goodIn_r _ [12, 13, 14, 15, 16, 11, 17, 18, 56, 57, 58, 59, 60, 61, 62, 63, 64, 65, 66] (by decide +kernel) (by decide +kernel)
set_option maxRecDepth 20000 in
theorem gX4_reckon_X4_next : GoodIn wsX4_reckon (wsV RX4 106 RX4 yX4_next wsX4_next) := goodIn_app (goodIn_of _ (by decide +kernel)) ggX4_reckon_X4_next
set_option maxRecDepth 20000 in
theorem ggX4_reckon_X4_sees : GoodIn wsX4_reckon wsX4_sees := goodIn_r _ [22, 23, 24, 25, 11, 26, 27, 28, 29, 30, 14, 15, 16, 17, 18, 31, 32, 33, 34, 35, 36, 37, 38, 56, 57, 58, 59, 60, 61, 62, 63, 64, 65, 66] (by decide +kernel) (by decide +kernel)
set_option maxRecDepth 20000 in
theorem gX4_reckon_X4_sees : GoodIn wsX4_reckon (wsV RX4 58 RX4 yX4_sees wsX4_sees) := goodIn_app (goodIn_of _ (by decide +kernel)) ggX4_reckon_X4_sees
set_option maxRecDepth 20000 in
theorem ggX4_reckon_X4_readingOf : GoodIn wsX4_reckon wsX4_readingOf := goodIn_r _ [42, 4, 19, 20, 21, 11, 22, 23, 24, 25, 26, 27, 28, 29, 30, 14, 15, 16, 17, 18, 31, 32, 33, 34, 35, 36, 37, 38, 43, 44, 45, 46, 56, 57, 58, 59, 60, 61, 62, 63, 64, 65, 66] (by decide +kernel) (by decide +kernel)
set_option maxRecDepth 20000 in
theorem gX4_reckon_X4_readingOf : GoodIn wsX4_reckon (wsV RX4 95 RX4 yX4_readingOf wsX4_readingOf) := goodIn_app (goodIn_of _ (by decide +kernel)) ggX4_reckon_X4_readingOf
set_option maxRecDepth 20000 in
theorem ggX4_reckon_X4_get : GoodIn wsX4_reckon wsX4_get := goodIn_r _ [17, 18, 56, 57, 58, 59, 60, 61, 62, 63, 64, 65, 66] (by decide +kernel) (by decide +kernel)
set_option maxRecDepth 20000 in
theorem gX4_reckon_X4_get : GoodIn wsX4_reckon (wsV RX4 44 RX4 yX4_get wsX4_get) := goodIn_app (goodIn_of _ (by decide +kernel)) ggX4_reckon_X4_get
set_option maxRecDepth 20000 in
theorem ggX4_reckon_X4_middle : GoodIn wsX4_reckon wsX4_middle := goodIn_r _ [50, 7, 56, 57, 58, 59, 60, 61, 62, 63, 64, 65, 66] (by decide +kernel) (by decide +kernel)
set_option maxRecDepth 20000 in
theorem gX4_reckon_X4_middle : GoodIn wsX4_reckon (wsV RX4 112 RX4 yX4_middle wsX4_middle) := goodIn_app (goodIn_of _ (by decide +kernel)) ggX4_reckon_X4_middle
set_option maxRecDepth 20000 in
theorem ggX4_reckon_X4_along : GoodIn wsX4_reckon wsX4_along := goodIn_r _ [54, 5, 55, 14, 15, 16, 11, 17, 18, 56, 57, 58, 59, 60, 61, 62, 63, 64, 65, 66] (by decide +kernel) (by decide +kernel)
set_option maxRecDepth 20000 in
theorem gX4_reckon_X4_along : GoodIn wsX4_reckon (wsV RX4 115 RX4 yX4_along wsX4_along) := goodIn_app (goodIn_of _ (by decide +kernel)) ggX4_reckon_X4_along
set_option maxRecDepth 20000 in
theorem ggX4_next_X4_get : GoodIn wsX4_next wsX4_get := goodIn_r _ [6, 7, 8, 9, 10, 11, 12, 13, 14, 15, 16, 17, 18] (by decide +kernel) (by decide +kernel)
set_option maxRecDepth 20000 in
theorem gX4_next_X4_get : GoodIn wsX4_next (wsV RX4 44 RX4 yX4_get wsX4_get) := goodIn_app (goodIn_of _ (by decide +kernel)) ggX4_next_X4_get
set_option maxRecDepth 20000 in
theorem ggX4_left_X4_along : GoodIn wsX4_left wsX4_along := goodIn_r _ [8, 9, 10, 11, 12, 13, 7, 14, 15, 16, 17, 18, 19, 20, 21, 22, 23, 24, 25, 26] (by decide +kernel) (by decide +kernel)
set_option maxRecDepth 20000 in
theorem gX4_left_X4_along : GoodIn wsX4_left (wsV RX4 115 RX4 yX4_along wsX4_along) := goodIn_app (goodIn_of _ (by decide +kernel)) ggX4_left_X4_along
set_option maxRecDepth 20000 in
theorem ggX4_odd_X4_left : GoodIn wsX4_odd wsX4_left := goodIn_r _ [11, 12, 6, 13, 14, 15, 16, 10, 17, 18, 19, 20, 21, 22, 23, 24, 25, 26, 27, 28, 29, 30, 31, 32, 33, 34, 35] (by decide +kernel) (by decide +kernel)
set_option maxRecDepth 20000 in
theorem gX4_odd_X4_left : GoodIn wsX4_odd (wsV RX4 118 RX4 yX4_left wsX4_left) := goodIn_app (goodIn_of _ (by decide +kernel)) ggX4_odd_X4_left
set_option maxRecDepth 20000 in
theorem ggX4_haloTold_X4_reckon : GoodIn wsX4_haloTold wsX4_reckon := goodIn_r _ [15, 1, 5, 10, 4, 2, 3, 16, 17, 18, 19, 14, 20, 21, 22, 23, 24, 25, 26, 27, 28, 29, 30, 31, 32, 33, 34, 35, 36, 8, 37, 38, 39, 40, 41, 42, 43, 44, 45, 46, 47, 48, 49, 50, 51, 52, 53, 54, 55, 56, 57, 58, 59, 60, 61, 62, 75, 76, 77, 78, 79, 80, 81, 82, 83, 84, 85] (by decide +kernel) (by decide +kernel)
set_option maxRecDepth 20000 in
theorem gX4_haloTold_X4_reckon : GoodIn wsX4_haloTold (wsV RX4 124 RX4 yX4_reckon wsX4_reckon) := goodIn_app (goodIn_of _ (by decide +kernel)) ggX4_haloTold_X4_reckon
set_option maxRecDepth 20000 in
theorem ggX4_haloTold_X4_odd : GoodIn wsX4_haloTold wsX4_odd := goodIn_r _ [66, 1, 35, 36, 8, 37, 5, 67, 68, 69, 14, 70, 10, 3, 58, 59, 60, 61, 2, 62, 22, 23, 24, 25, 26, 75, 76, 77, 78, 79, 80, 81, 82, 83, 84, 85] (by decide +kernel) (by decide +kernel)
set_option maxRecDepth 20000 in
theorem gX4_haloTold_X4_odd : GoodIn wsX4_haloTold (wsV RX4 128 RX4 yX4_odd wsX4_odd) := goodIn_app (goodIn_of _ (by decide +kernel)) ggX4_haloTold_X4_odd
set_option maxRecDepth 20000 in
theorem ggX4_haloTold_X4_left : GoodIn wsX4_haloTold wsX4_left := goodIn_r _ [70, 10, 5, 3, 58, 59, 60, 14, 61, 2, 62, 22, 23, 24, 25, 26, 75, 76, 77, 78, 79, 80, 81, 82, 83, 84, 85] (by decide +kernel) (by decide +kernel)
set_option maxRecDepth 20000 in
theorem gX4_haloTold_X4_left : GoodIn wsX4_haloTold (wsV RX4 118 RX4 yX4_left wsX4_left) := goodIn_app (goodIn_of _ (by decide +kernel)) ggX4_haloTold_X4_left
set_option maxRecDepth 20000 in
theorem ggX4_haloTold_X4_steady : GoodIn wsX4_haloTold wsX4_steady := goodIn_r _ [74, 1, 16, 10, 6, 7, 8, 9, 75, 76, 77, 78, 79, 80, 81, 82, 83, 84, 85] (by decide +kernel) (by decide +kernel)
set_option maxRecDepth 20000 in
theorem gX4_haloTold_X4_steady : GoodIn wsX4_haloTold (wsV RX4 132 RX4 yX4_steady wsX4_steady) := goodIn_app (goodIn_of _ (by decide +kernel)) ggX4_haloTold_X4_steady
set_option maxRecDepth 20000 in
theorem ggX4_halo_X4_isHalo : GoodIn wsX4_halo wsX4_isHalo := goodIn_r _ [6, 7, 8, 9, 5, 10, 89, 90, 91, 92, 93, 94, 95, 96, 97, 98, 99] (by decide +kernel) (by decide +kernel)
set_option maxRecDepth 20000 in
theorem gX4_halo_X4_isHalo : GoodIn wsX4_halo (wsV RX4 92 RX4 yX4_isHalo wsX4_isHalo) := goodIn_app (goodIn_of _ (by decide +kernel)) ggX4_halo_X4_isHalo
set_option maxRecDepth 20000 in
theorem ggX4_halo_X4_isIn : GoodIn wsX4_halo wsX4_isIn := goodIn_r _ [10] (by decide +kernel) (by decide +kernel)
set_option maxRecDepth 20000 in
theorem gX4_halo_X4_isIn : GoodIn wsX4_halo (va_wsS RX4 30 yX4_isIn wsX4_isIn) := goodIn_app (goodIn_of _ (by decide +kernel)) ggX4_halo_X4_isIn
set_option maxRecDepth 20000 in
theorem ggX4_halo_X4_haloTold : GoodIn wsX4_halo wsX4_haloTold := goodIn_r _ [14, 15, 16, 17, 18, 19, 20, 21, 22, 23, 24, 25, 26, 27, 5, 28, 29, 30, 31, 32, 33, 34, 35, 36, 37, 38, 39, 40, 41, 42, 43, 44, 45, 46, 47, 48, 49, 50, 51, 52, 53, 54, 55, 8, 9, 10, 56, 57, 58, 59, 60, 61, 62, 63, 64, 65, 66, 67, 68, 69, 70, 71, 72, 73, 74, 75, 76, 77, 78, 79, 80, 81, 82, 83, 84, 89, 90, 91, 92, 93, 94, 95, 96, 97, 98, 99] (by decide +kernel) (by decide +kernel)
set_option maxRecDepth 20000 in
theorem gX4_halo_X4_haloTold : GoodIn wsX4_halo (wsV RX4 135 RX4 yX4_haloTold wsX4_haloTold) := goodIn_app (goodIn_of _ (by decide +kernel)) ggX4_halo_X4_haloTold
set_option maxRecDepth 20000 in
theorem ggX4_halo_X4_fail : GoodIn wsX4_halo wsX4_fail := goodIn_r _ [88, 1, 89, 90, 91, 92, 93, 94, 95, 96, 97, 98, 99] (by decide +kernel) (by decide +kernel)
set_option maxRecDepth 20000 in
theorem gX4_halo_X4_fail : GoodIn wsX4_halo (wsV RX4 40 RX4 yX4_fail wsX4_fail) := goodIn_app (goodIn_of _ (by decide +kernel)) ggX4_halo_X4_fail
set_option maxRecDepth 20000 in
theorem ggX4_guessOf_X4_along : GoodIn wsX4_guessOf wsX4_along := goodIn_r _ [8, 9, 10, 11, 12, 13, 7, 14, 15, 16, 17, 18, 19, 20, 21, 22, 23, 24, 25, 26] (by decide +kernel) (by decide +kernel)
set_option maxRecDepth 20000 in
theorem gX4_guessOf_X4_along : GoodIn wsX4_guessOf (wsV RX4 115 RX4 yX4_along wsX4_along) := goodIn_app (goodIn_of _ (by decide +kernel)) ggX4_guessOf_X4_along
set_option maxRecDepth 20000 in
theorem ggX4_guess_X4_isHalo : GoodIn wsX4_guess wsX4_isHalo := goodIn_r _ [6, 7, 8, 9, 5, 10, 78, 79, 80, 81, 82, 83, 84, 85, 86, 87, 88] (by decide +kernel) (by decide +kernel)
set_option maxRecDepth 20000 in
theorem gX4_guess_X4_isHalo : GoodIn wsX4_guess (wsV RX4 92 RX4 yX4_isHalo wsX4_isHalo) := goodIn_app (goodIn_of _ (by decide +kernel)) ggX4_guess_X4_isHalo
set_option maxRecDepth 20000 in
theorem ggX4_guess_X4_isStation : GoodIn wsX4_guess wsX4_isStation := goodIn_r _ [14, 15, 8, 9, 5, 10, 78, 79, 80, 81, 82, 83, 84, 85, 86, 87, 88] (by decide +kernel) (by decide +kernel)
set_option maxRecDepth 20000 in
theorem gX4_guess_X4_isStation : GoodIn wsX4_guess (wsV RX4 52 RX4 yX4_isStation wsX4_isStation) := goodIn_app (goodIn_of _ (by decide +kernel)) ggX4_guess_X4_isStation
set_option maxRecDepth 20000 in
theorem ggX4_guess_X4_fail : GoodIn wsX4_guess wsX4_fail := goodIn_r _ [19, 1, 78, 79, 80, 81, 82, 83, 84, 85, 86, 87, 88] (by decide +kernel) (by decide +kernel)
set_option maxRecDepth 20000 in
theorem gX4_guess_X4_fail : GoodIn wsX4_guess (wsV RX4 40 RX4 yX4_fail wsX4_fail) := goodIn_app (goodIn_of _ (by decide +kernel)) ggX4_guess_X4_fail
set_option maxRecDepth 20000 in
theorem ggX4_guess_X4_reckon : GoodIn wsX4_guess wsX4_reckon := goodIn_r _ [23, 24, 25, 26, 27, 28, 29, 30, 31, 32, 33, 5, 34, 15, 35, 36, 37, 38, 39, 40, 41, 42, 43, 44, 45, 46, 47, 48, 49, 50, 51, 52, 53, 54, 55, 56, 8, 9, 10, 57, 58, 59, 60, 61, 62, 63, 64, 65, 66, 67, 68, 69, 70, 71, 72, 73, 78, 79, 80, 81, 82, 83, 84, 85, 86, 87, 88] (by decide +kernel) (by decide +kernel)
set_option maxRecDepth 20000 in
theorem gX4_guess_X4_reckon : GoodIn wsX4_guess (wsV RX4 124 RX4 yX4_reckon wsX4_reckon) := goodIn_app (goodIn_of _ (by decide +kernel)) ggX4_guess_X4_reckon
set_option maxRecDepth 20000 in
theorem ggX4_guess_X4_guessOf : GoodIn wsX4_guess wsX4_guessOf := goodIn_r _ [77, 24, 27, 29, 69, 70, 71, 5, 72, 28, 73, 35, 36, 37, 38, 39, 78, 79, 80, 81, 82, 83, 84, 85, 86, 87, 88] (by decide +kernel) (by decide +kernel)
set_option maxRecDepth 20000 in
theorem gX4_guess_X4_guessOf : GoodIn wsX4_guess (wsV RX4 138 RX4 yX4_guessOf wsX4_guessOf) := goodIn_app (goodIn_of _ (by decide +kernel)) ggX4_guess_X4_guessOf
set_option maxRecDepth 20000 in
theorem ggX4_blame_X4_isStation : GoodIn wsX4_blame wsX4_isStation := goodIn_r _ [9, 10, 11, 12, 8, 13, 78, 79, 80, 81, 82, 83, 84, 85, 86, 87, 88] (by decide +kernel) (by decide +kernel)
set_option maxRecDepth 20000 in
theorem gX4_blame_X4_isStation : GoodIn wsX4_blame (wsV RX4 52 RX4 yX4_isStation wsX4_isStation) := goodIn_app (goodIn_of _ (by decide +kernel)) ggX4_blame_X4_isStation
set_option maxRecDepth 20000 in
theorem ggX4_blame_X4_fail : GoodIn wsX4_blame wsX4_fail := goodIn_r _ [17, 1, 78, 79, 80, 81, 82, 83, 84, 85, 86, 87, 88] (by decide +kernel) (by decide +kernel)
set_option maxRecDepth 20000 in
theorem gX4_blame_X4_fail : GoodIn wsX4_blame (wsV RX4 40 RX4 yX4_fail wsX4_fail) := goodIn_app (goodIn_of _ (by decide +kernel)) ggX4_blame_X4_fail
set_option maxRecDepth 20000 in
theorem ggX4_blame_X4_reckon : GoodIn wsX4_blame wsX4_reckon := goodIn_r _ [21, 3, 4, 22, 23, 24, 25, 26, 27, 28, 29, 8, 30, 10, 31, 32, 33, 34, 35, 36, 37, 38, 39, 40, 41, 42, 43, 44, 45, 46, 47, 48, 49, 50, 51, 52, 11, 12, 13, 53, 54, 55, 56, 57, 58, 59, 60, 61, 62, 63, 64, 65, 66, 67, 68, 69, 78, 79, 80, 81, 82, 83, 84, 85, 86, 87, 88] (by decide +kernel) (by decide +kernel)
set_option maxRecDepth 20000 in
theorem gX4_blame_X4_reckon : GoodIn wsX4_blame (wsV RX4 124 RX4 yX4_reckon wsX4_reckon) := goodIn_app (goodIn_of _ (by decide +kernel)) ggX4_blame_X4_reckon
set_option maxRecDepth 20000 in
theorem ggX4_blame_X4_odd : GoodIn wsX4_blame wsX4_odd := goodIn_r _ [73, 3, 44, 45, 46, 47, 4, 74, 75, 76, 8, 77, 22, 25, 65, 66, 67, 68, 24, 69, 31, 32, 33, 34, 35, 78, 79, 80, 81, 82, 83, 84, 85, 86, 87, 88] (by decide +kernel) (by decide +kernel)
set_option maxRecDepth 20000 in
theorem gX4_blame_X4_odd : GoodIn wsX4_blame (wsV RX4 128 RX4 yX4_odd wsX4_odd) := goodIn_app (goodIn_of _ (by decide +kernel)) ggX4_blame_X4_odd
set_option maxRecDepth 20000 in
theorem ggX4_advise_X4_isStation : GoodIn wsX4_advise wsX4_isStation := goodIn_r _ [14, 15, 16, 17, 13, 18, 79, 80, 81, 82, 83, 84, 85, 86, 87, 88, 89] (by decide +kernel) (by decide +kernel)
set_option maxRecDepth 20000 in
theorem gX4_advise_X4_isStation : GoodIn wsX4_advise (wsV RX4 52 RX4 yX4_isStation wsX4_isStation) := goodIn_app (goodIn_of _ (by decide +kernel)) ggX4_advise_X4_isStation
set_option maxRecDepth 20000 in
theorem ggX4_advise_X4_fail : GoodIn wsX4_advise wsX4_fail := goodIn_r _ [22, 1, 79, 80, 81, 82, 83, 84, 85, 86, 87, 88, 89] (by decide +kernel) (by decide +kernel)
set_option maxRecDepth 20000 in
theorem gX4_advise_X4_fail : GoodIn wsX4_advise (wsV RX4 40 RX4 yX4_fail wsX4_fail) := goodIn_app (goodIn_of _ (by decide +kernel)) ggX4_advise_X4_fail
set_option maxRecDepth 20000 in
theorem ggX4_advise_X4_reckon : GoodIn wsX4_advise wsX4_reckon := goodIn_r _ [26, 4, 27, 28, 29, 30, 31, 5, 32, 33, 34, 13, 35, 15, 36, 37, 38, 39, 40, 41, 42, 43, 44, 45, 46, 47, 48, 49, 50, 51, 52, 53, 54, 55, 56, 57, 16, 17, 18, 58, 59, 60, 61, 62, 63, 64, 65, 66, 67, 68, 69, 70, 71, 72, 73, 74, 79, 80, 81, 82, 83, 84, 85, 86, 87, 88, 89] (by decide +kernel) (by decide +kernel)
set_option maxRecDepth 20000 in
theorem gX4_advise_X4_reckon : GoodIn wsX4_advise (wsV RX4 124 RX4 yX4_reckon wsX4_reckon) := goodIn_app (goodIn_of _ (by decide +kernel)) ggX4_advise_X4_reckon
set_option maxRecDepth 20000 in
theorem ggX4_advise_X4_sees : GoodIn wsX4_advise wsX4_sees := goodIn_r _ [44, 45, 46, 47, 13, 48, 49, 50, 51, 52, 36, 37, 38, 39, 40, 53, 54, 55, 56, 57, 16, 17, 18, 79, 80, 81, 82, 83, 84, 85, 86, 87, 88, 89] (by decide +kernel) (by decide +kernel)
set_option maxRecDepth 20000 in
theorem gX4_advise_X4_sees : GoodIn wsX4_advise (wsV RX4 58 RX4 yX4_sees wsX4_sees) := goodIn_app (goodIn_of _ (by decide +kernel)) ggX4_advise_X4_sees
set_option maxRecDepth 20000 in
theorem ggX4_advise_X4_readingOf : GoodIn wsX4_advise wsX4_readingOf := goodIn_r _ [61, 29, 41, 42, 43, 13, 44, 45, 46, 47, 48, 49, 50, 51, 52, 36, 37, 38, 39, 40, 53, 54, 55, 56, 57, 16, 17, 18, 62, 63, 64, 65, 79, 80, 81, 82, 83, 84, 85, 86, 87, 88, 89] (by decide +kernel) (by decide +kernel)
set_option maxRecDepth 20000 in
theorem gX4_advise_X4_readingOf : GoodIn wsX4_advise (wsV RX4 95 RX4 yX4_readingOf wsX4_readingOf) := goodIn_app (goodIn_of _ (by decide +kernel)) ggX4_advise_X4_readingOf
set_option maxRecDepth 20000 in
theorem ggX4_advise_X4_guessOf : GoodIn wsX4_advise wsX4_guessOf := goodIn_r _ [78, 4, 29, 31, 70, 71, 72, 13, 73, 30, 74, 36, 37, 38, 39, 40, 79, 80, 81, 82, 83, 84, 85, 86, 87, 88, 89] (by decide +kernel) (by decide +kernel)
set_option maxRecDepth 20000 in
theorem gX4_advise_X4_guessOf : GoodIn wsX4_advise (wsV RX4 138 RX4 yX4_guessOf wsX4_guessOf) := goodIn_app (goodIn_of _ (by decide +kernel)) ggX4_advise_X4_guessOf
set_option maxRecDepth 20000 in
theorem ggX4_advise_X4_get : GoodIn wsX4_advise wsX4_get := goodIn_r _ [39, 40, 79, 80, 81, 82, 83, 84, 85, 86, 87, 88, 89] (by decide +kernel) (by decide +kernel)
set_option maxRecDepth 20000 in
theorem gX4_advise_X4_get : GoodIn wsX4_advise (wsV RX4 44 RX4 yX4_get wsX4_get) := goodIn_app (goodIn_of _ (by decide +kernel)) ggX4_advise_X4_get
set_option maxRecDepth 20000 in
theorem ggX4_advise_X4_middle : GoodIn wsX4_advise wsX4_middle := goodIn_r _ [69, 5, 79, 80, 81, 82, 83, 84, 85, 86, 87, 88, 89] (by decide +kernel) (by decide +kernel)
set_option maxRecDepth 20000 in
theorem gX4_advise_X4_middle : GoodIn wsX4_advise (wsV RX4 112 RX4 yX4_middle wsX4_middle) := goodIn_app (goodIn_of _ (by decide +kernel)) ggX4_advise_X4_middle
set_option maxRecDepth 20000 in
theorem ggX4_wire_X4_isStation : GoodIn wsX4_wire wsX4_isStation := goodIn_r _ [10, 11, 12, 13, 9, 14, 32, 33, 34, 35, 36, 37, 38, 39, 40, 41, 42] (by decide +kernel) (by decide +kernel)
set_option maxRecDepth 20000 in
theorem gX4_wire_X4_isStation : GoodIn wsX4_wire (wsV RX4 52 RX4 yX4_isStation wsX4_isStation) := goodIn_app (goodIn_of _ (by decide +kernel)) ggX4_wire_X4_isStation
set_option maxRecDepth 20000 in
theorem ggX4_wire_X4_fail : GoodIn wsX4_wire wsX4_fail := goodIn_r _ [18, 1, 32, 33, 34, 35, 36, 37, 38, 39, 40, 41, 42] (by decide +kernel) (by decide +kernel)
set_option maxRecDepth 20000 in
theorem gX4_wire_X4_fail : GoodIn wsX4_wire (wsV RX4 40 RX4 yX4_fail wsX4_fail) := goodIn_app (goodIn_of _ (by decide +kernel)) ggX4_wire_X4_fail
set_option maxRecDepth 20000 in
theorem ggX4_wire_X4_isTime : GoodIn wsX4_wire wsX4_isTime := goodIn_r _ [21, 22, 12, 13, 9, 14] (by decide +kernel) (by decide +kernel)
set_option maxRecDepth 20000 in
theorem gX4_wire_X4_isTime : GoodIn wsX4_wire (va_wsS RX4 68 yX4_isTime wsX4_isTime) := goodIn_app (goodIn_of _ (by decide +kernel)) ggX4_wire_X4_isTime
set_option maxRecDepth 20000 in
theorem ggX4_wire_X4_get : GoodIn wsX4_wire wsX4_get := goodIn_r _ [26, 27, 32, 33, 34, 35, 36, 37, 38, 39, 40, 41, 42] (by decide +kernel) (by decide +kernel)
set_option maxRecDepth 20000 in
theorem gX4_wire_X4_get : GoodIn wsX4_wire (wsV RX4 44 RX4 yX4_get wsX4_get) := goodIn_app (goodIn_of _ (by decide +kernel)) ggX4_wire_X4_get
set_option maxRecDepth 20000 in
theorem ggX4_wire_X4_clockOf : GoodIn wsX4_wire wsX4_clockOf := goodIn_r _ [31, 23, 24, 25, 9, 26, 27, 32, 33, 34, 35, 36, 37, 38, 39, 40, 41, 42] (by decide +kernel) (by decide +kernel)
set_option maxRecDepth 20000 in
theorem gX4_wire_X4_clockOf : GoodIn wsX4_wire (wsV RX4 71 RX4 yX4_clockOf wsX4_clockOf) := goodIn_app (goodIn_of _ (by decide +kernel)) ggX4_wire_X4_clockOf
set_option maxRecDepth 20000 in
theorem ggX4_align_X4_isStation : GoodIn wsX4_align wsX4_isStation := goodIn_r _ [9, 2, 10, 11, 8, 12, 34, 35, 36, 37, 38, 39, 40, 41, 42, 43, 44] (by decide +kernel) (by decide +kernel)
set_option maxRecDepth 20000 in
theorem gX4_align_X4_isStation : GoodIn wsX4_align (wsV RX4 52 RX4 yX4_isStation wsX4_isStation) := goodIn_app (goodIn_of _ (by decide +kernel)) ggX4_align_X4_isStation
set_option maxRecDepth 20000 in
theorem ggX4_align_X4_fail : GoodIn wsX4_align wsX4_fail := goodIn_r _ [16, 1, 34, 35, 36, 37, 38, 39, 40, 41, 42, 43, 44] (by decide +kernel) (by decide +kernel)
set_option maxRecDepth 20000 in
theorem gX4_align_X4_fail : GoodIn wsX4_align (wsV RX4 40 RX4 yX4_fail wsX4_fail) := goodIn_app (goodIn_of _ (by decide +kernel)) ggX4_align_X4_fail
set_option maxRecDepth 20000 in
theorem ggX4_align_X4_isTime : GoodIn wsX4_align wsX4_isTime := goodIn_r _ [19, 20, 10, 11, 8, 12] (by decide +kernel) (by decide +kernel)
set_option maxRecDepth 20000 in
theorem gX4_align_X4_isTime : GoodIn wsX4_align (va_wsS RX4 68 yX4_isTime wsX4_isTime) := goodIn_app (goodIn_of _ (by decide +kernel)) ggX4_align_X4_isTime
set_option maxRecDepth 20000 in
theorem ggX4_align_X4_clockOf : GoodIn wsX4_align wsX4_clockOf := goodIn_r _ [24, 25, 26, 27, 8, 28, 29, 34, 35, 36, 37, 38, 39, 40, 41, 42, 43, 44] (by decide +kernel) (by decide +kernel)
set_option maxRecDepth 20000 in
theorem gX4_align_X4_clockOf : GoodIn wsX4_align (wsV RX4 71 RX4 yX4_clockOf wsX4_clockOf) := goodIn_app (goodIn_of _ (by decide +kernel)) ggX4_align_X4_clockOf
set_option maxRecDepth 20000 in
theorem ggX4_align_X4_get : GoodIn wsX4_align wsX4_get := goodIn_r _ [28, 29, 34, 35, 36, 37, 38, 39, 40, 41, 42, 43, 44] (by decide +kernel) (by decide +kernel)
set_option maxRecDepth 20000 in
theorem gX4_align_X4_get : GoodIn wsX4_align (wsV RX4 44 RX4 yX4_get wsX4_get) := goodIn_app (goodIn_of _ (by decide +kernel)) ggX4_align_X4_get
set_option maxRecDepth 20000 in
theorem ggX4_align_X4_isIn : GoodIn wsX4_align wsX4_isIn := goodIn_r _ [12] (by decide +kernel) (by decide +kernel)
set_option maxRecDepth 20000 in
theorem gX4_align_X4_isIn : GoodIn wsX4_align (va_wsS RX4 30 yX4_isIn wsX4_isIn) := goodIn_app (goodIn_of _ (by decide +kernel)) ggX4_align_X4_isIn
set_option maxRecDepth 20000 in
theorem ggX4_align_X4_set : GoodIn wsX4_align wsX4_set := goodIn_r _ [33, 29, 34, 35, 36, 37, 38, 39, 40, 41, 42, 43, 44] (by decide +kernel) (by decide +kernel)
set_option maxRecDepth 20000 in
theorem gX4_align_X4_set : GoodIn wsX4_align (wsV RX4 48 RX4 yX4_set wsX4_set) := goodIn_app (goodIn_of _ (by decide +kernel)) ggX4_align_X4_set
set_option maxRecDepth 20000 in
theorem ggX4_spread_X4_isTime : GoodIn wsX4_spread wsX4_isTime := goodIn_r _ [10, 11, 12, 13, 9, 14] (by decide +kernel) (by decide +kernel)
set_option maxRecDepth 20000 in
theorem gX4_spread_X4_isTime : GoodIn wsX4_spread (va_wsS RX4 68 yX4_isTime wsX4_isTime) := goodIn_app (goodIn_of _ (by decide +kernel)) ggX4_spread_X4_isTime
set_option maxRecDepth 20000 in
theorem ggX4_spread_X4_fail : GoodIn wsX4_spread wsX4_fail := goodIn_r _ [18, 1, 28, 29, 30, 31, 32, 33, 34, 35, 36, 37, 38] (by decide +kernel) (by decide +kernel)
set_option maxRecDepth 20000 in
theorem gX4_spread_X4_fail : GoodIn wsX4_spread (wsV RX4 40 RX4 yX4_fail wsX4_fail) := goodIn_app (goodIn_of _ (by decide +kernel)) ggX4_spread_X4_fail
set_option maxRecDepth 20000 in
theorem ggX4_spread_X4_clockOf : GoodIn wsX4_spread wsX4_clockOf := goodIn_r _ [22, 23, 24, 25, 9, 26, 27, 28, 29, 30, 31, 32, 33, 34, 35, 36, 37, 38] (by decide +kernel) (by decide +kernel)
set_option maxRecDepth 20000 in
theorem gX4_spread_X4_clockOf : GoodIn wsX4_spread (wsV RX4 71 RX4 yX4_clockOf wsX4_clockOf) := goodIn_app (goodIn_of _ (by decide +kernel)) ggX4_spread_X4_clockOf
set_option maxRecDepth 20000 in
theorem ggX4_counted_X4_get : GoodIn wsX4_counted wsX4_get := goodIn_r _ [8, 9, 61, 62, 63, 64, 65, 66, 67, 68, 69, 70, 71] (by decide +kernel) (by decide +kernel)
set_option maxRecDepth 20000 in
theorem gX4_counted_X4_get : GoodIn wsX4_counted (wsV RX4 44 RX4 yX4_get wsX4_get) := goodIn_app (goodIn_of _ (by decide +kernel)) ggX4_counted_X4_get
set_option maxRecDepth 20000 in
theorem ggX4_counted_X4_reckon : GoodIn wsX4_counted wsX4_reckon := goodIn_r _ [13, 3, 14, 15, 16, 17, 18, 19, 20, 21, 22, 7, 23, 1, 4, 5, 6, 8, 9, 24, 25, 26, 27, 28, 29, 30, 31, 32, 33, 34, 35, 36, 37, 38, 39, 40, 41, 42, 43, 44, 45, 46, 47, 48, 49, 50, 51, 52, 53, 54, 55, 56, 57, 58, 59, 60, 61, 62, 63, 64, 65, 66, 67, 68, 69, 70, 71] (by decide +kernel) (by decide +kernel)
set_option maxRecDepth 20000 in
theorem gX4_counted_X4_reckon : GoodIn wsX4_counted (wsV RX4 124 RX4 yX4_reckon wsX4_reckon) := goodIn_app (goodIn_of _ (by decide +kernel)) ggX4_counted_X4_reckon
set_option maxRecDepth 20000 in
theorem ggX4_count_X4_isIn : GoodIn wsX4_count wsX4_isIn := goodIn_r _ [5] (by decide +kernel) (by decide +kernel)
set_option maxRecDepth 20000 in
theorem gX4_count_X4_isIn : GoodIn wsX4_count (va_wsS RX4 30 yX4_isIn wsX4_isIn) := goodIn_app (goodIn_of _ (by decide +kernel)) ggX4_count_X4_isIn
set_option maxRecDepth 20000 in
theorem ggX4_count_X4_counted : GoodIn wsX4_count wsX4_counted := goodIn_r _ [9, 10, 11, 12, 13, 14, 15, 4, 16, 17, 18, 19, 20, 21, 22, 23, 24, 25, 26, 27, 28, 29, 30, 31, 32, 33, 34, 35, 36, 37, 38, 39, 40, 41, 42, 43, 44, 45, 46, 47, 48, 2, 3, 5, 49, 50, 51, 52, 53, 54, 55, 56, 57, 58, 59, 60, 61, 62, 63, 64, 65, 70, 71, 72, 73, 74, 75, 76, 77, 78, 79, 80] (by decide +kernel) (by decide +kernel)
set_option maxRecDepth 20000 in
theorem gX4_count_X4_counted : GoodIn wsX4_count (wsV RX4 141 RX4 yX4_counted wsX4_counted) := goodIn_app (goodIn_of _ (by decide +kernel)) ggX4_count_X4_counted
set_option maxRecDepth 20000 in
theorem ggX4_count_X4_fail : GoodIn wsX4_count wsX4_fail := goodIn_r _ [69, 1, 70, 71, 72, 73, 74, 75, 76, 77, 78, 79, 80] (by decide +kernel) (by decide +kernel)
set_option maxRecDepth 20000 in
theorem gX4_count_X4_fail : GoodIn wsX4_count (wsV RX4 40 RX4 yX4_fail wsX4_fail) := goodIn_app (goodIn_of _ (by decide +kernel)) ggX4_count_X4_fail
set_option maxRecDepth 20000 in
theorem ggX4_error_X4_isHalo : GoodIn wsX4_error wsX4_isHalo := goodIn_r _ [11, 12, 13, 14, 10, 15, 70, 71, 72, 73, 74, 75, 76, 77, 78, 79, 80] (by decide +kernel) (by decide +kernel)
set_option maxRecDepth 20000 in
theorem gX4_error_X4_isHalo : GoodIn wsX4_error (wsV RX4 92 RX4 yX4_isHalo wsX4_isHalo) := goodIn_app (goodIn_of _ (by decide +kernel)) ggX4_error_X4_isHalo
set_option maxRecDepth 20000 in
theorem ggX4_error_X4_reckon : GoodIn wsX4_error wsX4_reckon := goodIn_r _ [19, 2, 20, 21, 22, 23, 24, 25, 26, 27, 28, 10, 29, 30, 31, 32, 33, 34, 35, 36, 37, 38, 39, 40, 41, 42, 43, 3, 4, 5, 6, 44, 45, 46, 47, 48, 13, 14, 15, 49, 50, 51, 52, 53, 54, 55, 56, 57, 58, 59, 60, 61, 62, 63, 64, 65, 70, 71, 72, 73, 74, 75, 76, 77, 78, 79, 80] (by decide +kernel) (by decide +kernel)
set_option maxRecDepth 20000 in
theorem gX4_error_X4_reckon : GoodIn wsX4_error (wsV RX4 124 RX4 yX4_reckon wsX4_reckon) := goodIn_app (goodIn_of _ (by decide +kernel)) ggX4_error_X4_reckon
set_option maxRecDepth 20000 in
theorem ggX4_error_X4_left : GoodIn wsX4_error wsX4_left := goodIn_r _ [69, 21, 20, 24, 61, 62, 63, 10, 64, 23, 65, 31, 32, 33, 34, 35, 70, 71, 72, 73, 74, 75, 76, 77, 78, 79, 80] (by decide +kernel) (by decide +kernel)
set_option maxRecDepth 20000 in
theorem gX4_error_X4_left : GoodIn wsX4_error (wsV RX4 118 RX4 yX4_left wsX4_left) := goodIn_app (goodIn_of _ (by decide +kernel)) ggX4_error_X4_left
set_option maxRecDepth 20000 in
theorem ggX4_digest_X4_counted : GoodIn wsX4_digest wsX4_counted := goodIn_r _ [10, 4, 5, 11, 12, 13, 14, 9, 15, 16, 17, 18, 19, 20, 21, 22, 23, 24, 25, 26, 27, 28, 29, 30, 31, 32, 33, 34, 35, 36, 37, 38, 39, 40, 41, 42, 43, 44, 45, 46, 47, 48, 49, 50, 51, 52, 53, 54, 55, 56, 57, 58, 59, 60, 61, 62, 63, 64, 65, 66, 67, 95, 96, 97, 98, 99, 100, 101, 102, 103, 104, 105] (by decide +kernel) (by decide +kernel)
set_option maxRecDepth 20000 in
theorem gX4_digest_X4_counted : GoodIn wsX4_digest (wsV RX4 141 RX4 yX4_counted wsX4_counted) := goodIn_app (goodIn_of _ (by decide +kernel)) ggX4_digest_X4_counted
set_option maxRecDepth 20000 in
theorem ggX4_digest_X4_stationTold : GoodIn wsX4_digest wsX4_stationTold := goodIn_r _ [71, 12, 13, 14, 9, 15, 16, 72, 73, 74, 75, 5, 31, 32, 33, 34, 35, 36, 37, 38, 39, 40, 41, 42, 43, 44, 45, 46, 47, 48, 49, 50, 95, 96, 97, 98, 99, 100, 101, 102, 103, 104, 105] (by decide +kernel) (by decide +kernel)
set_option maxRecDepth 20000 in
theorem gX4_digest_X4_stationTold : GoodIn wsX4_digest (wsV RX4 65 RX4 yX4_stationTold wsX4_stationTold) := goodIn_app (goodIn_of _ (by decide +kernel)) ggX4_digest_X4_stationTold
set_option maxRecDepth 20000 in
theorem ggX4_digest_X4_haloTold : GoodIn wsX4_digest wsX4_haloTold := goodIn_r _ [79, 11, 24, 25, 23, 21, 80, 81, 41, 82, 22, 17, 18, 19, 9, 20, 26, 27, 28, 29, 30, 4, 12, 13, 14, 15, 16, 31, 32, 33, 34, 35, 36, 37, 38, 39, 40, 42, 43, 44, 45, 46, 47, 48, 49, 50, 51, 52, 53, 54, 55, 56, 57, 58, 59, 60, 61, 62, 63, 64, 65, 66, 67, 83, 84, 85, 86, 87, 88, 89, 90, 91, 92, 93, 94, 95, 96, 97, 98, 99, 100, 101, 102, 103, 104, 105] (by decide +kernel) (by decide +kernel)
set_option maxRecDepth 20000 in
theorem gX4_digest_X4_haloTold : GoodIn wsX4_digest (wsV RX4 135 RX4 yX4_haloTold wsX4_haloTold) := goodIn_app (goodIn_of _ (by decide +kernel)) ggX4_digest_X4_haloTold
set_option maxRecDepth 20000 in
theorem ggX4_digest_X4_readingOf : GoodIn wsX4_digest wsX4_readingOf := goodIn_r _ [54, 23, 31, 32, 33, 9, 34, 35, 36, 37, 38, 39, 40, 41, 42, 12, 13, 14, 15, 16, 43, 44, 45, 46, 47, 48, 49, 50, 55, 56, 57, 58, 95, 96, 97, 98, 99, 100, 101, 102, 103, 104, 105] (by decide +kernel) (by decide +kernel)
set_option maxRecDepth 20000 in
theorem gX4_digest_X4_readingOf : GoodIn wsX4_digest (wsV RX4 95 RX4 yX4_readingOf wsX4_readingOf) := goodIn_app (goodIn_of _ (by decide +kernel)) ggX4_digest_X4_readingOf
set_option maxRecDepth 20000 in
theorem ggL_build_X3_build : GoodIn wsL_build wsX3_build := goodIn_ca (goodIn_ca (goodIn_r _ [7, 8, 9, 10, 11, 12, 13, 14, 15, 16, 17, 18, 6, 19, 20, 21, 22, 23, 24, 25, 26, 27, 28, 29, 30, 31, 32, 33, 34, 35, 36, 37, 38, 39, 40, 41, 42, 43, 44, 45, 46, 47, 48, 49, 50, 51, 52, 53, 54, 55, 56, 57, 58, 59, 60, 61, 62, 63, 64, 65, 66, 67, 68, 69, 70, 71, 72, 73, 74, 75, 76, 77, 78, 79, 80, 81, 82, 83, 84, 85, 86, 87, 88, 89, 90, 91, 92, 93, 94, 95, 96, 97, 98, 99, 100, 101, 102, 103, 104, 105, 106, 107, 108, 109, 110, 111, 112, 113, 114, 115, 116, 117, 118, 119, 120, 121, 122, 123, 124, 125, 126, 127, 128, 129, 130, 131, 132, 133, 134, 135, 136, 137, 138, 139, 140, 141, 142, 143] (by decide +kernel) (by decide +kernel)) (goodIn_sub (fun _ h => List.mem_cons_of_mem _ (List.mem_append_left _ (List.mem_append_right _ h))) (by decide +kernel))) (goodIn_sub (fun _ h => List.mem_cons_of_mem _ (List.mem_append_right _ h)) (by decide +kernel))
set_option maxRecDepth 20000 in
theorem gL_build_X3_build : GoodIn wsL_build (wsV RL 7 RX3 yX3_build wsX3_build) := goodIn_app (goodIn_of _ (by decide +kernel)) ggL_build_X3_build
set_option maxRecDepth 20000 in
theorem ggL_cloud_X3_cloud : GoodIn wsL_cloud wsX3_cloud := goodIn_ca (goodIn_ca (goodIn_ca (goodIn_r _ [8, 9, 10, 11, 12, 13, 14, 15, 16, 17, 18, 19, 20, 7, 21, 22, 23, 24, 25, 26, 27, 28, 29, 30, 31, 32, 33, 34, 35, 36, 37, 38, 39, 40, 41, 42, 43, 44, 45, 46, 47, 48, 49, 50, 51, 52, 53, 54, 55, 56, 57, 58, 59, 60, 61, 62, 63, 64, 65, 66, 67, 68, 69, 70, 71, 72, 73, 74, 75] (by decide +kernel) (by decide +kernel)) (goodIn_sub (fun _ h => List.mem_cons_of_mem _ (List.mem_append_left _ (List.mem_append_left _ (List.mem_append_right _ h)))) (by decide +kernel))) (goodIn_sub (fun _ h => List.mem_cons_of_mem _ (List.mem_append_left _ (List.mem_append_right _ h))) (by decide +kernel))) (goodIn_sub (fun _ h => List.mem_cons_of_mem _ (List.mem_append_right _ h)) (by decide +kernel))
set_option maxRecDepth 20000 in
theorem gL_cloud_X3_cloud : GoodIn wsL_cloud (wsV RL 17 RX3 yX3_cloud wsX3_cloud) := goodIn_app (goodIn_of _ (by decide +kernel)) ggL_cloud_X3_cloud
set_option maxRecDepth 20000 in
theorem ggL_clear_X3_clear : GoodIn wsL_clear wsX3_clear := goodIn_ca (goodIn_r _ [6, 7, 8, 9, 10, 11, 12, 13, 14, 5, 15, 16, 17, 18, 19, 20, 21, 22, 23, 24, 25, 26, 27, 28, 29, 30, 31, 32, 33, 34, 35, 36, 37, 38, 39, 40, 41, 42, 43, 44, 45, 46, 47, 48, 49, 50, 51, 52, 53, 54, 55, 56, 57] (by decide +kernel) (by decide +kernel)) (goodIn_sub (fun _ h => List.mem_cons_of_mem _ (List.mem_append_right _ h)) (by decide +kernel))
set_option maxRecDepth 20000 in
theorem gL_clear_X3_clear : GoodIn wsL_clear (wsV RL 22 RX3 yX3_clear wsX3_clear) := goodIn_app (goodIn_of _ (by decide +kernel)) ggL_clear_X3_clear
set_option maxRecDepth 20000 in
theorem ggL_correct_X3_correct : GoodIn wsL_correct wsX3_correct := goodIn_ca (goodIn_ca (goodIn_r _ [7, 8, 9, 10, 11, 12, 13, 14, 15, 16, 17, 18, 19, 6, 20, 21, 22, 23, 24, 25, 26, 27, 28, 29, 30, 31, 32, 33, 34, 35, 36, 37, 38, 39, 40, 41, 42, 43, 44, 45, 46, 47, 48, 49, 50, 51, 52, 53, 54, 55, 56, 57, 58, 59, 60, 61, 62] (by decide +kernel) (by decide +kernel)) (goodIn_sub (fun _ h => List.mem_cons_of_mem _ (List.mem_append_left _ (List.mem_append_right _ h))) (by decide +kernel))) (goodIn_sub (fun _ h => List.mem_cons_of_mem _ (List.mem_append_right _ h)) (by decide +kernel))
set_option maxRecDepth 20000 in
theorem gL_correct_X3_correct : GoodIn wsL_correct (wsV RL 26 RX3 yX3_correct wsX3_correct) := goodIn_app (goodIn_of _ (by decide +kernel)) ggL_correct_X3_correct
set_option maxRecDepth 20000 in
theorem ggL_station_X3_station : GoodIn wsL_station wsX3_station := goodIn_ca (goodIn_r _ [6, 7, 8, 9, 10, 11, 12, 13, 5, 14, 15, 16, 17, 18, 19, 20, 21, 22, 23, 24, 25, 26, 27, 28, 29, 30, 31, 32, 33, 34, 35, 36, 37, 38, 39, 40, 41, 42, 43, 44, 45, 46, 47, 48, 49, 50, 51, 52, 53, 54, 55, 56, 57, 58, 59, 60, 61, 62, 63, 64, 65, 66, 67, 68, 69, 70, 71, 72, 73, 74, 75, 76, 77, 78, 79, 80, 81, 82, 83, 84, 85, 86, 87, 88, 89, 90, 91, 92, 93, 94, 95, 96, 97, 98, 99, 100, 101, 102, 103, 104, 105] (by decide +kernel) (by decide +kernel)) (goodIn_sub (fun _ h => List.mem_cons_of_mem _ (List.mem_append_right _ h)) (by decide +kernel))
set_option maxRecDepth 20000 in
theorem gL_station_X3_station : GoodIn wsL_station (wsV RL 30 RX3 yX3_station wsX3_station) := goodIn_app (goodIn_of _ (by decide +kernel)) ggL_station_X3_station
set_option maxRecDepth 20000 in
theorem ggL_clock_X3_clock : GoodIn wsL_clock wsX3_clock := goodIn_ca (goodIn_ca (goodIn_r _ [7, 8, 9, 10, 11, 12, 13, 14, 15, 16, 17, 6, 18, 19, 20, 21, 22, 23, 24, 25, 26, 27, 28, 29, 30, 31, 32, 33, 34, 35, 36, 37, 38, 39, 40, 41, 42, 43, 44, 45, 46, 47, 48, 49, 50, 51, 52, 53, 54, 55, 56, 57, 58, 59, 60, 61, 62, 63, 64, 65, 66, 67, 68, 69, 70, 71, 72] (by decide +kernel) (by decide +kernel)) (goodIn_sub (fun _ h => List.mem_cons_of_mem _ (List.mem_append_left _ (List.mem_append_right _ h))) (by decide +kernel))) (goodIn_sub (fun _ h => List.mem_cons_of_mem _ (List.mem_append_right _ h)) (by decide +kernel))
set_option maxRecDepth 20000 in
theorem gL_clock_X3_clock : GoodIn wsL_clock (wsV RL 33 RX3 yX3_clock wsX3_clock) := goodIn_app (goodIn_of _ (by decide +kernel)) ggL_clock_X3_clock
set_option maxRecDepth 20000 in
theorem ggL_addHalo_X3_addHalo : GoodIn wsL_addHalo wsX3_addHalo := goodIn_ca (goodIn_ca (goodIn_r _ [7, 8, 9, 10, 11, 12, 13, 14, 15, 16, 17, 18, 6, 19, 20, 21, 22, 23, 24, 25, 26, 27, 28, 29, 30, 31, 32, 33, 34, 35, 36, 37, 38, 39, 40, 41, 42, 43, 44, 45, 46, 47, 48, 49, 50, 51, 52, 53, 54, 55, 56, 57, 58, 59, 60, 61, 62, 63, 64, 65, 66, 67, 68, 69, 70, 71, 72, 73, 74, 75, 76, 77, 78, 79, 80, 81, 82, 83, 84, 85, 86, 87, 88, 89, 90, 91, 92, 93, 94, 95, 96, 97, 98, 99, 100, 101] (by decide +kernel) (by decide +kernel)) (goodIn_sub (fun _ h => List.mem_cons_of_mem _ (List.mem_append_left _ (List.mem_append_right _ h))) (by decide +kernel))) (goodIn_sub (fun _ h => List.mem_cons_of_mem _ (List.mem_append_right _ h)) (by decide +kernel))
set_option maxRecDepth 20000 in
theorem gL_addHalo_X3_addHalo : GoodIn wsL_addHalo (wsV RL 36 RX3 yX3_addHalo wsX3_addHalo) := goodIn_app (goodIn_of _ (by decide +kernel)) ggL_addHalo_X3_addHalo
set_option maxRecDepth 20000 in
theorem ggL_comes_X3_comes : GoodIn wsL_comes wsX3_comes := goodIn_ca (goodIn_r _ [6, 7, 8, 9, 10, 11, 12, 13, 14, 15, 16, 5, 17, 18, 19, 20, 21, 22, 23, 24, 25, 26, 27, 28, 29, 30, 31, 32, 33, 34, 35, 36, 37, 38, 39, 40, 41, 42, 43, 44, 45, 46, 47, 48, 49, 50, 51, 52, 53, 54, 55, 56, 57, 58, 59, 60, 61, 62, 63, 64, 65, 66, 67, 68, 69, 70, 71, 72, 73, 74, 75, 76, 77, 78, 79, 80] (by decide +kernel) (by decide +kernel)) (goodIn_sub (fun _ h => List.mem_cons_of_mem _ (List.mem_append_right _ h)) (by decide +kernel))
set_option maxRecDepth 20000 in
theorem gL_comes_X3_comes : GoodIn wsL_comes (wsV RL 40 RX3 yX3_comes wsX3_comes) := goodIn_app (goodIn_of _ (by decide +kernel)) ggL_comes_X3_comes
set_option maxRecDepth 20000 in
theorem ggL_reading_X3_reading : GoodIn wsL_reading wsX3_reading := goodIn_ca (goodIn_r _ [6, 7, 8, 9, 10, 11, 12, 13, 14, 15, 5, 16, 17, 18, 19, 20, 21, 22, 23, 24, 25, 26, 27, 28, 29, 30, 31, 32, 33, 34, 35, 36, 37, 38, 39, 40, 41, 42, 43, 44, 45, 46, 47, 48, 49, 50, 51, 52, 53, 54, 55, 56, 57, 58, 59, 60, 61, 62, 63, 64, 65, 66, 67, 68, 69, 70, 71, 72, 73, 74, 75, 76, 77, 78, 79, 80, 81, 82, 83, 84, 85, 86, 87, 88, 89, 90, 91, 92, 93, 94, 95, 96, 97, 98, 99, 100, 101, 102, 103, 104, 105, 106, 107, 108] (by decide +kernel) (by decide +kernel)) (goodIn_sub (fun _ h => List.mem_cons_of_mem _ (List.mem_append_right _ h)) (by decide +kernel))
set_option maxRecDepth 20000 in
theorem gL_reading_X3_reading : GoodIn wsL_reading (wsV RL 43 RX3 yX3_reading wsX3_reading) := goodIn_app (goodIn_of _ (by decide +kernel)) ggL_reading_X3_reading
set_option maxRecDepth 20000 in
theorem ggL_order_X3_order : GoodIn wsL_order wsX3_order := goodIn_ca (goodIn_r _ [6, 7, 8, 9, 10, 11, 12, 13, 14, 15, 5, 16, 17, 18, 19, 20, 21, 22, 23, 24, 25, 26, 27, 28, 29, 30, 31, 32, 33, 34, 35, 36, 37, 38, 39, 40, 41, 42, 43, 44, 45, 46, 47, 48, 49, 50, 51, 52, 53, 54, 55, 56, 57, 58, 59, 60, 61, 62, 63, 64, 65, 66, 67, 68, 69, 70, 71, 72, 73, 74, 75, 76, 77, 78, 79, 80, 81, 82, 83, 84, 85, 86, 87, 88, 89, 90, 91, 92, 93, 94, 95, 96, 97, 98, 99, 100, 101, 102, 103, 104, 105, 106, 107, 108, 109, 110, 111, 112, 113, 114, 115, 116, 117, 118, 119, 120, 121, 122, 123, 124, 125, 126, 127, 128, 129, 130, 131, 132, 133, 134, 135, 136, 137, 138, 139, 140, 141] (by decide +kernel) (by decide +kernel)) (goodIn_sub (fun _ h => List.mem_cons_of_mem _ (List.mem_append_right _ h)) (by decide +kernel))
set_option maxRecDepth 20000 in
theorem gL_order_X3_order : GoodIn wsL_order (wsV RL 46 RX3 yX3_order wsX3_order) := goodIn_app (goodIn_of _ (by decide +kernel)) ggL_order_X3_order
set_option maxRecDepth 20000 in
theorem ggL_halo_X3_halo : GoodIn wsL_halo wsX3_halo := goodIn_ca (goodIn_r _ [6, 7, 8, 9, 10, 11, 12, 13, 14, 15, 5, 16, 17, 18, 19, 20, 21, 22, 23, 24, 25, 26, 27, 28, 29, 30, 31, 32, 33, 34, 35, 36, 37, 38, 39, 40, 41, 42, 43, 44, 45, 46, 47, 48, 49, 50, 51, 52, 53, 54, 55, 56, 57, 58, 59, 60, 61, 62, 63, 64, 65, 66, 67, 68, 69, 70, 71, 72, 73, 74, 75, 76, 77, 78, 79, 80, 81, 82, 83, 84, 85, 86, 87, 88, 89, 90, 91, 92, 93, 94, 95, 96, 97, 98, 99, 100, 101, 102, 103, 104, 105, 106, 107, 108, 109, 110, 111, 112, 113, 114, 115, 116, 117, 118, 119, 120, 121, 122, 123, 124, 125, 126, 127, 128, 129, 130, 131, 132, 133, 134, 135, 136, 137, 138, 139, 140, 141, 142, 143, 144, 145, 146, 147, 148, 149, 150, 151, 152, 153, 154, 155, 156, 157, 158, 159, 160, 161, 162, 163, 164, 165, 166, 167, 168, 169, 170, 171, 172, 173, 174, 175, 176, 177, 178, 179, 180] (by decide +kernel) (by decide +kernel)) (goodIn_sub (fun _ h => List.mem_cons_of_mem _ (List.mem_append_right _ h)) (by decide +kernel))
set_option maxRecDepth 20000 in
theorem gL_halo_X3_halo : GoodIn wsL_halo (wsV RL 49 RX3 yX3_halo wsX3_halo) := goodIn_app (goodIn_of _ (by decide +kernel)) ggL_halo_X3_halo
set_option maxRecDepth 20000 in
theorem ggL_guess_X3_guess : GoodIn wsL_guess wsX3_guess := goodIn_ca (goodIn_r _ [6, 7, 8, 9, 10, 11, 12, 13, 14, 15, 16, 17, 18, 5, 19, 20, 21, 22, 23, 24, 25, 26, 27, 28, 29, 30, 31, 32, 33, 34, 35, 36, 37, 38, 39, 40, 41, 42, 43, 44, 45, 46, 47, 48, 49, 50, 51, 52, 53, 54, 55, 56, 57, 58, 59, 60, 61, 62, 63, 64, 65, 66, 67, 68, 69, 70, 71, 72, 73, 74, 75, 76, 77, 78, 79, 80, 81, 82, 83, 84, 85, 86, 87, 88, 89, 90, 91, 92, 93, 94, 95, 96, 97, 98, 99, 100, 101, 102, 103, 104, 105, 106, 107, 108, 109, 110, 111, 112, 113, 114, 115, 116, 117, 118, 119, 120, 121, 122, 123, 124, 125, 126, 127, 128, 129, 130, 131, 132, 133, 134, 135, 136, 137, 138, 139, 140, 141, 142, 143, 144, 145, 146, 147, 148, 149, 150, 151, 152, 153, 154, 155, 156, 157, 158, 159, 160, 161, 162, 163, 164, 165, 166, 167, 168, 169, 170, 171, 172, 173, 174, 175, 176] (by decide +kernel) (by decide +kernel)) (goodIn_sub (fun _ h => List.mem_cons_of_mem _ (List.mem_append_right _ h)) (by decide +kernel))
set_option maxRecDepth 20000 in
theorem gL_guess_X3_guess : GoodIn wsL_guess (wsV RL 52 RX3 yX3_guess wsX3_guess) := goodIn_app (goodIn_of _ (by decide +kernel)) ggL_guess_X3_guess
set_option maxRecDepth 20000 in
theorem ggL_blame_X3_blame : GoodIn wsL_blame wsX3_blame := goodIn_ca (goodIn_r _ [6, 7, 8, 9, 10, 11, 12, 13, 14, 15, 16, 17, 5, 18, 19, 20, 21, 22, 23, 24, 25, 26, 27, 28, 29, 30, 31, 32, 33, 34, 35, 36, 37, 38, 39, 40, 41, 42, 43, 44, 45, 46, 47, 48, 49, 50, 51, 52, 53, 54, 55, 56, 57, 58, 59, 60, 61, 62, 63, 64, 65, 66, 67, 68, 69, 70, 71, 72, 73, 74, 75, 76, 77, 78, 79, 80, 81, 82, 83, 84, 85, 86, 87, 88, 89, 90, 91, 92, 93, 94, 95, 96, 97, 98, 99, 100, 101, 102, 103, 104, 105, 106, 107, 108, 109, 110, 111, 112, 113, 114, 115, 116, 117, 118, 119, 120, 121, 122, 123, 124, 125, 126, 127, 128, 129, 130, 131, 132, 133, 134, 135, 136, 137, 138, 139, 140, 141, 142, 143, 144, 145, 146, 147, 148, 149, 150, 151, 152, 153, 154, 155, 156, 157, 158, 159, 160, 161, 162, 163, 164, 165, 166, 167, 168] (by decide +kernel) (by decide +kernel)) (goodIn_sub (fun _ h => List.mem_cons_of_mem _ (List.mem_append_right _ h)) (by decide +kernel))
set_option maxRecDepth 20000 in
theorem gL_blame_X3_blame : GoodIn wsL_blame (wsV RL 55 RX3 yX3_blame wsX3_blame) := goodIn_app (goodIn_of _ (by decide +kernel)) ggL_blame_X3_blame
set_option maxRecDepth 20000 in
theorem ggL_advise_X3_advise : GoodIn wsL_advise wsX3_advise := goodIn_ca (goodIn_r _ [6, 7, 8, 9, 10, 11, 12, 13, 14, 15, 5, 16, 17, 18, 19, 20, 21, 22, 23, 24, 25, 26, 27, 28, 29, 30, 31, 32, 33, 34, 35, 36, 37, 38, 39, 40, 41, 42, 43, 44, 45, 46, 47, 48, 49, 50, 51, 52, 53, 54, 55, 56, 57, 58, 59, 60, 61, 62, 63, 64, 65, 66, 67, 68, 69, 70, 71, 72, 73, 74, 75, 76, 77, 78, 79, 80, 81, 82, 83, 84, 85, 86, 87, 88, 89, 90, 91, 92, 93, 94, 95, 96, 97, 98, 99, 100, 101, 102, 103, 104, 105, 106, 107, 108, 109, 110, 111, 112, 113, 114, 115, 116, 117, 118, 119, 120, 121, 122, 123, 124, 125, 126, 127, 128, 129, 130, 131, 132, 133, 134, 135, 136, 137, 138, 139, 140, 141, 142, 143, 144, 145, 146, 147, 148, 149, 150, 151, 152, 153, 154, 155, 156, 157, 158, 159, 160, 161, 162, 163, 164, 165, 166, 167, 168, 169, 170, 171, 172, 173, 174, 175, 176, 177, 178, 179, 180, 181, 182] (by decide +kernel) (by decide +kernel)) (goodIn_sub (fun _ h => List.mem_cons_of_mem _ (List.mem_append_right _ h)) (by decide +kernel))
set_option maxRecDepth 20000 in
theorem gL_advise_X3_advise : GoodIn wsL_advise (wsV RL 58 RX3 yX3_advise wsX3_advise) := goodIn_app (goodIn_of _ (by decide +kernel)) ggL_advise_X3_advise
set_option maxRecDepth 20000 in
theorem ggL_wire_X3_wire : GoodIn wsL_wire wsX3_wire := goodIn_ca (goodIn_ca (goodIn_r _ [7, 8, 9, 10, 11, 12, 13, 14, 15, 16, 17, 18, 19, 20, 21, 22, 6, 23, 24, 25, 26, 27, 28, 29, 30, 31, 32, 33, 34, 35, 36, 37, 38, 39, 40, 41, 42, 43, 44, 45, 46, 47, 48, 49, 50, 51, 52, 53, 54, 55, 56, 57, 58, 59, 60, 61, 62, 63, 64, 65, 66, 67, 68, 69, 70, 71, 72, 73, 74, 75, 76, 77] (by decide +kernel) (by decide +kernel)) (goodIn_sub (fun _ h => List.mem_cons_of_mem _ (List.mem_append_left _ (List.mem_append_right _ h))) (by decide +kernel))) (goodIn_sub (fun _ h => List.mem_cons_of_mem _ (List.mem_append_right _ h)) (by decide +kernel))
set_option maxRecDepth 20000 in
theorem gL_wire_X3_wire : GoodIn wsL_wire (wsV RL 61 RX3 yX3_wire wsX3_wire) := goodIn_app (goodIn_of _ (by decide +kernel)) ggL_wire_X3_wire
set_option maxRecDepth 20000 in
theorem ggL_align_X3_align : GoodIn wsL_align wsX3_align := goodIn_ca (goodIn_ca (goodIn_ca (goodIn_r _ [8, 9, 10, 11, 12, 13, 14, 15, 16, 17, 18, 19, 20, 21, 22, 7, 23, 24, 25, 26, 27, 28, 29, 30, 31, 32, 33, 34, 35, 36, 37, 38, 39, 40, 41, 42, 43, 44, 45, 46, 47, 48, 49, 50, 51, 52, 53, 54, 55, 56, 57, 58, 59, 60, 61, 62, 63, 64, 65, 66, 67, 68, 69, 70, 71, 72, 73, 74, 75, 76, 77, 78, 79, 80, 81, 82, 83, 84, 85, 86] (by decide +kernel) (by decide +kernel)) (goodIn_sub (fun _ h => List.mem_cons_of_mem _ (List.mem_append_left _ (List.mem_append_left _ (List.mem_append_right _ h)))) (by decide +kernel))) (goodIn_sub (fun _ h => List.mem_cons_of_mem _ (List.mem_append_left _ (List.mem_append_right _ h))) (by decide +kernel))) (goodIn_sub (fun _ h => List.mem_cons_of_mem _ (List.mem_append_right _ h)) (by decide +kernel))
set_option maxRecDepth 20000 in
theorem gL_align_X3_align : GoodIn wsL_align (wsV RL 64 RX3 yX3_align wsX3_align) := goodIn_app (goodIn_of _ (by decide +kernel)) ggL_align_X3_align
set_option maxRecDepth 20000 in
theorem ggL_spread_X3_spread : GoodIn wsL_spread wsX3_spread := goodIn_ca (goodIn_r _ [6, 7, 8, 9, 10, 11, 12, 13, 14, 15, 16, 17, 18, 19, 20, 5, 21, 22, 23, 24, 25, 26, 27, 28, 29, 30, 31, 32, 33, 34, 35, 36, 37, 38, 39, 40, 41, 42, 43, 44, 45, 46, 47, 48, 49, 50, 51, 52, 53, 54, 55, 56, 57, 58, 59, 60, 61, 62, 63, 64, 65, 66, 67, 68, 69, 70, 71, 72, 73, 74, 75, 76] (by decide +kernel) (by decide +kernel)) (goodIn_sub (fun _ h => List.mem_cons_of_mem _ (List.mem_append_right _ h)) (by decide +kernel))
set_option maxRecDepth 20000 in
theorem gL_spread_X3_spread : GoodIn wsL_spread (wsV RL 67 RX3 yX3_spread wsX3_spread) := goodIn_app (goodIn_of _ (by decide +kernel)) ggL_spread_X3_spread
set_option maxRecDepth 20000 in
theorem ggL_count_X3_count : GoodIn wsL_count wsX3_count := goodIn_ca (goodIn_r _ [6, 7, 8, 9, 10, 5, 11, 12, 13, 14, 15, 16, 17, 18, 19, 20, 21, 22, 23, 24, 25, 26, 27, 28, 29, 30, 31, 32, 33, 34, 35, 36, 37, 38, 39, 40, 41, 42, 43, 44, 45, 46, 47, 48, 49, 50, 51, 52, 53, 54, 55, 56, 57, 58, 59, 60, 61, 62, 63, 64, 65, 66, 67, 68, 69, 70, 71, 72, 73, 74, 75, 76, 77, 78, 79, 80, 81, 82, 83, 84, 85, 86, 87, 88, 89, 90, 91, 92, 93, 94, 95, 96, 97, 98, 99, 100, 101, 102, 103, 104, 105, 106, 107, 108, 109] (by decide +kernel) (by decide +kernel)) (goodIn_sub (fun _ h => List.mem_cons_of_mem _ (List.mem_append_right _ h)) (by decide +kernel))
set_option maxRecDepth 20000 in
theorem gL_count_X3_count : GoodIn wsL_count (wsV RL 70 RX3 yX3_count wsX3_count) := goodIn_app (goodIn_of _ (by decide +kernel)) ggL_count_X3_count
set_option maxRecDepth 20000 in
theorem ggL_error_X3_error : GoodIn wsL_error wsX3_error := goodIn_ca (goodIn_r _ [6, 7, 8, 9, 10, 11, 12, 13, 14, 15, 5, 16, 17, 18, 19, 20, 21, 22, 23, 24, 25, 26, 27, 28, 29, 30, 31, 32, 33, 34, 35, 36, 37, 38, 39, 40, 41, 42, 43, 44, 45, 46, 47, 48, 49, 50, 51, 52, 53, 54, 55, 56, 57, 58, 59, 60, 61, 62, 63, 64, 65, 66, 67, 68, 69, 70, 71, 72, 73, 74, 75, 76, 77, 78, 79, 80, 81, 82, 83, 84, 85, 86, 87, 88, 89, 90, 91, 92, 93, 94, 95, 96, 97, 98, 99, 100, 101, 102, 103, 104, 105, 106, 107, 108, 109, 110, 111, 112, 113, 114, 115, 116, 117, 118, 119, 120, 121, 122, 123, 124, 125, 126, 127, 128, 129, 130, 131, 132, 133, 134, 135, 136, 137, 138, 139, 140, 141, 142, 143, 144, 145, 146, 147, 148, 149, 150, 151, 152, 153, 154, 155, 156, 157, 158, 159, 160, 161, 162, 163, 164, 165, 166, 167, 168, 169] (by decide +kernel) (by decide +kernel)) (goodIn_sub (fun _ h => List.mem_cons_of_mem _ (List.mem_append_right _ h)) (by decide +kernel))
set_option maxRecDepth 20000 in
theorem gL_error_X3_error : GoodIn wsL_error (wsV RL 73 RX3 yX3_error wsX3_error) := goodIn_app (goodIn_of _ (by decide +kernel)) ggL_error_X3_error
