set_option maxRecDepth 20000 in
theorem ggX0_add_X0_isConstraint : GoodIn wsX0_add wsX0_isConstraint := goodIn_r _ [10, 11, 12, 13, 14, 9, 15] (by decide +kernel) (by decide +kernel)
set_option maxRecDepth 20000 in
theorem gX0_add_X0_isConstraint : GoodIn wsX0_add (va_wsS RX0 37 yX0_isConstraint wsX0_isConstraint) := goodIn_app (goodIn_of _ (by decide +kernel)) ggX0_add_X0_isConstraint
set_option maxRecDepth 20000 in
theorem ggX0_add_X0_refuse : GoodIn wsX0_add wsX0_refuse := goodIn_r _ [19, 20, 21, 22, 23, 24, 25, 9, 26, 27, 13, 14, 15, 28, 29, 30, 31, 32, 33, 34, 35, 36, 1, 5, 37, 38, 39, 40, 2, 3, 4, 41, 42, 43, 44, 45, 46, 47, 48, 49, 50, 51, 52, 53, 54, 55, 56, 57, 58, 59, 60, 61, 62, 63, 64, 65, 66, 67, 68] (by decide +kernel) (by decide +kernel)
set_option maxRecDepth 20000 in
theorem gX0_add_X0_refuse : GoodIn wsX0_add (wsV RX0 41 RX0 yX0_refuse wsX0_refuse) := goodIn_app (goodIn_of _ (by decide +kernel)) ggX0_add_X0_refuse
set_option maxRecDepth 20000 in
theorem ggX0_off_X0_isNumber : GoodIn wsX0_off wsX0_isNumber := goodIn_r _ [7, 8, 9, 10, 11, 12, 13, 14, 15, 16, 17, 18, 19] (by decide +kernel) (by decide +kernel)
set_option maxRecDepth 20000 in
theorem gX0_off_X0_isNumber : GoodIn wsX0_off (wsV RX0 47 RX0 yX0_isNumber wsX0_isNumber) := goodIn_app (goodIn_of _ (by decide +kernel)) ggX0_off_X0_isNumber
set_option maxRecDepth 20000 in
theorem ggX0_on_X0_isNumber : GoodIn wsX0_on wsX0_isNumber := goodIn_r _ [10, 11, 57, 58, 59, 60, 61, 62, 63, 64, 65, 66, 67] (by decide +kernel) (by decide +kernel)
set_option maxRecDepth 20000 in
theorem gX0_on_X0_isNumber : GoodIn wsX0_on (wsV RX0 47 RX0 yX0_isNumber wsX0_isNumber) := goodIn_app (goodIn_of _ (by decide +kernel)) ggX0_on_X0_isNumber
set_option maxRecDepth 20000 in
theorem ggX0_on_X0_refuse : GoodIn wsX0_on wsX0_refuse := goodIn_r _ [15, 16, 17, 18, 19, 20, 21, 9, 22, 23, 24, 25, 26, 27, 28, 29, 30, 31, 32, 33, 34, 35, 11, 1, 36, 37, 38, 39, 2, 3, 4, 40, 41, 42, 43, 44, 45, 46, 47, 48, 49, 50, 51, 52, 53, 54, 55, 56, 57, 58, 59, 60, 61, 62, 63, 64, 65, 66, 67] (by decide +kernel) (by decide +kernel)
set_option maxRecDepth 20000 in
theorem gX0_on_X0_refuse : GoodIn wsX0_on (wsV RX0 41 RX0 yX0_refuse wsX0_refuse) := goodIn_app (goodIn_of _ (by decide +kernel)) ggX0_on_X0_refuse
set_option maxRecDepth 20000 in
theorem ggX0_bound_X0_isPoint : GoodIn wsX0_bound wsX0_isPoint := goodIn_r _ [7] (by decide +kernel) (by decide +kernel)
set_option maxRecDepth 20000 in
theorem gX0_bound_X0_isPoint : GoodIn wsX0_bound (va_wsS RX0 51 yX0_isPoint wsX0_isPoint) := goodIn_app (goodIn_of _ (by decide +kernel)) ggX0_bound_X0_isPoint
set_option maxRecDepth 20000 in
theorem ggX0_bound_X0_measureTo : GoodIn wsX0_bound wsX0_measureTo := goodIn_r _ [11, 3, 12, 13, 14, 15, 16, 6, 17, 18, 19, 20, 21, 22, 23, 24, 25, 26, 27, 28, 29, 30, 31, 32, 33, 34, 35, 36, 37] (by decide +kernel) (by decide +kernel)
set_option maxRecDepth 20000 in
theorem gX0_bound_X0_measureTo : GoodIn wsX0_bound (wsV RX0 57 RX0 yX0_measureTo wsX0_measureTo) := goodIn_app (goodIn_of _ (by decide +kernel)) ggX0_bound_X0_measureTo
set_option maxRecDepth 20000 in
theorem ggX0_steps_X0_findPath : GoodIn wsX0_steps wsX0_findPath := goodIn_r _ [6, 7, 8, 9, 10, 5, 11, 12, 13, 14, 15, 1, 16, 17, 18, 19, 20, 21, 22, 23, 24, 25, 26, 27, 28, 29, 30, 31, 32, 33, 34, 35, 36, 37, 38, 39] (by decide +kernel) (by decide +kernel)
set_option maxRecDepth 20000 in
theorem gX0_steps_X0_findPath : GoodIn wsX0_steps (wsV RX0 61 RX0 yX0_findPath wsX0_findPath) := goodIn_app (goodIn_of _ (by decide +kernel)) ggX0_steps_X0_findPath
set_option maxRecDepth 20000 in
theorem ggX0_path_X0_findPath : GoodIn wsX0_path wsX0_findPath := goodIn_r _ [8, 2, 9, 10, 11, 7, 12, 13, 14, 15, 16, 17, 18, 19, 20, 21, 22, 23, 24, 25, 26, 27, 28, 29, 30, 48, 49, 50, 51, 52, 53, 54, 55, 56, 57, 58] (by decide +kernel) (by decide +kernel)
set_option maxRecDepth 20000 in
theorem gX0_path_X0_findPath : GoodIn wsX0_path (wsV RX0 61 RX0 yX0_findPath wsX0_findPath) := goodIn_app (goodIn_of _ (by decide +kernel)) ggX0_path_X0_findPath
set_option maxRecDepth 20000 in
theorem ggX0_path_X0_appendBestFrom : GoodIn wsX0_path wsX0_appendBestFrom := goodIn_r _ [34, 17, 35, 36, 37, 7, 38, 1, 39, 40, 41, 42, 43, 22, 28, 29, 23, 44, 45, 46, 47, 2, 9, 30, 48, 49, 50, 51, 52, 53, 54, 55, 56, 57, 58] (by decide +kernel) (by decide +kernel)
set_option maxRecDepth 20000 in
theorem gX0_path_X0_appendBestFrom : GoodIn wsX0_path (wsV RX0 68 RX0 yX0_appendBestFrom wsX0_appendBestFrom) := goodIn_app (goodIn_of _ (by decide +kernel)) ggX0_path_X0_appendBestFrom
set_option maxRecDepth 20000 in
theorem ggX0_earliest_X0_isPoint : GoodIn wsX0_earliest wsX0_isPoint := goodIn_r _ [9] (by decide +kernel) (by decide +kernel)
set_option maxRecDepth 20000 in
theorem gX0_earliest_X0_isPoint : GoodIn wsX0_earliest (va_wsS RX0 51 yX0_isPoint wsX0_isPoint) := goodIn_app (goodIn_of _ (by decide +kernel)) ggX0_earliest_X0_isPoint
set_option maxRecDepth 20000 in
theorem ggX0_earliest_X0_measureTo : GoodIn wsX0_earliest wsX0_measureTo := goodIn_r _ [13, 3, 4, 14, 15, 16, 17, 8, 18, 19, 20, 21, 22, 23, 24, 25, 26, 27, 28, 29, 30, 31, 32, 33, 34, 35, 36, 37, 38] (by decide +kernel) (by decide +kernel)
set_option maxRecDepth 20000 in
theorem gX0_earliest_X0_measureTo : GoodIn wsX0_earliest (wsV RX0 57 RX0 yX0_measureTo wsX0_measureTo) := goodIn_app (goodIn_of _ (by decide +kernel)) ggX0_earliest_X0_measureTo
set_option maxRecDepth 20000 in
theorem ggX0_slack_X0_isNumber : GoodIn wsX0_slack wsX0_isNumber := goodIn_r _ [11, 12, 27, 28, 29, 30, 31, 32, 33, 34, 35, 36, 37] (by decide +kernel) (by decide +kernel)
set_option maxRecDepth 20000 in
theorem gX0_slack_X0_isNumber : GoodIn wsX0_slack (wsV RX0 47 RX0 yX0_isNumber wsX0_isNumber) := goodIn_app (goodIn_of _ (by decide +kernel)) ggX0_slack_X0_isNumber
set_option maxRecDepth 20000 in
theorem ggX0_slack_X0_measureTo : GoodIn wsX0_slack wsX0_measureTo := goodIn_r _ [16, 5, 17, 18, 19, 20, 21, 10, 22, 12, 1, 23, 24, 25, 26, 6, 3, 4, 27, 28, 29, 30, 31, 32, 33, 34, 35, 36, 37] (by decide +kernel) (by decide +kernel)
set_option maxRecDepth 20000 in
theorem gX0_slack_X0_measureTo : GoodIn wsX0_slack (wsV RX0 57 RX0 yX0_measureTo wsX0_measureTo) := goodIn_app (goodIn_of _ (by decide +kernel)) ggX0_slack_X0_measureTo
set_option maxRecDepth 20000 in
theorem ggX0_isConstraint_X0_isPoint : GoodIn wsX0_isConstraint wsX0_isPoint := goodIn_r _ [6] (by decide +kernel) (by decide +kernel)
set_option maxRecDepth 20000 in
theorem gX0_isConstraint_X0_isPoint : GoodIn wsX0_isConstraint (va_wsS RX0 51 yX0_isPoint wsX0_isPoint) := goodIn_app (goodIn_of _ (by decide +kernel)) ggX0_isConstraint_X0_isPoint
set_option maxRecDepth 20000 in
theorem ggX0_refuse_X0_findPath : GoodIn wsX0_refuse wsX0_findPath := goodIn_r _ [8, 1, 9, 10, 11, 7, 12, 13, 14, 15, 16, 17, 18, 19, 20, 21, 22, 23, 24, 25, 26, 27, 28, 29, 30, 48, 49, 50, 51, 52, 53, 54, 55, 56, 57, 58] (by decide +kernel) (by decide +kernel)
set_option maxRecDepth 20000 in
theorem gX0_refuse_X0_findPath : GoodIn wsX0_refuse (wsV RX0 61 RX0 yX0_findPath wsX0_findPath) := goodIn_app (goodIn_of _ (by decide +kernel)) ggX0_refuse_X0_findPath
set_option maxRecDepth 20000 in
theorem ggX0_refuse_X0_append : GoodIn wsX0_refuse wsX0_append := goodIn_r _ [34, 2, 35, 48, 49, 50, 51, 52, 53, 54, 55, 56, 57, 58] (by decide +kernel) (by decide +kernel)
set_option maxRecDepth 20000 in
theorem gX0_refuse_X0_append : GoodIn wsX0_refuse (wsV RX0 85 RX0 yX0_append wsX0_append) := goodIn_app (goodIn_of _ (by decide +kernel)) ggX0_refuse_X0_append
set_option maxRecDepth 20000 in
theorem ggX0_refuse_X0_appendBestFrom : GoodIn wsX0_refuse wsX0_appendBestFrom := goodIn_r _ [39, 17, 31, 32, 33, 7, 34, 2, 35, 40, 41, 42, 43, 22, 28, 29, 23, 44, 45, 46, 47, 1, 9, 30, 48, 49, 50, 51, 52, 53, 54, 55, 56, 57, 58] (by decide +kernel) (by decide +kernel)
set_option maxRecDepth 20000 in
theorem gX0_refuse_X0_appendBestFrom : GoodIn wsX0_refuse (wsV RX0 68 RX0 yX0_appendBestFrom wsX0_appendBestFrom) := goodIn_app (goodIn_of _ (by decide +kernel)) ggX0_refuse_X0_appendBestFrom
set_option maxRecDepth 20000 in
theorem ggX0_findPath_X0_isPoint : GoodIn wsX0_findPath wsX0_isPoint := goodIn_r _ [6] (by decide +kernel) (by decide +kernel)
set_option maxRecDepth 20000 in
theorem gX0_findPath_X0_isPoint : GoodIn wsX0_findPath (va_wsS RX0 51 yX0_isPoint wsX0_isPoint) := goodIn_app (goodIn_of _ (by decide +kernel)) ggX0_findPath_X0_isPoint
set_option maxRecDepth 20000 in
theorem ggX0_findPath_X0_measureTo : GoodIn wsX0_findPath wsX0_measureTo := goodIn_r _ [10, 1, 2, 11, 12, 13, 14, 5, 15, 16, 17, 18, 19, 20, 21, 22, 23, 24, 25, 26, 27, 28, 29, 30, 31, 32, 33, 34, 35] (by decide +kernel) (by decide +kernel)
set_option maxRecDepth 20000 in
theorem gX0_findPath_X0_measureTo : GoodIn wsX0_findPath (wsV RX0 57 RX0 yX0_measureTo wsX0_measureTo) := goodIn_app (goodIn_of _ (by decide +kernel)) ggX0_findPath_X0_measureTo
set_option maxRecDepth 20000 in
theorem ggX0_measureTo_X0_improveAll : GoodIn wsX0_measureTo wsX0_improveAll := goodIn_r _ [8, 9, 10, 11, 12, 13, 7, 14, 15, 16, 1, 2, 17, 3, 18, 19, 20, 21, 22, 23, 24, 25, 26, 27, 28] (by decide +kernel) (by decide +kernel)
set_option maxRecDepth 20000 in
theorem gX0_measureTo_X0_improveAll : GoodIn wsX0_measureTo (wsV RX0 88 RX0 yX0_improveAll wsX0_improveAll) := goodIn_app (goodIn_of _ (by decide +kernel)) ggX0_measureTo_X0_improveAll
set_option maxRecDepth 20000 in
theorem ggX0_improveAll_X0_improveBy : GoodIn wsX0_improveAll wsX0_improveBy := goodIn_r _ [7, 8, 9, 10, 11, 12, 13, 14, 15, 16, 17, 18, 19, 20, 21, 22, 23, 24] (by decide +kernel) (by decide +kernel)
set_option maxRecDepth 20000 in
theorem gX0_improveAll_X0_improveBy : GoodIn wsX0_improveAll (wsV RX0 92 RX0 yX0_improveBy wsX0_improveBy) := goodIn_app (goodIn_of _ (by decide +kernel)) ggX0_improveAll_X0_improveBy
set_option maxRecDepth 20000 in
theorem ggX0_appendBestFrom_X0_append : GoodIn wsX0_appendBestFrom wsX0_append := goodIn_r _ [6, 7, 8, 24, 25, 26, 27, 28, 29, 30, 31, 32, 33, 34] (by decide +kernel) (by decide +kernel)
set_option maxRecDepth 20000 in
theorem gX0_appendBestFrom_X0_append : GoodIn wsX0_appendBestFrom (wsV RX0 85 RX0 yX0_append wsX0_append) := goodIn_app (goodIn_of _ (by decide +kernel)) ggX0_appendBestFrom_X0_append
set_option maxRecDepth 20000 in
theorem ggX0_appendBestFrom_X0_nextOfBest : GoodIn wsX0_appendBestFrom wsX0_nextOfBest := goodIn_r _ [12, 13, 14, 15, 16, 17, 18, 19, 5, 20, 21, 22, 23, 1, 24, 25, 26, 27, 28, 29, 30, 31, 32, 33, 34] (by decide +kernel) (by decide +kernel)
set_option maxRecDepth 20000 in
theorem gX0_appendBestFrom_X0_nextOfBest : GoodIn wsX0_appendBestFrom (wsV RX0 95 RX0 yX0_nextOfBest wsX0_nextOfBest) := goodIn_app (goodIn_of _ (by decide +kernel)) ggX0_appendBestFrom_X0_nextOfBest
set_option maxRecDepth 20000 in
theorem ggX0_nextOfBest_X0_beginsBest : GoodIn wsX0_nextOfBest wsX0_beginsBest := goodIn_r _ [9, 2, 3, 10, 11, 12, 13, 14, 15, 16, 17, 18, 19, 20, 21, 22, 23, 24] (by decide +kernel) (by decide +kernel)
set_option maxRecDepth 20000 in
theorem gX0_nextOfBest_X0_beginsBest : GoodIn wsX0_nextOfBest (wsV RX0 99 RX0 yX0_beginsBest wsX0_beginsBest) := goodIn_app (goodIn_of _ (by decide +kernel)) ggX0_nextOfBest_X0_beginsBest
set_option maxRecDepth 20000 in
theorem ggX1_walk_X1_step : GoodIn wsX1_walk wsX1_step := goodIn_r _ [10, 2, 11, 12, 13, 14, 15, 16, 17, 18, 19, 20, 21, 22, 23, 24, 25, 26, 27] (by decide +kernel) (by decide +kernel)
set_option maxRecDepth 20000 in
theorem gX1_walk_X1_step : GoodIn wsX1_walk (wsV RX1 46 RX1 yX1_step wsX1_step) := goodIn_app (goodIn_of _ (by decide +kernel)) ggX1_walk_X1_step
set_option maxRecDepth 20000 in
theorem ggX1_isBad_X1_best : GoodIn wsX1_isBad wsX1_best := goodIn_r _ [9, 10, 11, 12, 13, 14, 15, 16, 17, 1, 26, 27, 28, 29, 30, 31, 32, 33, 34, 35, 36, 37] (by decide +kernel) (by decide +kernel)
set_option maxRecDepth 20000 in
theorem gX1_isBad_X1_best : GoodIn wsX1_isBad (wsV RX1 53 RX1 yX1_best wsX1_best) := goodIn_app (goodIn_of _ (by decide +kernel)) ggX1_isBad_X1_best
set_option maxRecDepth 20000 in
theorem ggX1_isBad_X1_walk : GoodIn wsX1_isBad wsX1_walk := goodIn_r _ [21, 17, 11, 10, 2, 3, 22, 23, 24, 8, 25, 12, 15, 14, 13, 16, 26, 27, 28, 29, 30, 31, 32, 33, 34, 35, 36, 37] (by decide +kernel) (by decide +kernel)
set_option maxRecDepth 20000 in
theorem gX1_isBad_X1_walk : GoodIn wsX1_isBad (wsV RX1 57 RX1 yX1_walk wsX1_walk) := goodIn_app (goodIn_of _ (by decide +kernel)) ggX1_isBad_X1_walk
set_option maxRecDepth 20000 in
theorem ggX1_add_X1_isPoint : GoodIn wsX1_add wsX1_isPoint := goodIn_r _ [12] (by decide +kernel) (by decide +kernel)
set_option maxRecDepth 20000 in
theorem gX1_add_X1_isPoint : GoodIn wsX1_add (va_wsS RX1 64 yX1_isPoint wsX1_isPoint) := goodIn_app (goodIn_of _ (by decide +kernel)) ggX1_add_X1_isPoint
set_option maxRecDepth 20000 in
theorem ggX1_add_X1_isBad : GoodIn wsX1_add wsX1_isBad := goodIn_r _ [16, 17, 18, 19, 20, 21, 22, 23, 11, 24, 25, 26, 4, 6, 5, 8, 7, 27, 28, 29, 30, 31, 32, 33, 34, 35, 36, 37, 38, 39, 40, 41, 42, 43, 44, 45, 46, 47] (by decide +kernel) (by decide +kernel)
set_option maxRecDepth 20000 in
theorem gX1_add_X1_isBad : GoodIn wsX1_add (wsV RX1 72 RX1 yX1_isBad wsX1_isBad) := goodIn_app (goodIn_of _ (by decide +kernel)) ggX1_add_X1_isBad
set_option maxRecDepth 20000 in
theorem ggX1_off_X1_isThere : GoodIn wsX1_off wsX1_isThere := goodIn_r _ [7, 8, 9, 10, 11, 12, 13, 14, 15, 16, 17, 18, 19, 20] (by decide +kernel) (by decide +kernel)
set_option maxRecDepth 20000 in
theorem gX1_off_X1_isThere : GoodIn wsX1_off (wsV RX1 76 RX1 yX1_isThere wsX1_isThere) := goodIn_app (goodIn_of _ (by decide +kernel)) ggX1_off_X1_isThere
set_option maxRecDepth 20000 in
theorem ggX1_on_X1_isThere : GoodIn wsX1_on wsX1_isThere := goodIn_r _ [10, 11, 35, 36, 37, 38, 39, 40, 41, 42, 43, 44, 45, 46] (by decide +kernel) (by decide +kernel)
set_option maxRecDepth 20000 in
theorem gX1_on_X1_isThere : GoodIn wsX1_on (wsV RX1 76 RX1 yX1_isThere wsX1_isThere) := goodIn_app (goodIn_of _ (by decide +kernel)) ggX1_on_X1_isThere
set_option maxRecDepth 20000 in
theorem ggX1_on_X1_isBad : GoodIn wsX1_on wsX1_isBad := goodIn_r _ [15, 16, 17, 18, 19, 20, 21, 22, 9, 23, 24, 25, 11, 4, 3, 2, 5, 26, 27, 28, 29, 30, 31, 32, 33, 34, 35, 36, 37, 38, 39, 40, 41, 42, 43, 44, 45, 46] (by decide +kernel) (by decide +kernel)
set_option maxRecDepth 20000 in
theorem gX1_on_X1_isBad : GoodIn wsX1_on (wsV RX1 72 RX1 yX1_isBad wsX1_isBad) := goodIn_app (goodIn_of _ (by decide +kernel)) ggX1_on_X1_isBad
set_option maxRecDepth 20000 in
theorem ggX1_bound_X1_isPoint : GoodIn wsX1_bound wsX1_isPoint := goodIn_r _ [7] (by decide +kernel) (by decide +kernel)
set_option maxRecDepth 20000 in
theorem gX1_bound_X1_isPoint : GoodIn wsX1_bound (va_wsS RX1 64 yX1_isPoint wsX1_isPoint) := goodIn_app (goodIn_of _ (by decide +kernel)) ggX1_bound_X1_isPoint
set_option maxRecDepth 20000 in
theorem ggX1_bound_X1_best : GoodIn wsX1_bound wsX1_best := goodIn_r _ [11, 12, 3, 13, 14, 15, 16, 17, 18, 2, 19, 20, 21, 22, 23, 24, 25, 26, 27, 28, 29, 30] (by decide +kernel) (by decide +kernel)
set_option maxRecDepth 20000 in
theorem gX1_bound_X1_best : GoodIn wsX1_bound (wsV RX1 53 RX1 yX1_best wsX1_best) := goodIn_app (goodIn_of _ (by decide +kernel)) ggX1_bound_X1_best
set_option maxRecDepth 20000 in
theorem ggX1_steps_X1_isPoint : GoodIn wsX1_steps wsX1_isPoint := goodIn_r _ [6] (by decide +kernel) (by decide +kernel)
set_option maxRecDepth 20000 in
theorem gX1_steps_X1_isPoint : GoodIn wsX1_steps (va_wsS RX1 64 yX1_isPoint wsX1_isPoint) := goodIn_app (goodIn_of _ (by decide +kernel)) ggX1_steps_X1_isPoint
set_option maxRecDepth 20000 in
theorem ggX1_steps_X1_best : GoodIn wsX1_steps wsX1_best := goodIn_r _ [10, 11, 12, 13, 14, 15, 16, 17, 2, 18, 19, 20, 21, 22, 23, 24, 25, 26, 27, 28, 29, 30] (by decide +kernel) (by decide +kernel)
set_option maxRecDepth 20000 in
theorem gX1_steps_X1_best : GoodIn wsX1_steps (wsV RX1 53 RX1 yX1_best wsX1_best) := goodIn_app (goodIn_of _ (by decide +kernel)) ggX1_steps_X1_best
set_option maxRecDepth 20000 in
theorem ggX1_path_X1_isPoint : GoodIn wsX1_path wsX1_isPoint := goodIn_r _ [9] (by decide +kernel) (by decide +kernel)
set_option maxRecDepth 20000 in
theorem gX1_path_X1_isPoint : GoodIn wsX1_path (va_wsS RX1 64 yX1_isPoint wsX1_isPoint) := goodIn_app (goodIn_of _ (by decide +kernel)) ggX1_path_X1_isPoint
set_option maxRecDepth 20000 in
theorem ggX1_path_X1_best : GoodIn wsX1_path wsX1_best := goodIn_r _ [13, 14, 15, 16, 17, 18, 19, 20, 21, 4, 30, 31, 32, 33, 34, 35, 36, 37, 38, 39, 40, 41] (by decide +kernel) (by decide +kernel)
set_option maxRecDepth 20000 in
theorem gX1_path_X1_best : GoodIn wsX1_path (wsV RX1 53 RX1 yX1_best wsX1_best) := goodIn_app (goodIn_of _ (by decide +kernel)) ggX1_path_X1_best
set_option maxRecDepth 20000 in
theorem ggX1_path_X1_walk : GoodIn wsX1_path wsX1_walk := goodIn_r _ [25, 21, 15, 14, 2, 3, 26, 27, 28, 8, 29, 16, 19, 18, 17, 20, 30, 31, 32, 33, 34, 35, 36, 37, 38, 39, 40, 41] (by decide +kernel) (by decide +kernel)
set_option maxRecDepth 20000 in
theorem gX1_path_X1_walk : GoodIn wsX1_path (wsV RX1 57 RX1 yX1_walk wsX1_walk) := goodIn_app (goodIn_of _ (by decide +kernel)) ggX1_path_X1_walk
set_option maxRecDepth 20000 in
theorem ggX1_earliest_X1_isPoint : GoodIn wsX1_earliest wsX1_isPoint := goodIn_r _ [7] (by decide +kernel) (by decide +kernel)
set_option maxRecDepth 20000 in
theorem gX1_earliest_X1_isPoint : GoodIn wsX1_earliest (va_wsS RX1 64 yX1_isPoint wsX1_isPoint) := goodIn_app (goodIn_of _ (by decide +kernel)) ggX1_earliest_X1_isPoint
set_option maxRecDepth 20000 in
theorem ggX1_earliest_X1_best : GoodIn wsX1_earliest wsX1_best := goodIn_r _ [11, 12, 13, 14, 15, 16, 17, 18, 19, 2, 20, 21, 22, 23, 24, 25, 26, 27, 28, 29, 30, 31] (by decide +kernel) (by decide +kernel)
set_option maxRecDepth 20000 in
theorem gX1_earliest_X1_best : GoodIn wsX1_earliest (wsV RX1 53 RX1 yX1_best wsX1_best) := goodIn_app (goodIn_of _ (by decide +kernel)) ggX1_earliest_X1_best
set_option maxRecDepth 20000 in
theorem ggX1_slack_X1_isThere : GoodIn wsX1_slack wsX1_isThere := goodIn_r _ [12, 13, 21, 22, 23, 24, 25, 26, 27, 28, 29, 30, 31, 32] (by decide +kernel) (by decide +kernel)
set_option maxRecDepth 20000 in
theorem gX1_slack_X1_isThere : GoodIn wsX1_slack (wsV RX1 76 RX1 yX1_isThere wsX1_isThere) := goodIn_app (goodIn_of _ (by decide +kernel)) ggX1_slack_X1_isThere
set_option maxRecDepth 20000 in
theorem ggX1_slack_X1_best : GoodIn wsX1_slack wsX1_best := goodIn_r _ [17, 18, 19, 13, 4, 3, 2, 6, 20, 7, 21, 22, 23, 24, 25, 26, 27, 28, 29, 30, 31, 32] (by decide +kernel) (by decide +kernel)
set_option maxRecDepth 20000 in
theorem gX1_slack_X1_best : GoodIn wsX1_slack (wsV RX1 53 RX1 yX1_best wsX1_best) := goodIn_app (goodIn_of _ (by decide +kernel)) ggX1_slack_X1_best
set_option maxRecDepth 20000 in
theorem ggL_bound_X0_bound : GoodIn wsL_bound wsX0_bound := goodIn_ca (goodIn_r _ [6, 7, 8, 9, 10, 11, 5, 12, 13, 14, 15, 16, 17, 18, 19, 20, 21, 22, 23, 24, 25, 26, 27, 28, 29, 30, 31, 32, 33, 34, 35, 36, 37, 38, 39, 40, 41, 42] (by decide +kernel) (by decide +kernel)) (goodIn_sub (fun _ h => List.mem_cons_of_mem _ (List.mem_append_right _ h)) (by decide +kernel))
set_option maxRecDepth 20000 in
theorem gL_bound_X0_bound : GoodIn wsL_bound (wsV RL 7 RX0 yX0_bound wsX0_bound) := goodIn_app (goodIn_of _ (by decide +kernel)) ggL_bound_X0_bound
set_option maxRecDepth 20000 in
theorem ggL_earliest_X0_earliest : GoodIn wsL_earliest wsX0_earliest := goodIn_ca (goodIn_r _ [6, 7, 8, 9, 10, 11, 12, 13, 5, 14, 15, 16, 17, 18, 19, 20, 21, 22, 23, 24, 25, 26, 27, 28, 29, 30, 31, 32, 33, 34, 35, 36, 37, 38, 39, 40, 41, 42, 43] (by decide +kernel) (by decide +kernel)) (goodIn_sub (fun _ h => List.mem_cons_of_mem _ (List.mem_append_right _ h)) (by decide +kernel))
set_option maxRecDepth 20000 in
theorem gL_earliest_X0_earliest : GoodIn wsL_earliest (wsV RL 15 RX0 yX0_earliest wsX0_earliest) := goodIn_app (goodIn_of _ (by decide +kernel)) ggL_earliest_X0_earliest
set_option maxRecDepth 20000 in
theorem ggL_law_X0_init : GoodIn wsL_law wsX0_init := goodIn_r _ [10, 11, 12, 13, 14, 15, 16, 6, 17, 18, 19, 20, 21, 22, 232, 233, 234, 235, 236, 237, 238, 239, 240, 241, 242] (by decide +kernel) (by decide +kernel)
set_option maxRecDepth 20000 in
theorem gL_law_X0_init : GoodIn wsL_law (wsX0_init) := ggL_law_X0_init
set_option maxRecDepth 20000 in
theorem ggL_law_X1_init : GoodIn wsL_law wsX1_init := goodIn_r _ [25, 26, 12, 13, 14, 27, 28, 6, 29, 18, 30, 31, 32, 243, 244, 245, 246, 247, 248, 249, 250, 251, 252, 253, 254] (by decide +kernel) (by decide +kernel)
set_option maxRecDepth 20000 in
theorem gL_law_X1_init : GoodIn wsL_law (wsX1_init) := ggL_law_X1_init
set_option maxRecDepth 20000 in
theorem ggL_law_X0_add : GoodIn wsL_law wsX0_add := goodIn_r _ [36, 37, 15, 16, 17, 19, 38, 39, 40, 2, 41, 42, 43, 44, 45, 46, 47, 48, 49, 50, 20, 51, 52, 53, 54, 55, 56, 57, 58, 59, 60, 61, 21, 62, 63, 64, 65, 66, 67, 68, 69, 70, 71, 72, 73, 22, 74, 75, 76, 77, 78, 79, 80, 81, 82, 83, 84, 85, 232, 233, 234, 235, 236, 237, 238, 239, 240, 241, 242] (by decide +kernel) (by decide +kernel)
set_option maxRecDepth 20000 in
theorem gL_law_X0_add : GoodIn wsL_law (wsV RL 25 RX0 yX0_add wsX0_add) := goodIn_app (goodIn_of _ (by decide +kernel)) ggL_law_X0_add
set_option maxRecDepth 20000 in
theorem ggL_law_X1_add : GoodIn wsL_law wsX1_add := goodIn_r _ [89, 90, 91, 92, 93, 27, 28, 29, 30, 94, 95, 5, 96, 97, 98, 99, 100, 101, 31, 102, 103, 104, 105, 106, 107, 32, 108, 109, 110, 111, 112, 113, 114, 115, 116, 117, 243, 244, 245, 246, 247, 248, 249, 250, 251, 252, 253, 254] (by decide +kernel) (by decide +kernel)
set_option maxRecDepth 20000 in
theorem gL_law_X1_add : GoodIn wsL_law (wsV RL 29 RX1 yX1_add wsX1_add) := goodIn_app (goodIn_of _ (by decide +kernel)) ggL_law_X1_add
set_option maxRecDepth 20000 in
theorem ggL_law_X0_off : GoodIn wsL_law wsX0_off := goodIn_r _ [121, 19, 38, 122, 123, 124, 2, 125, 37, 232, 233, 234, 235, 236, 237, 238, 239, 240, 241, 242] (by decide +kernel) (by decide +kernel)
set_option maxRecDepth 20000 in
theorem gL_law_X0_off : GoodIn wsL_law (wsV RL 30 RX0 yX0_off wsX0_off) := goodIn_app (goodIn_of _ (by decide +kernel)) ggL_law_X0_off
set_option maxRecDepth 20000 in
theorem ggL_law_X1_off : GoodIn wsL_law wsX1_off := goodIn_r _ [129, 90, 30, 130, 131, 132, 5, 133, 93, 243, 244, 245, 246, 247, 248, 249, 250, 251, 252, 253, 254] (by decide +kernel) (by decide +kernel)
set_option maxRecDepth 20000 in
theorem gL_law_X1_off : GoodIn wsL_law (wsV RL 34 RX1 yX1_off wsX1_off) := goodIn_app (goodIn_of _ (by decide +kernel)) ggL_law_X1_off
set_option maxRecDepth 20000 in
theorem ggL_law_X0_on : GoodIn wsL_law wsX0_on := goodIn_r _ [137, 19, 15, 16, 17, 38, 122, 123, 124, 2, 125, 37, 47, 48, 49, 50, 20, 51, 52, 53, 54, 55, 56, 57, 44, 45, 46, 58, 59, 60, 61, 21, 62, 63, 64, 65, 66, 67, 68, 69, 70, 71, 72, 73, 22, 74, 75, 76, 77, 78, 79, 80, 81, 82, 83, 84, 85, 232, 233, 234, 235, 236, 237, 238, 239, 240, 241, 242] (by decide +kernel) (by decide +kernel)
set_option maxRecDepth 20000 in
theorem gL_law_X0_on : GoodIn wsL_law (wsV RL 35 RX0 yX0_on wsX0_on) := goodIn_app (goodIn_of _ (by decide +kernel)) ggL_law_X0_on
set_option maxRecDepth 20000 in
theorem ggL_law_X1_on : GoodIn wsL_law wsX1_on := goodIn_r _ [141, 90, 30, 27, 28, 29, 130, 131, 132, 5, 133, 93, 97, 98, 99, 100, 101, 31, 102, 103, 104, 105, 106, 107, 32, 108, 109, 110, 111, 112, 113, 114, 115, 116, 117, 243, 244, 245, 246, 247, 248, 249, 250, 251, 252, 253, 254] (by decide +kernel) (by decide +kernel)
set_option maxRecDepth 20000 in
theorem gL_law_X1_on : GoodIn wsL_law (wsV RL 39 RX1 yX1_on wsX1_on) := goodIn_app (goodIn_of _ (by decide +kernel)) ggL_law_X1_on
set_option maxRecDepth 20000 in
theorem ggL_law_L_bound : GoodIn wsL_law wsL_bound := goodIn_ca (goodIn_r _ [145, 146, 147, 148, 149, 2, 150, 151, 152, 20, 44, 45, 46, 58, 59, 60, 61, 57, 21, 62, 63, 64, 65, 37, 19, 66, 67, 68, 69, 15, 16, 17, 232, 233, 234, 235, 236, 237, 238, 239, 240, 241, 242] (by decide +kernel) (by decide +kernel)) (goodIn_sub (fun _ h => List.mem_append_right _ h) (by decide +kernel))
set_option maxRecDepth 20000 in
theorem gL_law_L_bound : GoodIn wsL_law (va_wsS RL 40 yL_bound wsL_bound) := goodIn_app (goodIn_of _ (by decide +kernel)) ggL_law_L_bound
set_option maxRecDepth 20000 in
theorem ggL_law_X1_bound : GoodIn wsL_law wsX1_bound := goodIn_r _ [156, 90, 101, 108, 94, 95, 5, 96, 104, 105, 106, 107, 32, 93, 28, 27, 30, 29, 109, 243, 244, 245, 246, 247, 248, 249, 250, 251, 252, 253, 254] (by decide +kernel) (by decide +kernel)
set_option maxRecDepth 20000 in
theorem gL_law_X1_bound : GoodIn wsL_law (wsV RL 45 RX1 yX1_bound wsX1_bound) := goodIn_app (goodIn_of _ (by decide +kernel)) ggL_law_X1_bound
set_option maxRecDepth 20000 in
theorem ggL_law_X1_thrown : GoodIn wsL_law wsX1_thrown := goodIn_r _ [160, 90, 243, 244, 245, 246, 247, 248, 249, 250, 251, 252, 253, 254] (by decide +kernel) (by decide +kernel)
set_option maxRecDepth 20000 in
theorem gL_law_X1_thrown : GoodIn wsL_law (wsV RL 46 RX1 yX1_thrown wsX1_thrown) := goodIn_app (goodIn_of _ (by decide +kernel)) ggL_law_X1_thrown
set_option maxRecDepth 20000 in
theorem ggL_law_X0_steps : GoodIn wsL_law wsX0_steps := goodIn_r _ [164, 21, 53, 54, 55, 2, 56, 20, 57, 44, 45, 46, 58, 59, 60, 61, 62, 63, 64, 65, 37, 19, 66, 67, 68, 69, 15, 16, 17, 232, 233, 234, 235, 236, 237, 238, 239, 240, 241, 242] (by decide +kernel) (by decide +kernel)
set_option maxRecDepth 20000 in
theorem gL_law_X0_steps : GoodIn wsL_law (wsV RL 50 RX0 yX0_steps wsX0_steps) := goodIn_app (goodIn_of _ (by decide +kernel)) ggL_law_X0_steps
set_option maxRecDepth 20000 in
theorem ggL_law_X1_steps : GoodIn wsL_law wsX1_steps := goodIn_r _ [168, 90, 109, 94, 95, 5, 96, 104, 105, 106, 107, 32, 108, 93, 28, 27, 30, 29, 101, 243, 244, 245, 246, 247, 248, 249, 250, 251, 252, 253, 254] (by decide +kernel) (by decide +kernel)
set_option maxRecDepth 20000 in
theorem gL_law_X1_steps : GoodIn wsL_law (wsV RL 54 RX1 yX1_steps wsX1_steps) := goodIn_app (goodIn_of _ (by decide +kernel)) ggL_law_X1_steps
set_option maxRecDepth 20000 in
theorem ggL_law_X0_path : GoodIn wsL_law wsX0_path := goodIn_r _ [172, 51, 20, 52, 53, 54, 55, 2, 56, 57, 44, 45, 46, 58, 59, 60, 61, 21, 62, 63, 64, 65, 37, 19, 66, 67, 68, 69, 15, 16, 17, 74, 75, 76, 77, 70, 71, 72, 73, 22, 78, 79, 80, 81, 82, 83, 84, 85, 232, 233, 234, 235, 236, 237, 238, 239, 240, 241, 242] (by decide +kernel) (by decide +kernel)
set_option maxRecDepth 20000 in
theorem gL_law_X0_path : GoodIn wsL_law (wsV RL 55 RX0 yX0_path wsX0_path) := goodIn_app (goodIn_of _ (by decide +kernel)) ggL_law_X0_path
set_option maxRecDepth 20000 in
theorem ggL_law_X1_path : GoodIn wsL_law wsX1_path := goodIn_r _ [176, 90, 31, 102, 101, 103, 94, 95, 5, 96, 104, 105, 106, 107, 32, 108, 93, 28, 27, 30, 29, 109, 110, 111, 112, 113, 114, 115, 116, 117, 243, 244, 245, 246, 247, 248, 249, 250, 251, 252, 253, 254] (by decide +kernel) (by decide +kernel)
set_option maxRecDepth 20000 in
theorem gL_law_X1_path : GoodIn wsL_law (wsV RL 58 RX1 yX1_path wsX1_path) := goodIn_app (goodIn_of _ (by decide +kernel)) ggL_law_X1_path
set_option maxRecDepth 20000 in
theorem ggL_law_X0_row : GoodIn wsL_law wsX0_row := goodIn_r _ [180, 51, 232, 233, 234, 235, 236, 237, 238, 239, 240, 241, 242] (by decide +kernel) (by decide +kernel)
set_option maxRecDepth 20000 in
theorem gL_law_X0_row : GoodIn wsL_law (wsV RL 59 RX0 yX0_row wsX0_row) := goodIn_app (goodIn_of _ (by decide +kernel)) ggL_law_X0_row
set_option maxRecDepth 20000 in
theorem ggL_law_X1_row : GoodIn wsL_law wsX1_row := goodIn_r _ [184, 90, 102, 243, 244, 245, 246, 247, 248, 249, 250, 251, 252, 253, 254] (by decide +kernel) (by decide +kernel)
set_option maxRecDepth 20000 in
theorem gL_law_X1_row : GoodIn wsL_law (wsV RL 62 RX1 yX1_row wsX1_row) := goodIn_app (goodIn_of _ (by decide +kernel)) ggL_law_X1_row
set_option maxRecDepth 20000 in
theorem ggL_law_X0_rowAt : GoodIn wsL_law wsX0_rowAt := goodIn_r _ [188, 51, 22, 232, 233, 234, 235, 236, 237, 238, 239, 240, 241, 242] (by decide +kernel) (by decide +kernel)
set_option maxRecDepth 20000 in
theorem gL_law_X0_rowAt : GoodIn wsL_law (wsV RL 63 RX0 yX0_rowAt wsX0_rowAt) := goodIn_app (goodIn_of _ (by decide +kernel)) ggL_law_X0_rowAt
set_option maxRecDepth 20000 in
theorem ggL_law_X1_rowAt : GoodIn wsL_law wsX1_rowAt := goodIn_r _ [192, 90, 102, 31, 243, 244, 245, 246, 247, 248, 249, 250, 251, 252, 253, 254] (by decide +kernel) (by decide +kernel)
set_option maxRecDepth 20000 in
theorem gL_law_X1_rowAt : GoodIn wsL_law (wsV RL 66 RX1 yX1_rowAt wsX1_rowAt) := goodIn_app (goodIn_of _ (by decide +kernel)) ggL_law_X1_rowAt
set_option maxRecDepth 20000 in
theorem ggL_law_X0_length : GoodIn wsL_law wsX0_length := goodIn_r _ [196, 52, 232, 233, 234, 235, 236, 237, 238, 239, 240, 241, 242] (by decide +kernel) (by decide +kernel)
set_option maxRecDepth 20000 in
theorem gL_law_X0_length : GoodIn wsL_law (wsV RL 67 RX0 yX0_length wsX0_length) := goodIn_app (goodIn_of _ (by decide +kernel)) ggL_law_X0_length
set_option maxRecDepth 20000 in
theorem ggL_law_X1_length : GoodIn wsL_law wsX1_length := goodIn_r _ [200, 90, 102, 103, 243, 244, 245, 246, 247, 248, 249, 250, 251, 252, 253, 254] (by decide +kernel) (by decide +kernel)
set_option maxRecDepth 20000 in
theorem gL_law_X1_length : GoodIn wsL_law (wsV RL 71 RX1 yX1_length wsX1_length) := goodIn_app (goodIn_of _ (by decide +kernel)) ggL_law_X1_length
set_option maxRecDepth 20000 in
theorem ggL_law_L_earliest : GoodIn wsL_law wsL_earliest := goodIn_ca (goodIn_r _ [203, 146, 204, 205, 206, 2, 207, 151, 152, 20, 57, 208, 44, 45, 46, 58, 59, 60, 61, 21, 62, 63, 64, 65, 37, 19, 66, 67, 68, 69, 15, 16, 17, 232, 233, 234, 235, 236, 237, 238, 239, 240, 241, 242] (by decide +kernel) (by decide +kernel)) (goodIn_sub (fun _ h => List.mem_append_right _ h) (by decide +kernel))
set_option maxRecDepth 20000 in
theorem gL_law_L_earliest : GoodIn wsL_law (va_wsS RL 72 yL_earliest wsL_earliest) := goodIn_app (goodIn_of _ (by decide +kernel)) ggL_law_L_earliest
set_option maxRecDepth 20000 in
theorem ggL_law_X1_earliest : GoodIn wsL_law wsX1_earliest := goodIn_r _ [212, 90, 101, 213, 94, 95, 5, 96, 104, 105, 106, 107, 32, 108, 93, 28, 27, 30, 29, 109, 243, 244, 245, 246, 247, 248, 249, 250, 251, 252, 253, 254] (by decide +kernel) (by decide +kernel)
set_option maxRecDepth 20000 in
theorem gL_law_X1_earliest : GoodIn wsL_law (wsV RL 75 RX1 yX1_earliest wsX1_earliest) := goodIn_app (goodIn_of _ (by decide +kernel)) ggL_law_X1_earliest
set_option maxRecDepth 20000 in
theorem ggL_law_X0_slack : GoodIn wsL_law wsX0_slack := goodIn_r _ [217, 19, 218, 16, 17, 20, 15, 122, 123, 124, 2, 125, 37, 58, 59, 60, 61, 57, 21, 62, 63, 64, 65, 66, 67, 68, 69, 232, 233, 234, 235, 236, 237, 238, 239, 240, 241, 242] (by decide +kernel) (by decide +kernel)
set_option maxRecDepth 20000 in
theorem gL_law_X0_slack : GoodIn wsL_law (wsV RL 76 RX0 yX0_slack wsX0_slack) := goodIn_app (goodIn_of _ (by decide +kernel)) ggL_law_X0_slack
set_option maxRecDepth 20000 in
theorem ggL_law_X1_slack : GoodIn wsL_law wsX1_slack := goodIn_r _ [222, 90, 30, 27, 28, 223, 29, 101, 130, 131, 132, 5, 133, 93, 104, 105, 106, 107, 32, 108, 109, 243, 244, 245, 246, 247, 248, 249, 250, 251, 252, 253, 254] (by decide +kernel) (by decide +kernel)
set_option maxRecDepth 20000 in
theorem gL_law_X1_slack : GoodIn wsL_law (wsV RL 79 RX1 yX1_slack wsX1_slack) := goodIn_app (goodIn_of _ (by decide +kernel)) ggL_law_X1_slack
set_option maxRecDepth 20000 in
theorem ggL_law_X0_alive : GoodIn wsL_law wsX0_alive := goodIn_r _ [227, 38, 232, 233, 234, 235, 236, 237, 238, 239, 240, 241, 242] (by decide +kernel) (by decide +kernel)
set_option maxRecDepth 20000 in
theorem gL_law_X0_alive : GoodIn wsL_law (wsV RL 80 RX0 yX0_alive wsX0_alive) := goodIn_app (goodIn_of _ (by decide +kernel)) ggL_law_X0_alive
set_option maxRecDepth 20000 in
theorem ggL_law_X1_alive : GoodIn wsL_law wsX1_alive := goodIn_r _ [231, 90, 93, 30, 243, 244, 245, 246, 247, 248, 249, 250, 251, 252, 253, 254] (by decide +kernel) (by decide +kernel)
set_option maxRecDepth 20000 in
theorem gL_law_X1_alive : GoodIn wsL_law (wsV RL 83 RX1 yX1_alive wsX1_alive) := goodIn_app (goodIn_of _ (by decide +kernel)) ggL_law_X1_alive
