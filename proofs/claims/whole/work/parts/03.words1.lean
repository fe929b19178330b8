set_option maxRecDepth 20000 in
theorem ggX6_attempt_X1_scoreBehind : GoodIn wsX6_attempt wsX1_scoreBehind := goodIn_r _ [19, 20, 21, 22, 23, 24, 18, 25, 26, 27, 28, 29, 30, 31, 32, 33, 34, 35, 36, 13, 5, 14, 37, 38, 39, 40, 41, 42, 43, 44, 45, 46, 47, 48, 49, 50, 51, 52, 53, 54, 55, 56, 57, 58, 59, 60, 61, 62, 63, 64, 65, 66, 67, 68, 69, 70, 71, 72, 73, 74, 75, 76, 77, 78, 79, 80, 81, 82, 83, 84, 85, 86, 87, 88, 89, 90, 91, 92, 93, 94, 95, 96, 97, 98, 99, 100, 101, 102, 103, 104, 105, 106, 107, 108, 109, 110, 111, 112, 113, 120, 121, 122, 123, 124, 125, 126, 127, 128, 129, 130, 131, 132, 133, 134, 135, 136, 137, 138, 139] (by decide +kernel) (by decide +kernel)
set_option maxRecDepth 20000 in
theorem gX6_attempt_X1_scoreBehind : GoodIn wsX6_attempt (wsV RX6 108 RX1 yX1_scoreBehind wsX1_scoreBehind) := goodIn_app (goodIn_of _ (by decide +kernel)) ggX6_attempt_X1_scoreBehind
set_option maxRecDepth 20000 in
theorem ggX6_undo_X6_planAt : GoodIn wsX6_undo wsX6_planAt := goodIn_r _ [5, 6, 7, 90, 91, 92, 93, 94, 95] (by decide +kernel) (by decide +kernel)
set_option maxRecDepth 20000 in
theorem gX6_undo_X6_planAt : GoodIn wsX6_undo (wsV RX6 76 RX6 yX6_planAt wsX6_planAt) := goodIn_app (goodIn_of _ (by decide +kernel)) ggX6_undo_X6_planAt
set_option maxRecDepth 20000 in
theorem ggX6_undo_X1_undoable : GoodIn wsX6_undo wsX1_undoable := goodIn_r _ [12, 13, 14, 15, 73, 74, 75, 76, 77, 78, 79, 80, 81, 82, 83, 84, 85, 86, 87, 88, 89] (by decide +kernel) (by decide +kernel)
set_option maxRecDepth 20000 in
theorem gX6_undo_X1_undoable : GoodIn wsX6_undo (wsV RX6 112 RX1 yX1_undoable wsX1_undoable) := goodIn_app (goodIn_of _ (by decide +kernel)) ggX6_undo_X1_undoable
set_option maxRecDepth 20000 in
theorem ggX6_undo_X1_takeBack : GoodIn wsX6_undo wsX1_takeBack := goodIn_r _ [19, 15, 13, 14, 20, 21, 22, 23, 24, 25, 26, 27, 28, 29, 30, 31, 32, 33, 34, 11, 35, 36, 37, 38, 39, 40, 41, 42, 43, 44, 45, 46, 47, 48, 49, 50, 51, 52, 53, 54, 55, 56, 57, 58, 59, 60, 61, 62, 63, 64, 65, 66, 67, 68, 69, 70, 71, 4, 72, 73, 74, 75, 76, 77, 78, 79, 80, 81, 82, 83, 84, 85, 86, 87, 88, 89, 96, 97, 98, 99, 100, 101, 102, 103, 104] (by decide +kernel) (by decide +kernel)
set_option maxRecDepth 20000 in
theorem gX6_undo_X1_takeBack : GoodIn wsX6_undo (wsV RX6 115 RX1 yX1_takeBack wsX1_takeBack) := goodIn_app (goodIn_of _ (by decide +kernel)) ggX6_undo_X1_takeBack
set_option maxRecDepth 20000 in
theorem ggX6_begin_X6_planAt : GoodIn wsX6_begin wsX6_planAt := goodIn_r _ [5, 6, 7, 25, 26, 27, 28, 29, 30] (by decide +kernel) (by decide +kernel)
set_option maxRecDepth 20000 in
theorem gX6_begin_X6_planAt : GoodIn wsX6_begin (wsV RX6 76 RX6 yX6_planAt wsX6_planAt) := goodIn_app (goodIn_of _ (by decide +kernel)) ggX6_begin_X6_planAt
set_option maxRecDepth 20000 in
theorem ggX6_end_X6_planAt : GoodIn wsX6_end wsX6_planAt := goodIn_r _ [5, 6, 7, 84, 85, 86, 87, 88, 89] (by decide +kernel) (by decide +kernel)
set_option maxRecDepth 20000 in
theorem gX6_end_X6_planAt : GoodIn wsX6_end (wsV RX6 76 RX6 yX6_planAt wsX6_planAt) := goodIn_app (goodIn_of _ (by decide +kernel)) ggX6_end_X6_planAt
set_option maxRecDepth 20000 in
theorem ggX6_end_X1_closeBatch : GoodIn wsX6_end wsX1_closeBatch := goodIn_r _ [12, 13, 14, 15, 16, 17, 11, 18, 19, 20, 21, 22, 23, 24, 25, 26, 27, 28, 29, 30, 31, 32, 33, 34, 35, 36, 37, 38, 39, 40, 41, 42, 43, 44, 45, 46, 47, 48, 49, 50, 51, 52, 53, 54, 55, 56, 57, 58, 59, 60, 61, 62, 63, 64, 65, 66, 67, 68, 69, 70, 71, 4, 72, 73, 74, 75, 76, 77, 78, 79, 80, 81, 82, 83, 90, 91, 92, 93, 94, 95, 96, 97, 98, 99, 100, 101, 102, 103, 104] (by decide +kernel) (by decide +kernel)
set_option maxRecDepth 20000 in
theorem gX6_end_X1_closeBatch : GoodIn wsX6_end (wsV RX6 134 RX1 yX1_closeBatch wsX1_closeBatch) := goodIn_app (goodIn_of _ (by decide +kernel)) ggX6_end_X1_closeBatch
set_option maxRecDepth 20000 in
theorem ggX6_member_X6_planAt : GoodIn wsX6_member wsX6_planAt := goodIn_r _ [6, 7, 8, 34, 35, 36, 37, 38, 39] (by decide +kernel) (by decide +kernel)
set_option maxRecDepth 20000 in
theorem gX6_member_X6_planAt : GoodIn wsX6_member (wsV RX6 76 RX6 yX6_planAt wsX6_planAt) := goodIn_app (goodIn_of _ (by decide +kernel)) ggX6_member_X6_planAt
set_option maxRecDepth 20000 in
theorem ggX6_member_X5_read : GoodIn wsX6_member wsX5_read := goodIn_r _ [13, 14, 15, 16, 17, 18, 12, 19, 20, 21, 5, 22, 40, 41] (by decide +kernel) (by decide +kernel)
set_option maxRecDepth 20000 in
theorem gX6_member_X5_read : GoodIn wsX6_member (wsV RX6 138 RX5 yX5_read wsX5_read) := goodIn_app (goodIn_of _ (by decide +kernel)) ggX6_member_X5_read
set_option maxRecDepth 20000 in
theorem ggX6_score_X6_planAt : GoodIn wsX6_score wsX6_planAt := goodIn_r _ [6, 7, 8, 22, 23, 24, 25, 26, 27] (by decide +kernel) (by decide +kernel)
set_option maxRecDepth 20000 in
theorem gX6_score_X6_planAt : GoodIn wsX6_score (wsV RX6 76 RX6 yX6_planAt wsX6_planAt) := goodIn_app (goodIn_of _ (by decide +kernel)) ggX6_score_X6_planAt
set_option maxRecDepth 20000 in
theorem ggX6_score_X6_isLevel : GoodIn wsX6_score wsX6_isLevel := goodIn_r _ [11, 12, 13, 5, 14] (by decide +kernel) (by decide +kernel)
set_option maxRecDepth 20000 in
theorem gX6_score_X6_isLevel : GoodIn wsX6_score (va_wsS RX6 103 yX6_isLevel wsX6_isLevel) := goodIn_app (goodIn_of _ (by decide +kernel)) ggX6_score_X6_isLevel
set_option maxRecDepth 20000 in
theorem ggX6_score_X1_scoreNow : GoodIn wsX6_score wsX1_scoreNow := goodIn_r _ [19, 20, 21, 28, 29, 30, 31, 32, 33, 34, 35, 36, 37, 38, 39, 40, 41, 42, 43, 44, 45] (by decide +kernel) (by decide +kernel)
set_option maxRecDepth 20000 in
theorem gX6_score_X1_scoreNow : GoodIn wsX6_score (wsV RX6 142 RX1 yX1_scoreNow wsX1_scoreNow) := goodIn_app (goodIn_of _ (by decide +kernel)) ggX6_score_X1_scoreNow
set_option maxRecDepth 20000 in
theorem ggX6_worth_X6_planAt : GoodIn wsX6_worth wsX6_planAt := goodIn_r _ [7, 8, 9, 73, 74, 75, 76, 77, 78] (by decide +kernel) (by decide +kernel)
set_option maxRecDepth 20000 in
theorem gX6_worth_X6_planAt : GoodIn wsX6_worth (wsV RX6 76 RX6 yX6_planAt wsX6_planAt) := goodIn_app (goodIn_of _ (by decide +kernel)) ggX6_worth_X6_planAt
set_option maxRecDepth 20000 in
theorem ggX6_worth_X3_has : GoodIn wsX6_worth wsX3_has := goodIn_r _ [14, 15, 90, 91] (by decide +kernel) (by decide +kernel)
set_option maxRecDepth 20000 in
theorem gX6_worth_X3_has : GoodIn wsX6_worth (wsV RX6 80 RX3 yX3_has wsX3_has) := goodIn_app (goodIn_of _ (by decide +kernel)) ggX6_worth_X3_has
set_option maxRecDepth 20000 in
theorem ggX6_worth_X6_within : GoodIn wsX6_worth wsX6_within := goodIn_r _ [18] (by decide +kernel) (by decide +kernel)
set_option maxRecDepth 20000 in
theorem gX6_worth_X6_within : GoodIn wsX6_worth (va_wsS RX6 145 yX6_within wsX6_within) := goodIn_app (goodIn_of _ (by decide +kernel)) ggX6_worth_X6_within
set_option maxRecDepth 20000 in
theorem ggX6_worth_X1_fromNothing : GoodIn wsX6_worth wsX1_fromNothing := goodIn_r _ [23, 24, 25, 26, 27, 28, 29, 30, 31, 32, 33, 34, 35, 36, 37, 38, 39, 40, 41, 42, 43, 44, 45, 46, 47, 48, 49, 50, 51, 52, 53, 54, 55, 56, 57, 58, 59, 60, 61, 62, 63, 64, 65, 66, 67, 68, 69, 70, 71, 6, 72, 79, 80, 81, 82, 83, 84, 85, 86, 87, 88, 89, 90, 91, 92, 93, 94, 95, 96, 97, 98] (by decide +kernel) (by decide +kernel)
set_option maxRecDepth 20000 in
theorem gX6_worth_X1_fromNothing : GoodIn wsX6_worth (wsV RX6 72 RX1 yX1_fromNothing wsX1_fromNothing) := goodIn_app (goodIn_of _ (by decide +kernel)) ggX6_worth_X1_fromNothing
set_option maxRecDepth 20000 in
theorem ggX6_check_X6_planAt : GoodIn wsX6_check wsX6_planAt := goodIn_r _ [5, 6, 7, 67, 68, 69, 70, 71, 72] (by decide +kernel) (by decide +kernel)
set_option maxRecDepth 20000 in
theorem gX6_check_X6_planAt : GoodIn wsX6_check (wsV RX6 76 RX6 yX6_planAt wsX6_planAt) := goodIn_app (goodIn_of _ (by decide +kernel)) ggX6_check_X6_planAt
set_option maxRecDepth 20000 in
theorem ggX6_check_X1_firstFalse : GoodIn wsX6_check wsX1_firstFalse := goodIn_r _ [12, 13, 14, 15, 16, 11, 17, 18, 19, 20, 21, 22, 23, 24, 25, 26, 27, 28, 29, 30, 31, 32, 33, 34, 35, 36, 37, 38, 39, 40, 41, 42, 43, 44, 45, 46, 47, 48, 49, 50, 51, 52, 53, 54, 55, 56, 57, 58, 59, 60, 61, 62, 63, 64, 65, 4, 66, 73, 74, 75, 76, 77, 78, 79, 80, 81, 82, 83, 84, 85, 86, 87, 88, 89, 90, 91, 92] (by decide +kernel) (by decide +kernel)
set_option maxRecDepth 20000 in
theorem gX6_check_X1_firstFalse : GoodIn wsX6_check (wsV RX6 149 RX1 yX1_firstFalse wsX1_firstFalse) := goodIn_app (goodIn_of _ (by decide +kernel)) ggX6_check_X1_firstFalse
set_option maxRecDepth 20000 in
theorem ggX6_every_X6_within : GoodIn wsX6_every wsX6_within := goodIn_r _ [5] (by decide +kernel) (by decide +kernel)
set_option maxRecDepth 20000 in
theorem gX6_every_X6_within : GoodIn wsX6_every (va_wsS RX6 145 yX6_within wsX6_within) := goodIn_app (goodIn_of _ (by decide +kernel)) ggX6_every_X6_within
set_option maxRecDepth 20000 in
theorem ggX6_mend_X6_planAt : GoodIn wsX6_mend wsX6_planAt := goodIn_r _ [6, 7, 8, 75, 76, 77, 78, 79, 80] (by decide +kernel) (by decide +kernel)
set_option maxRecDepth 20000 in
theorem gX6_mend_X6_planAt : GoodIn wsX6_mend (wsV RX6 76 RX6 yX6_planAt wsX6_planAt) := goodIn_app (goodIn_of _ (by decide +kernel)) ggX6_mend_X6_planAt
set_option maxRecDepth 20000 in
theorem ggX6_mend_X3_has : GoodIn wsX6_mend wsX3_has := goodIn_r _ [13, 14, 92, 93] (by decide +kernel) (by decide +kernel)
set_option maxRecDepth 20000 in
theorem gX6_mend_X3_has : GoodIn wsX6_mend (wsV RX6 80 RX3 yX3_has wsX3_has) := goodIn_app (goodIn_of _ (by decide +kernel)) ggX6_mend_X3_has
set_option maxRecDepth 20000 in
theorem ggX6_mend_X1_isFalse : GoodIn wsX6_mend wsX1_isFalse := goodIn_r _ [19, 20, 21, 22, 23, 24, 25, 26, 27, 28, 29, 30, 31, 32, 33, 34, 35, 36, 37, 38, 39, 40, 41, 42, 43, 44, 45, 46, 47, 48, 49, 50, 51, 52, 53, 54, 55, 56, 57, 58, 59, 60, 61, 62, 63, 64, 65, 66, 67, 68, 5, 69, 81, 82, 83, 84, 85, 86, 87, 88, 89, 90, 91, 92, 93, 94, 95, 96, 97, 98, 99, 100] (by decide +kernel) (by decide +kernel)
set_option maxRecDepth 20000 in
theorem gX6_mend_X1_isFalse : GoodIn wsX6_mend (wsV RX6 152 RX1 yX1_isFalse wsX1_isFalse) := goodIn_app (goodIn_of _ (by decide +kernel)) ggX6_mend_X1_isFalse
set_option maxRecDepth 20000 in
theorem ggX6_mend_X1_fromNothing : GoodIn wsX6_mend wsX1_fromNothing := goodIn_r _ [73, 21, 22, 23, 24, 25, 26, 27, 28, 29, 30, 31, 32, 33, 34, 35, 36, 37, 38, 39, 40, 41, 42, 43, 44, 45, 46, 47, 48, 49, 50, 51, 52, 53, 54, 55, 56, 57, 58, 59, 60, 61, 62, 63, 64, 65, 66, 67, 68, 5, 69, 81, 82, 83, 84, 85, 86, 87, 88, 89, 90, 91, 92, 93, 94, 95, 96, 97, 98, 99, 100] (by decide +kernel) (by decide +kernel)
set_option maxRecDepth 20000 in
theorem gX6_mend_X1_fromNothing : GoodIn wsX6_mend (wsV RX6 72 RX1 yX1_fromNothing wsX1_fromNothing) := goodIn_app (goodIn_of _ (by decide +kernel)) ggX6_mend_X1_fromNothing
set_option maxRecDepth 20000 in
theorem ggX6_mend_X6_oneIf : GoodIn wsX6_mend wsX6_oneIf := goodIn_r _ [69] (by decide +kernel) (by decide +kernel)
set_option maxRecDepth 20000 in
theorem gX6_mend_X6_oneIf : GoodIn wsX6_mend (va_wsS RX6 88 yX6_oneIf wsX6_oneIf) := goodIn_app (goodIn_of _ (by decide +kernel)) ggX6_mend_X6_oneIf
set_option maxRecDepth 20000 in
theorem ggX6_keep_X6_planAt : GoodIn wsX6_keep wsX6_planAt := goodIn_r _ [10, 11, 12, 47, 48, 49, 50, 51, 52] (by decide +kernel) (by decide +kernel)
set_option maxRecDepth 20000 in
theorem gX6_keep_X6_planAt : GoodIn wsX6_keep (wsV RX6 76 RX6 yX6_planAt wsX6_planAt) := goodIn_app (goodIn_of _ (by decide +kernel)) ggX6_keep_X6_planAt
set_option maxRecDepth 20000 in
theorem ggX6_keep_X4_init : GoodIn wsX6_keep wsX4_init := goodIn_r _ [15, 16, 17, 18, 19, 20, 21, 22, 23, 24, 25, 26, 27, 28, 29, 30, 31, 32, 33, 34, 35, 36, 37, 38, 39, 40, 41, 42, 43, 44, 45, 46, 55, 56, 53, 54, 57, 58, 59, 60, 61, 62, 63, 64, 65, 66, 67, 68, 69, 70, 71, 72, 73, 74] (by decide +kernel) (by decide +kernel)
set_option maxRecDepth 20000 in
theorem gX6_keep_X4_init : GoodIn wsX6_keep (wsX4_init) := ggX6_keep_X4_init
set_option maxRecDepth 20000 in
theorem ggX6_kept_X6_snapshotAt : GoodIn wsX6_kept wsX6_snapshotAt := goodIn_r _ [6, 7, 8, 17, 18, 19, 20, 21, 22] (by decide +kernel) (by decide +kernel)
set_option maxRecDepth 20000 in
theorem gX6_kept_X6_snapshotAt : GoodIn wsX6_kept (wsV RX6 160 RX6 yX6_snapshotAt wsX6_snapshotAt) := goodIn_app (goodIn_of _ (by decide +kernel)) ggX6_kept_X6_snapshotAt
set_option maxRecDepth 20000 in
theorem ggX6_kept_X6_isLevel : GoodIn wsX6_kept wsX6_isLevel := goodIn_r _ [11, 12, 13, 5, 14] (by decide +kernel) (by decide +kernel)
set_option maxRecDepth 20000 in
theorem gX6_kept_X6_isLevel : GoodIn wsX6_kept (va_wsS RX6 103 yX6_isLevel wsX6_isLevel) := goodIn_app (goodIn_of _ (by decide +kernel)) ggX6_kept_X6_isLevel
set_option maxRecDepth 20000 in
theorem ggX6_then_X6_snapshotAt : GoodIn wsX6_then wsX6_snapshotAt := goodIn_r _ [6, 7, 8, 25, 26, 27, 28, 29, 30] (by decide +kernel) (by decide +kernel)
set_option maxRecDepth 20000 in
theorem gX6_then_X6_snapshotAt : GoodIn wsX6_then (wsV RX6 160 RX6 yX6_snapshotAt wsX6_snapshotAt) := goodIn_app (goodIn_of _ (by decide +kernel)) ggX6_then_X6_snapshotAt
set_option maxRecDepth 20000 in
theorem ggX6_then_X5_read : GoodIn wsX6_then wsX5_read := goodIn_r _ [13, 14, 15, 16, 17, 18, 12, 19, 20, 21, 5, 22, 31, 32] (by decide +kernel) (by decide +kernel)
set_option maxRecDepth 20000 in
theorem gX6_then_X5_read : GoodIn wsX6_then (wsV RX6 138 RX5 yX5_read wsX5_read) := goodIn_app (goodIn_of _ (by decide +kernel)) ggX6_then_X5_read
set_option maxRecDepth 20000 in
theorem ggX6_told_X6_planAt : GoodIn wsX6_told wsX6_planAt := goodIn_r _ [5, 6, 7, 26, 27, 28, 29, 30, 31] (by decide +kernel) (by decide +kernel)
set_option maxRecDepth 20000 in
theorem gX6_told_X6_planAt : GoodIn wsX6_told (wsV RX6 76 RX6 yX6_planAt wsX6_planAt) := goodIn_app (goodIn_of _ (by decide +kernel)) ggX6_told_X6_planAt
set_option maxRecDepth 20000 in
theorem ggX6_told_X1_figure : GoodIn wsX6_told wsX1_figure := goodIn_r _ [12, 13, 14, 15, 16, 17, 18, 4, 19, 20, 21, 22, 11, 23, 24, 25, 32, 33, 34, 35, 36, 37, 38, 39, 40, 41, 42, 43, 44, 45, 46, 47, 48, 49, 50] (by decide +kernel) (by decide +kernel)
set_option maxRecDepth 20000 in
theorem gX6_told_X1_figure : GoodIn wsX6_told (wsV RX6 170 RX1 yX1_figure wsX1_figure) := goodIn_app (goodIn_of _ (by decide +kernel)) ggX6_told_X1_figure
set_option maxRecDepth 20000 in
theorem ggX6_isRule_X6_within : GoodIn wsX6_isRule wsX6_within := goodIn_r _ [6] (by decide +kernel) (by decide +kernel)
set_option maxRecDepth 20000 in
theorem gX6_isRule_X6_within : GoodIn wsX6_isRule (va_wsS RX6 145 yX6_within wsX6_within) := goodIn_app (goodIn_of _ (by decide +kernel)) ggX6_isRule_X6_within
set_option maxRecDepth 20000 in
theorem ggX6_isRule_X6_isLevel : GoodIn wsX6_isRule wsX6_isLevel := goodIn_r _ [9, 3, 4, 5, 6] (by decide +kernel) (by decide +kernel)
set_option maxRecDepth 20000 in
theorem gX6_isRule_X6_isLevel : GoodIn wsX6_isRule (va_wsS RX6 103 yX6_isLevel wsX6_isLevel) := goodIn_app (goodIn_of _ (by decide +kernel)) ggX6_isRule_X6_isLevel
set_option maxRecDepth 20000 in
theorem ggX6_isLevel_X6_within : GoodIn wsX6_isLevel wsX6_within := goodIn_r _ [4] (by decide +kernel) (by decide +kernel)
set_option maxRecDepth 20000 in
theorem gX6_isLevel_X6_within : GoodIn wsX6_isLevel (va_wsS RX6 145 yX6_within wsX6_within) := goodIn_app (goodIn_of _ (by decide +kernel)) ggX6_isLevel_X6_within
set_option maxRecDepth 20000 in
theorem ggX7_isPlan_X7_in : GoodIn wsX7_isPlan wsX7_in := goodIn_r _ [5] (by decide +kernel) (by decide +kernel)
set_option maxRecDepth 20000 in
theorem gX7_isPlan_X7_in : GoodIn wsX7_isPlan (va_wsS RX7 85 yX7_in wsX7_in) := goodIn_app (goodIn_of _ (by decide +kernel)) ggX7_isPlan_X7_in
set_option maxRecDepth 20000 in
theorem ggX7_findEnds_X7_at : GoodIn wsX7_findEnds wsX7_at := goodIn_r _ [7] (by decide +kernel) (by decide +kernel)
set_option maxRecDepth 20000 in
theorem gX7_findEnds_X7_at : GoodIn wsX7_findEnds (wsV RX7 92 RX7 yX7_at wsX7_at) := goodIn_app (goodIn_of _ (by decide +kernel)) ggX7_findEnds_X7_at
set_option maxRecDepth 20000 in
theorem ggX7_worthOf_X7_at : GoodIn wsX7_worthOf wsX7_at := goodIn_r _ [11] (by decide +kernel) (by decide +kernel)
set_option maxRecDepth 20000 in
theorem gX7_worthOf_X7_at : GoodIn wsX7_worthOf (wsV RX7 92 RX7 yX7_at wsX7_at) := goodIn_app (goodIn_of _ (by decide +kernel)) ggX7_worthOf_X7_at
set_option maxRecDepth 20000 in
theorem ggX7_remember_X7_worthOf : GoodIn wsX7_remember wsX7_worthOf := goodIn_r _ [9, 10, 11, 12, 2, 13, 14, 15, 16, 17, 8, 18, 19, 20, 21, 22, 23, 24, 25, 26, 27, 28, 29, 30, 31, 32, 33, 34, 35, 36, 37, 38, 39, 40, 41, 42, 43, 44, 45, 46] (by decide +kernel) (by decide +kernel)
set_option maxRecDepth 20000 in
theorem gX7_remember_X7_worthOf : GoodIn wsX7_remember (wsV RX7 99 RX7 yX7_worthOf wsX7_worthOf) := goodIn_app (goodIn_of _ (by decide +kernel)) ggX7_remember_X7_worthOf
set_option maxRecDepth 20000 in
theorem ggX7_pairs_X7_at : GoodIn wsX7_pairs wsX7_at := goodIn_r _ [11] (by decide +kernel) (by decide +kernel)
set_option maxRecDepth 20000 in
theorem gX7_pairs_X7_at : GoodIn wsX7_pairs (wsV RX7 92 RX7 yX7_at wsX7_at) := goodIn_app (goodIn_of _ (by decide +kernel)) ggX7_pairs_X7_at
set_option maxRecDepth 20000 in
theorem ggX7_object_X7_isBegun : GoodIn wsX7_object wsX7_isBegun := goodIn_r _ [10, 11, 12, 30, 31, 32, 33, 34, 35, 36, 37, 38, 39, 40, 41, 42, 43, 44, 45, 46, 47, 48, 49, 50, 51, 52, 53, 54, 55, 56, 57] (by decide +kernel) (by decide +kernel)
set_option maxRecDepth 20000 in
theorem gX7_object_X7_isBegun : GoodIn wsX7_object (wsV RX7 103 RX7 yX7_isBegun wsX7_isBegun) := goodIn_app (goodIn_of _ (by decide +kernel)) ggX7_object_X7_isBegun
set_option maxRecDepth 20000 in
theorem ggX7_object_X7_remember : GoodIn wsX7_object wsX7_remember := goodIn_r _ [16, 17, 2, 3, 5, 18, 19, 20, 9, 21, 22, 23, 1, 24, 25, 26, 27, 28, 29, 30, 31, 32, 33, 34, 35, 36, 37, 38, 39, 40, 41, 42, 43, 44, 45, 46, 47, 48, 49, 50, 51, 52, 53, 54, 55, 56, 57] (by decide +kernel) (by decide +kernel)
set_option maxRecDepth 20000 in
theorem gX7_object_X7_remember : GoodIn wsX7_object (wsV RX7 107 RX7 yX7_remember wsX7_remember) := goodIn_app (goodIn_of _ (by decide +kernel)) ggX7_object_X7_remember
set_option maxRecDepth 20000 in
theorem ggX7_object_X7_at : GoodIn wsX7_object wsX7_at := goodIn_r _ [29] (by decide +kernel) (by decide +kernel)
set_option maxRecDepth 20000 in
theorem gX7_object_X7_at : GoodIn wsX7_object (wsV RX7 92 RX7 yX7_at wsX7_at) := goodIn_app (goodIn_of _ (by decide +kernel)) ggX7_object_X7_at
set_option maxRecDepth 20000 in
theorem ggX7_object_X7_worthOf : GoodIn wsX7_object wsX7_worthOf := goodIn_r _ [21, 22, 23, 1, 2, 24, 25, 26, 27, 28, 9, 29, 30, 31, 32, 33, 34, 35, 36, 37, 38, 39, 40, 41, 42, 43, 44, 45, 46, 47, 48, 49, 50, 51, 52, 53, 54, 55, 56, 57] (by decide +kernel) (by decide +kernel)
set_option maxRecDepth 20000 in
theorem gX7_object_X7_worthOf : GoodIn wsX7_object (wsV RX7 99 RX7 yX7_worthOf wsX7_worthOf) := goodIn_app (goodIn_of _ (by decide +kernel)) ggX7_object_X7_worthOf
set_option maxRecDepth 20000 in
theorem ggX7_rule_X7_in : GoodIn wsX7_rule wsX7_in := goodIn_r _ [13] (by decide +kernel) (by decide +kernel)
set_option maxRecDepth 20000 in
theorem gX7_rule_X7_in : GoodIn wsX7_rule (va_wsS RX7 85 yX7_in wsX7_in) := goodIn_app (goodIn_of _ (by decide +kernel)) ggX7_rule_X7_in
set_option maxRecDepth 20000 in
theorem ggX7_rule_X7_isBegun : GoodIn wsX7_rule wsX7_isBegun := goodIn_r _ [17, 18, 19, 30, 31, 32, 33, 34, 35, 36, 37, 38, 39, 40, 41, 42, 43, 44, 45, 46, 47, 48, 49, 50, 51, 52, 53, 54, 55, 56, 57] (by decide +kernel) (by decide +kernel)
set_option maxRecDepth 20000 in
theorem gX7_rule_X7_isBegun : GoodIn wsX7_rule (wsV RX7 103 RX7 yX7_isBegun wsX7_isBegun) := goodIn_app (goodIn_of _ (by decide +kernel)) ggX7_rule_X7_isBegun
set_option maxRecDepth 20000 in
theorem ggX7_rule_X7_worthOf : GoodIn wsX7_rule wsX7_worthOf := goodIn_r _ [23, 6, 5, 24, 25, 4, 7, 26, 27, 28, 12, 29, 30, 31, 32, 33, 34, 35, 36, 37, 38, 39, 40, 41, 42, 43, 44, 45, 46, 47, 48, 49, 50, 51, 52, 53, 54, 55, 56, 57] (by decide +kernel) (by decide +kernel)
set_option maxRecDepth 20000 in
theorem gX7_rule_X7_worthOf : GoodIn wsX7_rule (wsV RX7 99 RX7 yX7_worthOf wsX7_worthOf) := goodIn_app (goodIn_of _ (by decide +kernel)) ggX7_rule_X7_worthOf
set_option maxRecDepth 20000 in
theorem ggX7_isRule_X7_in : GoodIn wsX7_isRule wsX7_in := goodIn_r _ [5] (by decide +kernel) (by decide +kernel)
set_option maxRecDepth 20000 in
theorem gX7_isRule_X7_in : GoodIn wsX7_isRule (va_wsS RX7 85 yX7_in wsX7_in) := goodIn_app (goodIn_of _ (by decide +kernel)) ggX7_isRule_X7_in
set_option maxRecDepth 20000 in
theorem ggX7_forget_X7_isPlan : GoodIn wsX7_forget wsX7_isPlan := goodIn_r _ [6, 7, 8, 9, 5, 10, 16, 17, 18, 19, 20, 21, 22, 23, 24, 25, 26, 27, 28, 29, 30, 31, 32, 33, 34, 35, 36, 37, 38, 39, 40, 41, 42, 43] (by decide +kernel) (by decide +kernel)
set_option maxRecDepth 20000 in
theorem gX7_forget_X7_isPlan : GoodIn wsX7_forget (wsV RX7 113 RX7 yX7_isPlan wsX7_isPlan) := goodIn_app (goodIn_of _ (by decide +kernel)) ggX7_forget_X7_isPlan
set_option maxRecDepth 20000 in
theorem ggX7_forget_X7_isRule : GoodIn wsX7_forget wsX7_isRule := goodIn_r _ [14, 15, 8, 9, 5, 10, 16, 17, 18, 19, 20, 21, 22, 23, 24, 25, 26, 27, 28, 29, 30, 31, 32, 33, 34, 35, 36, 37, 38, 39, 40, 41, 42, 43] (by decide +kernel) (by decide +kernel)
set_option maxRecDepth 20000 in
theorem gX7_forget_X7_isRule : GoodIn wsX7_forget (wsV RX7 117 RX7 yX7_isRule wsX7_isRule) := goodIn_app (goodIn_of _ (by decide +kernel)) ggX7_forget_X7_isRule
set_option maxRecDepth 20000 in
theorem ggX7_fork_X7_isPlan : GoodIn wsX7_fork wsX7_isPlan := goodIn_r _ [9, 1, 10, 11, 8, 12, 13, 14, 15, 16, 17, 18, 19, 20, 21, 22, 23, 24, 25, 26, 27, 28, 29, 30, 31, 32, 33, 34, 35, 36, 37, 38, 39, 40] (by decide +kernel) (by decide +kernel)
set_option maxRecDepth 20000 in
theorem gX7_fork_X7_isPlan : GoodIn wsX7_fork (wsV RX7 113 RX7 yX7_isPlan wsX7_isPlan) := goodIn_app (goodIn_of _ (by decide +kernel)) ggX7_fork_X7_isPlan
set_option maxRecDepth 20000 in
theorem ggX7_isFit_X7_in : GoodIn wsX7_isFit wsX7_in := goodIn_r _ [6] (by decide +kernel) (by decide +kernel)
set_option maxRecDepth 20000 in
theorem gX7_isFit_X7_in : GoodIn wsX7_isFit (va_wsS RX7 85 yX7_in wsX7_in) := goodIn_app (goodIn_of _ (by decide +kernel)) ggX7_isFit_X7_in
set_option maxRecDepth 20000 in
theorem ggX7_isFit_X7_at : GoodIn wsX7_isFit wsX7_at := goodIn_r _ [10] (by decide +kernel) (by decide +kernel)
set_option maxRecDepth 20000 in
theorem gX7_isFit_X7_at : GoodIn wsX7_isFit (wsV RX7 92 RX7 yX7_at wsX7_at) := goodIn_app (goodIn_of _ (by decide +kernel)) ggX7_isFit_X7_at
set_option maxRecDepth 20000 in
theorem ggX7_put_X7_at : GoodIn wsX7_put wsX7_at := goodIn_r _ [6] (by decide +kernel) (by decide +kernel)
set_option maxRecDepth 20000 in
theorem gX7_put_X7_at : GoodIn wsX7_put (wsV RX7 92 RX7 yX7_at wsX7_at) := goodIn_app (goodIn_of _ (by decide +kernel)) ggX7_put_X7_at
set_option maxRecDepth 20000 in
theorem ggX7_put_X7_findEnds : GoodIn wsX7_put wsX7_findEnds := goodIn_r _ [10, 11, 1, 2, 3, 4, 5, 6, 12, 13, 14, 15, 16, 17, 18, 19, 20, 21, 22, 23, 24, 25, 26, 27, 28, 29, 30, 31, 32, 33, 34, 35, 36, 37, 38, 39] (by decide +kernel) (by decide +kernel)
set_option maxRecDepth 20000 in
theorem gX7_put_X7_findEnds : GoodIn wsX7_put (wsV RX7 120 RX7 yX7_findEnds wsX7_findEnds) := goodIn_app (goodIn_of _ (by decide +kernel)) ggX7_put_X7_findEnds
set_option maxRecDepth 20000 in
theorem ggX7_firstFalse_X7_worthOf : GoodIn wsX7_firstFalse wsX7_worthOf := goodIn_r _ [7, 8, 9, 10, 11, 12, 13, 14, 15, 16, 6, 17, 18, 19, 20, 21, 22, 23, 24, 25, 26, 27, 28, 29, 30, 31, 32, 33, 34, 35, 36, 37, 38, 39, 40, 41, 42, 43, 44, 45] (by decide +kernel) (by decide +kernel)
set_option maxRecDepth 20000 in
theorem gX7_firstFalse_X7_worthOf : GoodIn wsX7_firstFalse (wsV RX7 99 RX7 yX7_worthOf wsX7_worthOf) := goodIn_app (goodIn_of _ (by decide +kernel)) ggX7_firstFalse_X7_worthOf
set_option maxRecDepth 20000 in
theorem ggX7_change_X7_isPlan : GoodIn wsX7_change wsX7_isPlan := goodIn_r _ [14, 15, 16, 17, 13, 18, 72, 73, 74, 75, 76, 77, 78, 79, 80, 81, 82, 83, 84, 85, 86, 87, 88, 89, 90, 91, 92, 93, 94, 95, 96, 97, 98, 99] (by decide +kernel) (by decide +kernel)
set_option maxRecDepth 20000 in
theorem gX7_change_X7_isPlan : GoodIn wsX7_change (wsV RX7 113 RX7 yX7_isPlan wsX7_isPlan) := goodIn_app (goodIn_of _ (by decide +kernel)) ggX7_change_X7_isPlan
set_option maxRecDepth 20000 in
theorem ggX7_change_X7_isFit : GoodIn wsX7_change wsX7_isFit := goodIn_r _ [22, 23, 24, 16, 17, 13, 18, 25, 26, 27, 28, 72, 73, 74, 75, 76, 77, 78, 79, 80, 81, 82, 83, 84, 85, 86, 87, 88, 89, 90, 91, 92, 93, 94, 95, 96, 97, 98, 99] (by decide +kernel) (by decide +kernel)
set_option maxRecDepth 20000 in
theorem gX7_change_X7_isFit : GoodIn wsX7_change (wsV RX7 123 RX7 yX7_isFit wsX7_isFit) := goodIn_app (goodIn_of _ (by decide +kernel)) ggX7_change_X7_isFit
set_option maxRecDepth 20000 in
theorem ggX7_change_X7_remember : GoodIn wsX7_change wsX7_remember := goodIn_r _ [32, 1, 24, 2, 5, 33, 34, 35, 13, 36, 37, 38, 23, 39, 40, 25, 26, 27, 28, 72, 73, 74, 75, 76, 77, 78, 79, 80, 81, 82, 83, 84, 85, 86, 87, 88, 89, 90, 91, 92, 93, 94, 95, 96, 97, 98, 99] (by decide +kernel) (by decide +kernel)
set_option maxRecDepth 20000 in
theorem gX7_change_X7_remember : GoodIn wsX7_change (wsV RX7 107 RX7 yX7_remember wsX7_remember) := goodIn_app (goodIn_of _ (by decide +kernel)) ggX7_change_X7_remember
set_option maxRecDepth 20000 in
theorem ggX7_change_X7_know : GoodIn wsX7_change wsX7_know := goodIn_r _ [44, 45, 46, 47, 48, 49, 50, 3, 51, 72, 73, 74, 75, 76, 77, 78, 79, 80, 81, 82, 83, 84, 85, 86, 87, 88, 89, 90, 91, 92, 93, 94, 95, 96, 97, 98, 99] (by decide +kernel) (by decide +kernel)
set_option maxRecDepth 20000 in
theorem gX7_change_X7_know : GoodIn wsX7_change (wsV RX7 127 RX7 yX7_know wsX7_know) := goodIn_app (goodIn_of _ (by decide +kernel)) ggX7_change_X7_know
set_option maxRecDepth 20000 in
theorem ggX7_change_X7_put : GoodIn wsX7_change wsX7_put := goodIn_r _ [55, 24, 25, 26, 27, 13, 28, 56, 57, 58, 59, 23, 72, 73, 74, 75, 76, 77, 78, 79, 80, 81, 82, 83, 84, 85, 86, 87, 88, 89, 90, 91, 92, 93, 94, 95, 96, 97, 98, 99] (by decide +kernel) (by decide +kernel)
set_option maxRecDepth 20000 in
theorem gX7_change_X7_put : GoodIn wsX7_change (wsV RX7 131 RX7 yX7_put wsX7_put) := goodIn_app (goodIn_of _ (by decide +kernel)) ggX7_change_X7_put
set_option maxRecDepth 20000 in
theorem ggX7_change_X7_worthOf : GoodIn wsX7_change wsX7_worthOf := goodIn_r _ [36, 37, 38, 23, 24, 39, 40, 25, 26, 27, 13, 28, 72, 73, 74, 75, 76, 77, 78, 79, 80, 81, 82, 83, 84, 85, 86, 87, 88, 89, 90, 91, 92, 93, 94, 95, 96, 97, 98, 99] (by decide +kernel) (by decide +kernel)
set_option maxRecDepth 20000 in
theorem gX7_change_X7_worthOf : GoodIn wsX7_change (wsV RX7 99 RX7 yX7_worthOf wsX7_worthOf) := goodIn_app (goodIn_of _ (by decide +kernel)) ggX7_change_X7_worthOf
set_option maxRecDepth 20000 in
theorem ggX7_change_X7_pairs : GoodIn wsX7_change wsX7_pairs := goodIn_r _ [63, 2, 23, 1, 38, 24, 39, 25, 26, 27, 13, 28, 72, 73, 74, 75, 76, 77, 78, 79, 80, 81, 82, 83, 84, 85, 86, 87, 88, 89, 90, 91, 92, 93, 94, 95, 96, 97, 98, 99] (by decide +kernel) (by decide +kernel)
set_option maxRecDepth 20000 in
theorem gX7_change_X7_pairs : GoodIn wsX7_change (wsV RX7 134 RX7 yX7_pairs wsX7_pairs) := goodIn_app (goodIn_of _ (by decide +kernel)) ggX7_change_X7_pairs
set_option maxRecDepth 20000 in
theorem ggX7_change_X7_firstFalse : GoodIn wsX7_change wsX7_firstFalse := goodIn_r _ [67, 2, 3, 33, 34, 35, 13, 36, 37, 38, 23, 24, 39, 40, 25, 26, 27, 28, 72, 73, 74, 75, 76, 77, 78, 79, 80, 81, 82, 83, 84, 85, 86, 87, 88, 89, 90, 91, 92, 93, 94, 95, 96, 97, 98, 99] (by decide +kernel) (by decide +kernel)
set_option maxRecDepth 20000 in
theorem gX7_change_X7_firstFalse : GoodIn wsX7_change (wsV RX7 141 RX7 yX7_firstFalse wsX7_firstFalse) := goodIn_app (goodIn_of _ (by decide +kernel)) ggX7_change_X7_firstFalse
set_option maxRecDepth 20000 in
theorem ggX7_change_X7_others : GoodIn wsX7_change wsX7_others := goodIn_r _ [71, 23, 1, 24, 72, 73, 74, 75, 76, 77, 78, 79, 80, 81, 82, 83, 84, 85, 86, 87, 88, 89, 90, 91, 92, 93, 94, 95, 96, 97, 98, 99] (by decide +kernel) (by decide +kernel)
set_option maxRecDepth 20000 in
theorem gX7_change_X7_others : GoodIn wsX7_change (wsV RX7 144 RX7 yX7_others wsX7_others) := goodIn_app (goodIn_of _ (by decide +kernel)) ggX7_change_X7_others
set_option maxRecDepth 20000 in
theorem ggX7_attempt_X7_isPlan : GoodIn wsX7_attempt wsX7_isPlan := goodIn_r _ [12, 13, 14, 15, 11, 16, 51, 52, 53, 54, 55, 56, 57, 58, 59, 60, 61, 62, 63, 64, 65, 66, 67, 68, 69, 70, 71, 72, 73, 74, 75, 76, 77, 78] (by decide +kernel) (by decide +kernel)
set_option maxRecDepth 20000 in
theorem gX7_attempt_X7_isPlan : GoodIn wsX7_attempt (wsV RX7 113 RX7 yX7_isPlan wsX7_isPlan) := goodIn_app (goodIn_of _ (by decide +kernel)) ggX7_attempt_X7_isPlan
set_option maxRecDepth 20000 in
theorem ggX7_attempt_X7_in : GoodIn wsX7_attempt wsX7_in := goodIn_r _ [16] (by decide +kernel) (by decide +kernel)
set_option maxRecDepth 20000 in
theorem gX7_attempt_X7_in : GoodIn wsX7_attempt (va_wsS RX7 85 yX7_in wsX7_in) := goodIn_app (goodIn_of _ (by decide +kernel)) ggX7_attempt_X7_in
set_option maxRecDepth 20000 in
theorem ggX7_attempt_X7_scoreOf : GoodIn wsX7_attempt wsX7_scoreOf := goodIn_r _ [20, 2, 3, 21, 51, 52, 53, 54, 55, 56, 57, 58, 59, 60, 61, 62, 63, 64, 65, 66, 67, 68, 69, 70, 71, 72, 73, 74, 75, 76, 77, 78] (by decide +kernel) (by decide +kernel)
set_option maxRecDepth 20000 in
theorem gX7_attempt_X7_scoreOf : GoodIn wsX7_attempt (wsV RX7 149 RX7 yX7_scoreOf wsX7_scoreOf) := goodIn_app (goodIn_of _ (by decide +kernel)) ggX7_attempt_X7_scoreOf
set_option maxRecDepth 20000 in
theorem ggX7_attempt_X7_isFit : GoodIn wsX7_attempt wsX7_isFit := goodIn_r _ [25, 26, 6, 14, 15, 11, 16, 27, 28, 29, 30, 51, 52, 53, 54, 55, 56, 57, 58, 59, 60, 61, 62, 63, 64, 65, 66, 67, 68, 69, 70, 71, 72, 73, 74, 75, 76, 77, 78] (by decide +kernel) (by decide +kernel)
set_option maxRecDepth 20000 in
theorem gX7_attempt_X7_isFit : GoodIn wsX7_attempt (wsV RX7 123 RX7 yX7_isFit wsX7_isFit) := goodIn_app (goodIn_of _ (by decide +kernel)) ggX7_attempt_X7_isFit
set_option maxRecDepth 20000 in
theorem ggX7_attempt_X7_remember : GoodIn wsX7_attempt wsX7_remember := goodIn_r _ [34, 7, 6, 2, 5, 35, 36, 37, 11, 38, 39, 40, 26, 41, 42, 27, 28, 29, 30, 51, 52, 53, 54, 55, 56, 57, 58, 59, 60, 61, 62, 63, 64, 65, 66, 67, 68, 69, 70, 71, 72, 73, 74, 75, 76, 77, 78] (by decide +kernel) (by decide +kernel)
set_option maxRecDepth 20000 in
theorem gX7_attempt_X7_remember : GoodIn wsX7_attempt (wsV RX7 107 RX7 yX7_remember wsX7_remember) := goodIn_app (goodIn_of _ (by decide +kernel)) ggX7_attempt_X7_remember
set_option maxRecDepth 20000 in
theorem ggX7_attempt_X7_put : GoodIn wsX7_attempt wsX7_put := goodIn_r _ [46, 6, 27, 28, 29, 11, 30, 47, 48, 49, 50, 26, 51, 52, 53, 54, 55, 56, 57, 58, 59, 60, 61, 62, 63, 64, 65, 66, 67, 68, 69, 70, 71, 72, 73, 74, 75, 76, 77, 78] (by decide +kernel) (by decide +kernel)
set_option maxRecDepth 20000 in
theorem gX7_attempt_X7_put : GoodIn wsX7_attempt (wsV RX7 131 RX7 yX7_put wsX7_put) := goodIn_app (goodIn_of _ (by decide +kernel)) ggX7_attempt_X7_put
set_option maxRecDepth 20000 in
theorem ggX7_attempt_X7_worthOf : GoodIn wsX7_attempt wsX7_worthOf := goodIn_r _ [38, 39, 40, 26, 6, 41, 42, 27, 28, 29, 11, 30, 51, 52, 53, 54, 55, 56, 57, 58, 59, 60, 61, 62, 63, 64, 65, 66, 67, 68, 69, 70, 71, 72, 73, 74, 75, 76, 77, 78] (by decide +kernel) (by decide +kernel)
set_option maxRecDepth 20000 in
theorem gX7_attempt_X7_worthOf : GoodIn wsX7_attempt (wsV RX7 99 RX7 yX7_worthOf wsX7_worthOf) := goodIn_app (goodIn_of _ (by decide +kernel)) ggX7_attempt_X7_worthOf
set_option maxRecDepth 20000 in
theorem ggX7_takeBack_X7_remember : GoodIn wsX7_takeBack wsX7_remember := goodIn_r _ [14, 15, 16, 17, 18, 19, 20, 21, 13, 22, 23, 24, 25, 26, 27, 28, 29, 30, 31, 44, 45, 46, 47, 48, 49, 50, 51, 52, 53, 54, 55, 56, 57, 58, 59, 60, 61, 62, 63, 64, 65, 66, 67, 68, 69, 70, 71] (by decide +kernel) (by decide +kernel)
set_option maxRecDepth 20000 in
theorem gX7_takeBack_X7_remember : GoodIn wsX7_takeBack (wsV RX7 107 RX7 yX7_remember wsX7_remember) := goodIn_app (goodIn_of _ (by decide +kernel)) ggX7_takeBack_X7_remember
set_option maxRecDepth 20000 in
theorem ggX7_takeBack_X7_put : GoodIn wsX7_takeBack wsX7_put := goodIn_r _ [35, 16, 28, 29, 30, 13, 31, 36, 37, 38, 39, 25, 44, 45, 46, 47, 48, 49, 50, 51, 52, 53, 54, 55, 56, 57, 58, 59, 60, 61, 62, 63, 64, 65, 66, 67, 68, 69, 70, 71] (by decide +kernel) (by decide +kernel)
set_option maxRecDepth 20000 in
theorem gX7_takeBack_X7_put : GoodIn wsX7_takeBack (wsV RX7 131 RX7 yX7_put wsX7_put) := goodIn_app (goodIn_of _ (by decide +kernel)) ggX7_takeBack_X7_put
set_option maxRecDepth 20000 in
theorem ggX7_takeBack_X7_pairs : GoodIn wsX7_takeBack wsX7_pairs := goodIn_r _ [43, 17, 25, 15, 24, 16, 26, 28, 29, 30, 13, 31, 44, 45, 46, 47, 48, 49, 50, 51, 52, 53, 54, 55, 56, 57, 58, 59, 60, 61, 62, 63, 64, 65, 66, 67, 68, 69, 70, 71] (by decide +kernel) (by decide +kernel)
set_option maxRecDepth 20000 in
theorem gX7_takeBack_X7_pairs : GoodIn wsX7_takeBack (wsV RX7 134 RX7 yX7_pairs wsX7_pairs) := goodIn_app (goodIn_of _ (by decide +kernel)) ggX7_takeBack_X7_pairs
