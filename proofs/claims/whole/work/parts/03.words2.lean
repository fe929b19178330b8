set_option maxRecDepth 20000 in
theorem ggX7_undo_X7_isPlan : GoodIn wsX7_undo wsX7_isPlan := goodIn_r _ [8, 9, 10, 11, 7, 12, 56, 57, 58, 59, 60, 61, 62, 63, 64, 65, 66, 67, 68, 69, 70, 71, 72, 73, 74, 75, 76, 77, 78, 79, 80, 81, 82, 83] (by decide +kernel) (by decide +kernel)
set_option maxRecDepth 20000 in
theorem gX7_undo_X7_isPlan : GoodIn wsX7_undo (wsV RX7 113 RX7 yX7_isPlan wsX7_isPlan) := goodIn_app (goodIn_of _ (by decide +kernel)) ggX7_undo_X7_isPlan
set_option maxRecDepth 20000 in
theorem ggX7_undo_X7_takeBack : GoodIn wsX7_undo wsX7_takeBack := goodIn_r _ [16, 1, 3, 2, 17, 18, 19, 20, 21, 22, 23, 24, 25, 7, 26, 27, 28, 29, 30, 31, 32, 33, 34, 35, 36, 37, 38, 39, 40, 41, 42, 43, 44, 45, 46, 47, 48, 49, 50, 51, 52, 53, 54, 55, 56, 57, 58, 59, 60, 61, 62, 63, 64, 65, 66, 67, 68, 69, 70, 71, 72, 73, 74, 75, 76, 77, 78, 79, 80, 81, 82, 83] (by decide +kernel) (by decide +kernel)
set_option maxRecDepth 20000 in
theorem gX7_undo_X7_takeBack : GoodIn wsX7_undo (wsV RX7 152 RX7 yX7_takeBack wsX7_takeBack) := goodIn_app (goodIn_of _ (by decide +kernel)) ggX7_undo_X7_takeBack
set_option maxRecDepth 20000 in
theorem ggX7_begin_X7_isPlan : GoodIn wsX7_begin wsX7_isPlan := goodIn_r _ [8, 9, 10, 11, 7, 12, 13, 14, 15, 16, 17, 18, 19, 20, 21, 22, 23, 24, 25, 26, 27, 28, 29, 30, 31, 32, 33, 34, 35, 36, 37, 38, 39, 40] (by decide +kernel) (by decide +kernel)
set_option maxRecDepth 20000 in
theorem gX7_begin_X7_isPlan : GoodIn wsX7_begin (wsV RX7 113 RX7 yX7_isPlan wsX7_isPlan) := goodIn_app (goodIn_of _ (by decide +kernel)) ggX7_begin_X7_isPlan
set_option maxRecDepth 20000 in
theorem ggX7_end_X7_isPlan : GoodIn wsX7_end wsX7_isPlan := goodIn_r _ [7, 8, 9, 10, 6, 11, 56, 57, 58, 59, 60, 61, 62, 63, 64, 65, 66, 67, 68, 69, 70, 71, 72, 73, 74, 75, 76, 77, 78, 79, 80, 81, 82, 83] (by decide +kernel) (by decide +kernel)
set_option maxRecDepth 20000 in
theorem gX7_end_X7_isPlan : GoodIn wsX7_end (wsV RX7 113 RX7 yX7_isPlan wsX7_isPlan) := goodIn_app (goodIn_of _ (by decide +kernel)) ggX7_end_X7_isPlan
set_option maxRecDepth 20000 in
theorem ggX7_end_X7_takeBack : GoodIn wsX7_end wsX7_takeBack := goodIn_r _ [15, 16, 2, 1, 17, 18, 19, 20, 21, 22, 23, 24, 25, 6, 26, 27, 28, 29, 30, 31, 32, 33, 34, 35, 36, 37, 38, 39, 40, 41, 42, 43, 44, 45, 46, 47, 48, 49, 50, 51, 52, 53, 54, 55, 56, 57, 58, 59, 60, 61, 62, 63, 64, 65, 66, 67, 68, 69, 70, 71, 72, 73, 74, 75, 76, 77, 78, 79, 80, 81, 82, 83] (by decide +kernel) (by decide +kernel)
set_option maxRecDepth 20000 in
theorem gX7_end_X7_takeBack : GoodIn wsX7_end (wsV RX7 152 RX7 yX7_takeBack wsX7_takeBack) := goodIn_app (goodIn_of _ (by decide +kernel)) ggX7_end_X7_takeBack
set_option maxRecDepth 20000 in
theorem ggX7_member_X7_isPlan : GoodIn wsX7_member wsX7_isPlan := goodIn_r _ [8, 9, 10, 11, 7, 12, 17, 18, 19, 20, 21, 22, 23, 24, 25, 26, 27, 28, 29, 30, 31, 32, 33, 34, 35, 36, 37, 38, 39, 40, 41, 42, 43, 44] (by decide +kernel) (by decide +kernel)
set_option maxRecDepth 20000 in
theorem gX7_member_X7_isPlan : GoodIn wsX7_member (wsV RX7 113 RX7 yX7_isPlan wsX7_isPlan) := goodIn_app (goodIn_of _ (by decide +kernel)) ggX7_member_X7_isPlan
set_option maxRecDepth 20000 in
theorem ggX7_member_X7_in : GoodIn wsX7_member wsX7_in := goodIn_r _ [12] (by decide +kernel) (by decide +kernel)
set_option maxRecDepth 20000 in
theorem gX7_member_X7_in : GoodIn wsX7_member (va_wsS RX7 85 yX7_in wsX7_in) := goodIn_app (goodIn_of _ (by decide +kernel)) ggX7_member_X7_in
set_option maxRecDepth 20000 in
theorem ggX7_member_X7_at : GoodIn wsX7_member wsX7_at := goodIn_r _ [16] (by decide +kernel) (by decide +kernel)
set_option maxRecDepth 20000 in
theorem gX7_member_X7_at : GoodIn wsX7_member (wsV RX7 92 RX7 yX7_at wsX7_at) := goodIn_app (goodIn_of _ (by decide +kernel)) ggX7_member_X7_at
set_option maxRecDepth 20000 in
theorem ggX7_score_X7_isPlan : GoodIn wsX7_score wsX7_isPlan := goodIn_r _ [6, 7, 8, 9, 5, 10, 18, 19, 20, 21, 22, 23, 24, 25, 26, 27, 28, 29, 30, 31, 32, 33, 34, 35, 36, 37, 38, 39, 40, 41, 42, 43, 44, 45] (by decide +kernel) (by decide +kernel)
set_option maxRecDepth 20000 in
theorem gX7_score_X7_isPlan : GoodIn wsX7_score (wsV RX7 113 RX7 yX7_isPlan wsX7_isPlan) := goodIn_app (goodIn_of _ (by decide +kernel)) ggX7_score_X7_isPlan
set_option maxRecDepth 20000 in
theorem ggX7_score_X7_in : GoodIn wsX7_score wsX7_in := goodIn_r _ [10] (by decide +kernel) (by decide +kernel)
set_option maxRecDepth 20000 in
theorem gX7_score_X7_in : GoodIn wsX7_score (va_wsS RX7 85 yX7_in wsX7_in) := goodIn_app (goodIn_of _ (by decide +kernel)) ggX7_score_X7_in
set_option maxRecDepth 20000 in
theorem ggX7_score_X7_scoreOf : GoodIn wsX7_score wsX7_scoreOf := goodIn_r _ [14, 15, 16, 17, 18, 19, 20, 21, 22, 23, 24, 25, 26, 27, 28, 29, 30, 31, 32, 33, 34, 35, 36, 37, 38, 39, 40, 41, 42, 43, 44, 45] (by decide +kernel) (by decide +kernel)
set_option maxRecDepth 20000 in
theorem gX7_score_X7_scoreOf : GoodIn wsX7_score (wsV RX7 149 RX7 yX7_scoreOf wsX7_scoreOf) := goodIn_app (goodIn_of _ (by decide +kernel)) ggX7_score_X7_scoreOf
set_option maxRecDepth 20000 in
theorem ggX7_worth_X7_isPlan : GoodIn wsX7_worth wsX7_isPlan := goodIn_r _ [7, 8, 9, 10, 6, 11, 31, 32, 33, 34, 35, 36, 37, 38, 39, 40, 41, 42, 43, 44, 45, 46, 47, 48, 49, 50, 51, 52, 53, 54, 55, 56, 57, 58] (by decide +kernel) (by decide +kernel)
set_option maxRecDepth 20000 in
theorem gX7_worth_X7_isPlan : GoodIn wsX7_worth (wsV RX7 113 RX7 yX7_isPlan wsX7_isPlan) := goodIn_app (goodIn_of _ (by decide +kernel)) ggX7_worth_X7_isPlan
set_option maxRecDepth 20000 in
theorem ggX7_worth_X7_isRule : GoodIn wsX7_worth wsX7_isRule := goodIn_r _ [15, 16, 9, 10, 6, 11, 31, 32, 33, 34, 35, 36, 37, 38, 39, 40, 41, 42, 43, 44, 45, 46, 47, 48, 49, 50, 51, 52, 53, 54, 55, 56, 57, 58] (by decide +kernel) (by decide +kernel)
set_option maxRecDepth 20000 in
theorem gX7_worth_X7_isRule : GoodIn wsX7_worth (wsV RX7 117 RX7 yX7_isRule wsX7_isRule) := goodIn_app (goodIn_of _ (by decide +kernel)) ggX7_worth_X7_isRule
set_option maxRecDepth 20000 in
theorem ggX7_worth_X7_in : GoodIn wsX7_worth wsX7_in := goodIn_r _ [11] (by decide +kernel) (by decide +kernel)
set_option maxRecDepth 20000 in
theorem gX7_worth_X7_in : GoodIn wsX7_worth (va_wsS RX7 85 yX7_in wsX7_in) := goodIn_app (goodIn_of _ (by decide +kernel)) ggX7_worth_X7_in
set_option maxRecDepth 20000 in
theorem ggX7_worth_X7_worthOf : GoodIn wsX7_worth wsX7_worthOf := goodIn_r _ [20, 21, 22, 23, 24, 25, 26, 27, 28, 29, 6, 30, 31, 32, 33, 34, 35, 36, 37, 38, 39, 40, 41, 42, 43, 44, 45, 46, 47, 48, 49, 50, 51, 52, 53, 54, 55, 56, 57, 58] (by decide +kernel) (by decide +kernel)
set_option maxRecDepth 20000 in
theorem gX7_worth_X7_worthOf : GoodIn wsX7_worth (wsV RX7 99 RX7 yX7_worthOf wsX7_worthOf) := goodIn_app (goodIn_of _ (by decide +kernel)) ggX7_worth_X7_worthOf
set_option maxRecDepth 20000 in
theorem ggX7_check_X7_isPlan : GoodIn wsX7_check wsX7_isPlan := goodIn_r _ [5, 6, 7, 8, 4, 9, 30, 31, 32, 33, 34, 35, 36, 37, 38, 39, 40, 41, 42, 43, 44, 45, 46, 47, 48, 49, 50, 51, 52, 53, 54, 55, 56, 57] (by decide +kernel) (by decide +kernel)
set_option maxRecDepth 20000 in
theorem gX7_check_X7_isPlan : GoodIn wsX7_check (wsV RX7 113 RX7 yX7_isPlan wsX7_isPlan) := goodIn_app (goodIn_of _ (by decide +kernel)) ggX7_check_X7_isPlan
set_option maxRecDepth 20000 in
theorem ggX7_check_X7_firstFalse : GoodIn wsX7_check wsX7_firstFalse := goodIn_r _ [13, 14, 15, 16, 17, 18, 4, 19, 20, 21, 22, 23, 24, 25, 26, 27, 28, 29, 30, 31, 32, 33, 34, 35, 36, 37, 38, 39, 40, 41, 42, 43, 44, 45, 46, 47, 48, 49, 50, 51, 52, 53, 54, 55, 56, 57] (by decide +kernel) (by decide +kernel)
set_option maxRecDepth 20000 in
theorem gX7_check_X7_firstFalse : GoodIn wsX7_check (wsV RX7 141 RX7 yX7_firstFalse wsX7_firstFalse) := goodIn_app (goodIn_of _ (by decide +kernel)) ggX7_check_X7_firstFalse
set_option maxRecDepth 20000 in
theorem ggX7_every_X7_in : GoodIn wsX7_every wsX7_in := goodIn_r _ [5] (by decide +kernel) (by decide +kernel)
set_option maxRecDepth 20000 in
theorem gX7_every_X7_in : GoodIn wsX7_every (va_wsS RX7 85 yX7_in wsX7_in) := goodIn_app (goodIn_of _ (by decide +kernel)) ggX7_every_X7_in
set_option maxRecDepth 20000 in
theorem ggX7_mend_X7_isPlan : GoodIn wsX7_mend wsX7_isPlan := goodIn_r _ [6, 7, 8, 9, 5, 10, 30, 31, 32, 33, 34, 35, 36, 37, 38, 39, 40, 41, 42, 43, 44, 45, 46, 47, 48, 49, 50, 51, 52, 53, 54, 55, 56, 57] (by decide +kernel) (by decide +kernel)
set_option maxRecDepth 20000 in
theorem gX7_mend_X7_isPlan : GoodIn wsX7_mend (wsV RX7 113 RX7 yX7_isPlan wsX7_isPlan) := goodIn_app (goodIn_of _ (by decide +kernel)) ggX7_mend_X7_isPlan
set_option maxRecDepth 20000 in
theorem ggX7_mend_X7_isRule : GoodIn wsX7_mend wsX7_isRule := goodIn_r _ [14, 15, 8, 9, 5, 10, 30, 31, 32, 33, 34, 35, 36, 37, 38, 39, 40, 41, 42, 43, 44, 45, 46, 47, 48, 49, 50, 51, 52, 53, 54, 55, 56, 57] (by decide +kernel) (by decide +kernel)
set_option maxRecDepth 20000 in
theorem gX7_mend_X7_isRule : GoodIn wsX7_mend (wsV RX7 117 RX7 yX7_isRule wsX7_isRule) := goodIn_app (goodIn_of _ (by decide +kernel)) ggX7_mend_X7_isRule
set_option maxRecDepth 20000 in
theorem ggX7_mend_X7_worthOf : GoodIn wsX7_mend wsX7_worthOf := goodIn_r _ [19, 20, 21, 22, 23, 24, 25, 26, 27, 28, 5, 29, 30, 31, 32, 33, 34, 35, 36, 37, 38, 39, 40, 41, 42, 43, 44, 45, 46, 47, 48, 49, 50, 51, 52, 53, 54, 55, 56, 57] (by decide +kernel) (by decide +kernel)
set_option maxRecDepth 20000 in
theorem gX7_mend_X7_worthOf : GoodIn wsX7_mend (wsV RX7 99 RX7 yX7_worthOf wsX7_worthOf) := goodIn_app (goodIn_of _ (by decide +kernel)) ggX7_mend_X7_worthOf
set_option maxRecDepth 20000 in
theorem ggX7_keep_X7_isPlan : GoodIn wsX7_keep wsX7_isPlan := goodIn_r _ [11, 12, 13, 14, 10, 15, 23, 24, 25, 26, 27, 28, 29, 30, 31, 32, 33, 34, 35, 36, 37, 38, 39, 40, 41, 42, 43, 44, 45, 46, 47, 48, 49, 50] (by decide +kernel) (by decide +kernel)
set_option maxRecDepth 20000 in
theorem gX7_keep_X7_isPlan : GoodIn wsX7_keep (wsV RX7 113 RX7 yX7_isPlan wsX7_isPlan) := goodIn_app (goodIn_of _ (by decide +kernel)) ggX7_keep_X7_isPlan
set_option maxRecDepth 20000 in
theorem ggX7_keep_X7_scoreOf : GoodIn wsX7_keep wsX7_scoreOf := goodIn_r _ [19, 20, 21, 22, 23, 24, 25, 26, 27, 28, 29, 30, 31, 32, 33, 34, 35, 36, 37, 38, 39, 40, 41, 42, 43, 44, 45, 46, 47, 48, 49, 50] (by decide +kernel) (by decide +kernel)
set_option maxRecDepth 20000 in
theorem gX7_keep_X7_scoreOf : GoodIn wsX7_keep (wsV RX7 149 RX7 yX7_scoreOf wsX7_scoreOf) := goodIn_app (goodIn_of _ (by decide +kernel)) ggX7_keep_X7_scoreOf
set_option maxRecDepth 20000 in
theorem ggX7_kept_X7_in : GoodIn wsX7_kept wsX7_in := goodIn_r _ [7] (by decide +kernel) (by decide +kernel)
set_option maxRecDepth 20000 in
theorem gX7_kept_X7_in : GoodIn wsX7_kept (va_wsS RX7 85 yX7_in wsX7_in) := goodIn_app (goodIn_of _ (by decide +kernel)) ggX7_kept_X7_in
set_option maxRecDepth 20000 in
theorem ggX7_then_X7_in : GoodIn wsX7_then wsX7_in := goodIn_r _ [8] (by decide +kernel) (by decide +kernel)
set_option maxRecDepth 20000 in
theorem gX7_then_X7_in : GoodIn wsX7_then (va_wsS RX7 85 yX7_in wsX7_in) := goodIn_app (goodIn_of _ (by decide +kernel)) ggX7_then_X7_in
set_option maxRecDepth 20000 in
theorem ggX7_told_X7_isPlan : GoodIn wsX7_told wsX7_isPlan := goodIn_r _ [12, 13, 14, 15, 11, 16, 17, 18, 19, 20, 21, 22, 23, 24, 25, 26, 27, 28, 29, 30, 31, 32, 33, 34, 35, 36, 37, 38, 39, 40, 41, 42, 43, 44] (by decide +kernel) (by decide +kernel)
set_option maxRecDepth 20000 in
theorem gX7_told_X7_isPlan : GoodIn wsX7_told (wsV RX7 113 RX7 yX7_isPlan wsX7_isPlan) := goodIn_app (goodIn_of _ (by decide +kernel)) ggX7_told_X7_isPlan
set_option maxRecDepth 20000 in
theorem ggX7_told_X7_in : GoodIn wsX7_told wsX7_in := goodIn_r _ [16] (by decide +kernel) (by decide +kernel)
set_option maxRecDepth 20000 in
theorem gX7_told_X7_in : GoodIn wsX7_told (va_wsS RX7 85 yX7_in wsX7_in) := goodIn_app (goodIn_of _ (by decide +kernel)) ggX7_told_X7_in
set_option maxRecDepth 20000 in
theorem ggL_law_X6_init : GoodIn wsL_law wsX6_init := goodIn_r _ [8, 9, 10, 11, 12, 13, 14, 15, 16, 17, 18, 19, 20, 21, 22, 23, 24, 25, 26, 27, 28, 29, 30, 31, 32, 33, 34, 35, 36, 37, 38, 39, 40, 41, 42, 43, 44, 45, 46, 47, 48, 49, 50, 51, 52, 53, 54, 55, 56, 57, 58, 59, 60, 583, 584, 549, 550, 551, 552, 553, 554, 585, 586, 587, 588, 589, 590, 591, 592, 593, 594, 595, 596, 597, 598, 599, 600, 601, 602, 603] (by decide +kernel) (by decide +kernel)
set_option maxRecDepth 20000 in
theorem gL_law_X6_init : GoodIn wsL_law (wsX6_init) := ggL_law_X6_init
set_option maxRecDepth 20000 in
theorem ggL_law_X7_init : GoodIn wsL_law wsX7_init := goodIn_r _ [63, 64, 10, 11, 51, 65, 66, 67, 68, 69, 70, 71, 37, 72, 39, 73, 74, 75, 76, 77, 78, 79, 80, 81, 82, 83, 84, 85, 86, 87, 88, 555, 556, 557, 558, 559, 560, 561, 562, 563, 564, 565, 566, 567, 568, 569, 570, 571, 572, 573, 574, 575, 576, 577, 578, 579, 580, 581, 582] (by decide +kernel) (by decide +kernel)
set_option maxRecDepth 20000 in
theorem gL_law_X7_init : GoodIn wsL_law (wsX7_init) := ggL_law_X7_init
set_option maxRecDepth 20000 in
theorem ggL_law_X6_object : GoodIn wsL_law wsX6_object := goodIn_r _ [92, 17, 93, 94, 95, 2, 96, 20, 97, 98, 99, 19, 100, 36, 35, 46, 38, 101, 102, 103, 34, 104, 105, 52, 106, 107, 108, 109, 110, 111, 112, 113, 114, 115, 116, 117, 118, 119, 120, 121, 122, 123, 124, 125, 126, 127, 128, 129, 130, 131, 132, 133, 134, 135, 136, 137, 138, 139, 140, 141, 142, 143, 144, 145, 146, 147, 148, 149, 150, 151, 152, 153, 154, 155, 156, 157, 158, 159, 160, 161, 162, 549, 550, 551, 552, 553, 554, 585, 586, 587, 588, 589, 590, 591, 592, 593, 594, 595, 596, 597, 583, 584, 604, 605, 606, 607, 608] (by decide +kernel) (by decide +kernel)
set_option maxRecDepth 20000 in
theorem gL_law_X6_object : GoodIn wsL_law (wsV RL 13 RX6 yX6_object wsX6_object) := goodIn_app (goodIn_of _ (by decide +kernel)) ggL_law_X6_object
set_option maxRecDepth 20000 in
theorem ggL_law_X7_object : GoodIn wsL_law wsX7_object := goodIn_r _ [166, 167, 71, 168, 72, 88, 169, 170, 171, 5, 172, 70, 74, 173, 174, 175, 176, 87, 177, 178, 179, 180, 67, 66, 65, 68, 181, 182, 183, 184, 555, 556, 557, 558, 559, 560, 561, 562, 563, 564, 565, 566, 567, 568, 569, 570, 571, 572, 573, 574, 575, 576, 577, 578, 579, 580, 581, 582] (by decide +kernel) (by decide +kernel)
set_option maxRecDepth 20000 in
theorem gL_law_X7_object : GoodIn wsL_law (wsV RL 17 RX7 yX7_object wsX7_object) := goodIn_app (goodIn_of _ (by decide +kernel)) ggL_law_X7_object
set_option maxRecDepth 20000 in
theorem ggL_law_X6_rule : GoodIn wsL_law wsX6_rule := goodIn_r _ [188, 15, 189, 190, 121, 17, 191, 192, 2, 193, 194, 195, 196, 197, 198, 199, 200, 201, 93, 94, 95, 96, 20, 202, 203, 204, 205, 10, 11, 124, 123, 126, 125, 206, 207, 208, 209, 14, 210, 27, 211, 212, 213, 214, 19, 215, 46, 35, 118, 119, 120, 122, 127, 128, 129, 130, 131, 132, 133, 134, 135, 136, 137, 138, 139, 140, 141, 142, 143, 144, 145, 146, 147, 148, 149, 150, 151, 152, 153, 154, 155, 156, 157, 158, 159, 34, 160, 105, 161, 162, 549, 550, 551, 552, 553, 554, 583, 584, 604, 605, 606, 607, 608, 585, 586, 587, 588, 589, 590, 591, 592, 593, 594, 595, 596, 597] (by decide +kernel) (by decide +kernel)
set_option maxRecDepth 20000 in
theorem gL_law_X6_rule : GoodIn wsL_law (wsV RL 18 RX6 yX6_rule wsX6_rule) := goodIn_app (goodIn_of _ (by decide +kernel)) ggL_law_X6_rule
set_option maxRecDepth 20000 in
theorem ggL_law_X7_rule : GoodIn wsL_law wsX7_rule := goodIn_r _ [219, 220, 221, 168, 65, 66, 67, 68, 69, 72, 222, 223, 5, 224, 169, 170, 171, 172, 70, 74, 177, 178, 179, 180, 167, 71, 181, 182, 183, 184, 555, 556, 557, 558, 559, 560, 561, 562, 563, 564, 565, 566, 567, 568, 569, 570, 571, 572, 573, 574, 575, 576, 577, 578, 579, 580, 581, 582] (by decide +kernel) (by decide +kernel)
set_option maxRecDepth 20000 in
theorem gL_law_X7_rule : GoodIn wsL_law (wsV RL 22 RX7 yX7_rule wsX7_rule) := goodIn_app (goodIn_of _ (by decide +kernel)) ggL_law_X7_rule
set_option maxRecDepth 20000 in
theorem ggL_law_X6_forget : GoodIn wsL_law wsX6_forget := goodIn_r _ [228, 15, 229, 230, 231, 2, 232, 20, 17, 233, 234, 235, 14, 236, 211, 237, 161, 162, 549, 550, 551, 552, 553, 554, 585, 586, 587, 588, 589, 590, 591, 592, 593, 594, 595, 583, 584] (by decide +kernel) (by decide +kernel)
set_option maxRecDepth 20000 in
theorem gL_law_X6_forget : GoodIn wsL_law (wsV RL 23 RX6 yX6_forget wsX6_forget) := goodIn_app (goodIn_of _ (by decide +kernel)) ggL_law_X6_forget
set_option maxRecDepth 20000 in
theorem ggL_law_X7_forget : GoodIn wsL_law wsX7_forget := goodIn_r _ [241, 73, 242, 243, 244, 5, 245, 70, 222, 223, 224, 246, 247, 248, 249, 168, 555, 556, 557, 558, 559, 560, 561, 562, 563, 564, 565, 566, 567, 568, 569, 570, 571, 572, 573, 574, 575, 576, 577, 578, 579, 580, 581, 582] (by decide +kernel) (by decide +kernel)
set_option maxRecDepth 20000 in
theorem gL_law_X7_forget : GoodIn wsL_law (wsV RL 27 RX7 yX7_forget wsX7_forget) := goodIn_app (goodIn_of _ (by decide +kernel)) ggL_law_X7_forget
set_option maxRecDepth 20000 in
theorem ggL_law_X6_fork : GoodIn wsL_law wsX6_fork := goodIn_r _ [253, 20, 16, 18, 19, 15, 17, 229, 230, 231, 2, 232, 28, 29, 30, 31, 10, 11, 32, 33, 34, 35, 36, 37, 38, 39, 40, 41, 42, 43, 44, 45, 46, 47, 48, 49, 50, 51, 52, 53, 54, 55, 56, 57, 58, 59, 60, 254, 255, 256, 257, 101, 102, 103, 104, 105, 106, 107, 108, 109, 549, 550, 551, 552, 553, 554, 585, 586, 587, 588, 589, 590, 591, 592, 593, 594, 595, 596, 597, 598, 599, 600, 601, 602, 603, 583, 584] (by decide +kernel) (by decide +kernel)
set_option maxRecDepth 20000 in
theorem gL_law_X6_fork : GoodIn wsL_law (wsV RL 28 RX6 yX6_fork wsX6_fork) := goodIn_app (goodIn_of _ (by decide +kernel)) ggL_law_X6_fork
set_option maxRecDepth 20000 in
theorem ggL_law_X7_fork : GoodIn wsL_law wsX7_fork := goodIn_r _ [261, 70, 71, 72, 73, 242, 243, 244, 5, 245, 222, 223, 224, 555, 556, 557, 558, 559, 560, 561, 562, 563, 564, 565, 566, 567, 568, 569, 570, 571, 572, 573, 574, 575, 576, 577, 578, 579, 580, 581, 582] (by decide +kernel) (by decide +kernel)
set_option maxRecDepth 20000 in
theorem gL_law_X7_fork : GoodIn wsL_law (wsV RL 32 RX7 yX7_fork wsX7_fork) := goodIn_app (goodIn_of _ (by decide +kernel)) ggL_law_X7_fork
set_option maxRecDepth 20000 in
theorem ggL_law_X6_change : GoodIn wsL_law wsX6_change := goodIn_r _ [265, 266, 229, 230, 231, 2, 232, 20, 17, 267, 268, 269, 19, 270, 35, 44, 38, 271, 272, 273, 274, 129, 275, 46, 36, 276, 45, 277, 278, 279, 34, 280, 281, 158, 159, 160, 105, 197, 198, 282, 283, 284, 285, 52, 286, 287, 288, 43, 289, 56, 290, 57, 58, 60, 291, 107, 108, 109, 292, 293, 294, 295, 296, 297, 101, 102, 103, 104, 106, 298, 299, 300, 301, 302, 303, 304, 305, 40, 306, 307, 308, 121, 309, 123, 124, 161, 162, 114, 115, 116, 117, 118, 119, 120, 122, 125, 126, 127, 128, 130, 131, 132, 133, 134, 135, 136, 137, 138, 139, 140, 141, 142, 143, 144, 145, 146, 147, 148, 149, 150, 151, 152, 153, 154, 155, 156, 157, 310, 311, 312, 313, 314, 315, 316, 317, 318, 319, 320, 321, 322, 323, 324, 325, 326, 549, 550, 551, 552, 553, 554, 585, 586, 587, 588, 589, 590, 591, 592, 593, 594, 595, 596, 597, 583, 584, 598, 599, 600, 601, 602, 603, 604, 605, 606, 607, 608] (by decide +kernel) (by decide +kernel)
set_option maxRecDepth 20000 in
theorem gL_law_X6_change : GoodIn wsL_law (wsV RL 33 RX6 yX6_change wsX6_change) := goodIn_app (goodIn_of _ (by decide +kernel)) ggL_law_X6_change
set_option maxRecDepth 20000 in
theorem ggL_law_X7_change : GoodIn wsL_law wsX7_change := goodIn_r _ [330, 87, 168, 72, 73, 88, 75, 74, 331, 76, 242, 243, 244, 5, 245, 70, 222, 223, 224, 332, 333, 334, 335, 167, 71, 181, 182, 183, 184, 173, 174, 175, 176, 177, 178, 179, 180, 67, 66, 65, 68, 336, 337, 338, 339, 79, 80, 81, 82, 83, 78, 77, 340, 341, 342, 343, 344, 345, 346, 347, 348, 349, 350, 351, 352, 353, 354, 355, 356, 357, 358, 359, 555, 556, 557, 558, 559, 560, 561, 562, 563, 564, 565, 566, 567, 568, 569, 570, 571, 572, 573, 574, 575, 576, 577, 578, 579, 580, 581, 582] (by decide +kernel) (by decide +kernel)
set_option maxRecDepth 20000 in
theorem gL_law_X7_change : GoodIn wsL_law (wsV RL 37 RX7 yX7_change wsX7_change) := goodIn_app (goodIn_of _ (by decide +kernel)) ggL_law_X7_change
set_option maxRecDepth 20000 in
theorem ggL_law_X6_attempt : GoodIn wsL_law wsX6_attempt := goodIn_r _ [363, 364, 229, 230, 231, 2, 232, 20, 17, 199, 200, 201, 196, 197, 198, 365, 366, 367, 19, 368, 35, 46, 369, 370, 371, 372, 38, 277, 278, 279, 34, 280, 281, 158, 159, 160, 105, 282, 283, 284, 285, 52, 294, 295, 296, 297, 36, 101, 102, 103, 104, 106, 107, 108, 109, 298, 299, 300, 301, 302, 303, 304, 305, 40, 306, 307, 308, 121, 309, 123, 124, 161, 162, 114, 115, 116, 117, 118, 119, 120, 122, 125, 126, 127, 128, 129, 130, 131, 132, 133, 134, 135, 136, 137, 138, 139, 140, 141, 142, 143, 144, 145, 146, 147, 148, 149, 150, 151, 152, 153, 154, 155, 156, 157, 549, 550, 551, 552, 553, 554, 585, 586, 587, 588, 589, 590, 591, 592, 593, 594, 595, 583, 584, 604, 605, 606, 607, 608, 596, 597] (by decide +kernel) (by decide +kernel)
set_option maxRecDepth 20000 in
theorem gL_law_X6_attempt : GoodIn wsL_law (wsV RL 38 RX6 yX6_attempt wsX6_attempt) := goodIn_app (goodIn_of _ (by decide +kernel)) ggL_law_X6_attempt
set_option maxRecDepth 20000 in
theorem ggL_law_X7_attempt : GoodIn wsL_law wsX7_attempt := goodIn_r _ [376, 377, 168, 69, 73, 88, 71, 87, 242, 243, 244, 5, 245, 70, 222, 223, 224, 378, 379, 380, 381, 72, 332, 333, 334, 335, 167, 181, 182, 183, 184, 173, 174, 175, 176, 177, 178, 179, 180, 67, 66, 65, 68, 340, 341, 342, 343, 344, 345, 346, 347, 555, 556, 557, 558, 559, 560, 561, 562, 563, 564, 565, 566, 567, 568, 569, 570, 571, 572, 573, 574, 575, 576, 577, 578, 579, 580, 581, 582] (by decide +kernel) (by decide +kernel)
set_option maxRecDepth 20000 in
theorem gL_law_X7_attempt : GoodIn wsL_law (wsV RL 42 RX7 yX7_attempt wsX7_attempt) := goodIn_app (goodIn_of _ (by decide +kernel)) ggL_law_X7_attempt
set_option maxRecDepth 20000 in
theorem ggL_law_X6_undo : GoodIn wsL_law wsX6_undo := goodIn_r _ [385, 229, 230, 231, 2, 232, 20, 17, 386, 387, 388, 19, 389, 271, 272, 44, 390, 391, 392, 393, 38, 394, 107, 108, 109, 395, 396, 397, 43, 398, 290, 292, 294, 295, 296, 297, 36, 35, 101, 102, 103, 34, 104, 105, 52, 106, 298, 299, 300, 301, 281, 158, 159, 160, 282, 283, 284, 285, 314, 315, 316, 317, 46, 318, 306, 307, 308, 121, 309, 123, 124, 161, 162, 585, 586, 587, 588, 589, 590, 591, 592, 593, 594, 595, 598, 599, 600, 601, 602, 603, 549, 550, 551, 552, 553, 554, 596, 597, 583, 584, 604, 605, 606, 607, 608] (by decide +kernel) (by decide +kernel)
set_option maxRecDepth 20000 in
theorem gL_law_X6_undo : GoodIn wsL_law (wsV RL 43 RX6 yX6_undo wsX6_undo) := goodIn_app (goodIn_of _ (by decide +kernel)) ggL_law_X6_undo
set_option maxRecDepth 20000 in
theorem ggL_law_X7_undo : GoodIn wsL_law wsX7_undo := goodIn_r _ [402, 79, 77, 78, 242, 243, 244, 5, 245, 70, 222, 223, 224, 403, 404, 405, 406, 80, 81, 82, 72, 83, 75, 173, 174, 175, 176, 87, 71, 168, 88, 177, 178, 179, 180, 67, 66, 167, 65, 68, 181, 182, 183, 184, 340, 341, 342, 343, 344, 345, 346, 347, 348, 349, 350, 351, 555, 556, 557, 558, 559, 560, 561, 562, 563, 564, 565, 566, 567, 568, 569, 570, 571, 572, 573, 574, 575, 576, 577, 578, 579, 580, 581, 582] (by decide +kernel) (by decide +kernel)
set_option maxRecDepth 20000 in
theorem gL_law_X7_undo : GoodIn wsL_law (wsV RL 46 RX7 yX7_undo wsX7_undo) := goodIn_app (goodIn_of _ (by decide +kernel)) ggL_law_X7_undo
set_option maxRecDepth 20000 in
theorem ggL_law_X6_begin : GoodIn wsL_law wsX6_begin := goodIn_r _ [410, 229, 230, 231, 2, 232, 20, 17, 585, 586, 587, 588, 589, 590, 591, 592, 593, 594, 595, 598, 599, 600, 601, 602, 603, 549, 550, 551, 552, 553, 554] (by decide +kernel) (by decide +kernel)
set_option maxRecDepth 20000 in
theorem gL_law_X6_begin : GoodIn wsL_law (wsV RL 47 RX6 yX6_begin wsX6_begin) := goodIn_app (goodIn_of _ (by decide +kernel)) ggL_law_X6_begin
set_option maxRecDepth 20000 in
theorem ggL_law_X7_begin : GoodIn wsL_law wsX7_begin := goodIn_r _ [414, 77, 78, 79, 242, 243, 244, 5, 245, 70, 222, 223, 224, 555, 556, 557, 558, 559, 560, 561, 562, 563, 564, 565, 566, 567, 568, 569, 570, 571, 572, 573, 574, 575, 576, 577, 578, 579, 580, 581, 582] (by decide +kernel) (by decide +kernel)
set_option maxRecDepth 20000 in
theorem gL_law_X7_begin : GoodIn wsL_law (wsV RL 50 RX7 yX7_begin wsX7_begin) := goodIn_app (goodIn_of _ (by decide +kernel)) ggL_law_X7_begin
set_option maxRecDepth 20000 in
theorem ggL_law_X6_end : GoodIn wsL_law wsX6_end := goodIn_r _ [418, 229, 230, 231, 2, 232, 20, 17, 419, 420, 421, 19, 422, 272, 271, 423, 391, 392, 393, 44, 38, 394, 107, 108, 109, 395, 396, 397, 43, 398, 290, 292, 294, 295, 296, 297, 36, 35, 101, 102, 103, 34, 104, 105, 52, 106, 298, 299, 300, 301, 281, 158, 159, 160, 282, 283, 284, 285, 314, 315, 316, 317, 46, 318, 306, 307, 308, 121, 309, 123, 124, 161, 162, 585, 586, 587, 588, 589, 590, 591, 592, 593, 594, 595, 549, 550, 551, 552, 553, 554, 598, 599, 600, 601, 602, 603, 596, 597, 583, 584, 604, 605, 606, 607, 608] (by decide +kernel) (by decide +kernel)
set_option maxRecDepth 20000 in
theorem gL_law_X6_end : GoodIn wsL_law (wsV RL 51 RX6 yX6_end wsX6_end) := goodIn_app (goodIn_of _ (by decide +kernel)) ggL_law_X6_end
set_option maxRecDepth 20000 in
theorem ggL_law_X7_end : GoodIn wsL_law wsX7_end := goodIn_r _ [427, 77, 78, 242, 243, 244, 5, 245, 70, 222, 223, 224, 403, 404, 405, 406, 79, 80, 81, 82, 72, 83, 75, 173, 174, 175, 176, 87, 71, 168, 88, 177, 178, 179, 180, 67, 66, 167, 65, 68, 181, 182, 183, 184, 340, 341, 342, 343, 344, 345, 346, 347, 348, 349, 350, 351, 555, 556, 557, 558, 559, 560, 561, 562, 563, 564, 565, 566, 567, 568, 569, 570, 571, 572, 573, 574, 575, 576, 577, 578, 579, 580, 581, 582] (by decide +kernel) (by decide +kernel)
set_option maxRecDepth 20000 in
theorem gL_law_X7_end : GoodIn wsL_law (wsV RL 55 RX7 yX7_end wsX7_end) := goodIn_app (goodIn_of _ (by decide +kernel)) ggL_law_X7_end
set_option maxRecDepth 20000 in
theorem ggL_law_X6_member : GoodIn wsL_law wsX6_member := goodIn_r _ [431, 194, 229, 230, 231, 2, 232, 20, 17, 432, 433, 434, 34, 435, 52, 436, 281, 158, 159, 160, 105, 197, 198, 585, 586, 587, 588, 589, 590, 591, 592, 593, 594, 595, 549, 550, 551, 552, 553, 554, 596, 597] (by decide +kernel) (by decide +kernel)
set_option maxRecDepth 20000 in
theorem gL_law_X6_member : GoodIn wsL_law (wsV RL 56 RX6 yX6_member wsX6_member) := goodIn_app (goodIn_of _ (by decide +kernel)) ggL_law_X6_member
set_option maxRecDepth 20000 in
theorem ggL_law_X7_member : GoodIn wsL_law wsX7_member := goodIn_r _ [440, 167, 71, 220, 242, 243, 244, 5, 245, 70, 222, 223, 224, 181, 182, 183, 184, 555, 556, 557, 558, 559, 560, 561, 562, 563, 564, 565, 566, 567, 568, 569, 570, 571, 572, 573, 574, 575, 576, 577, 578, 579, 580, 581, 582] (by decide +kernel) (by decide +kernel)
set_option maxRecDepth 20000 in
theorem gL_law_X7_member : GoodIn wsL_law (wsV RL 60 RX7 yX7_member wsX7_member) := goodIn_app (goodIn_of _ (by decide +kernel)) ggL_law_X7_member
set_option maxRecDepth 20000 in
theorem ggL_law_X6_score : GoodIn wsL_law wsX6_score := goodIn_r _ [444, 364, 229, 230, 231, 2, 232, 20, 17, 199, 200, 201, 196, 197, 198, 445, 370, 371, 19, 372, 46, 38, 549, 550, 551, 552, 553, 554, 585, 586, 587, 588, 589, 590, 591, 592, 593, 594, 595, 583, 584, 604, 605, 606, 607, 608] (by decide +kernel) (by decide +kernel)
set_option maxRecDepth 20000 in
theorem gL_law_X6_score : GoodIn wsL_law (wsV RL 61 RX6 yX6_score wsX6_score) := goodIn_app (goodIn_of _ (by decide +kernel)) ggL_law_X6_score
set_option maxRecDepth 20000 in
theorem ggL_law_X7_score : GoodIn wsL_law wsX7_score := goodIn_r _ [449, 377, 242, 243, 244, 5, 245, 70, 222, 223, 224, 378, 379, 380, 381, 168, 69, 72, 555, 556, 557, 558, 559, 560, 561, 562, 563, 564, 565, 566, 567, 568, 569, 570, 571, 572, 573, 574, 575, 576, 577, 578, 579, 580, 581, 582] (by decide +kernel) (by decide +kernel)
set_option maxRecDepth 20000 in
theorem gL_law_X7_score : GoodIn wsL_law (wsV RL 65 RX7 yX7_score wsX7_score) := goodIn_app (goodIn_of _ (by decide +kernel)) ggL_law_X7_score
set_option maxRecDepth 20000 in
theorem ggL_law_X6_worth : GoodIn wsL_law wsX6_worth := goodIn_r _ [453, 15, 364, 229, 230, 231, 2, 232, 20, 17, 233, 234, 235, 14, 236, 211, 196, 197, 198, 212, 213, 214, 19, 215, 46, 35, 118, 119, 120, 121, 122, 123, 124, 125, 126, 127, 128, 129, 130, 131, 132, 133, 134, 135, 136, 137, 138, 139, 140, 141, 142, 143, 144, 145, 146, 147, 148, 149, 150, 151, 152, 153, 154, 155, 156, 157, 158, 159, 34, 160, 105, 161, 162, 549, 550, 551, 552, 553, 554, 585, 586, 587, 588, 589, 590, 591, 592, 593, 594, 595, 583, 584, 596, 597, 604, 605, 606, 607, 608] (by decide +kernel) (by decide +kernel)
set_option maxRecDepth 20000 in
theorem gL_law_X6_worth : GoodIn wsL_law (wsV RL 66 RX6 yX6_worth wsX6_worth) := goodIn_app (goodIn_of _ (by decide +kernel)) ggL_law_X6_worth
set_option maxRecDepth 20000 in
theorem ggL_law_X7_worth : GoodIn wsL_law wsX7_worth := goodIn_r _ [457, 377, 72, 242, 243, 244, 5, 245, 70, 222, 223, 224, 246, 247, 248, 249, 168, 177, 178, 179, 180, 67, 66, 167, 71, 65, 68, 181, 182, 183, 184, 555, 556, 557, 558, 559, 560, 561, 562, 563, 564, 565, 566, 567, 568, 569, 570, 571, 572, 573, 574, 575, 576, 577, 578, 579, 580, 581, 582] (by decide +kernel) (by decide +kernel)
set_option maxRecDepth 20000 in
theorem gL_law_X7_worth : GoodIn wsL_law (wsV RL 70 RX7 yX7_worth wsX7_worth) := goodIn_app (goodIn_of _ (by decide +kernel)) ggL_law_X7_worth
set_option maxRecDepth 20000 in
theorem ggL_law_X6_check : GoodIn wsL_law wsX6_check := goodIn_r _ [461, 229, 230, 231, 2, 232, 20, 17, 462, 320, 321, 19, 322, 46, 323, 324, 325, 326, 38, 35, 118, 119, 120, 121, 122, 123, 124, 125, 126, 127, 128, 129, 130, 131, 132, 133, 134, 135, 136, 137, 138, 139, 140, 141, 142, 143, 144, 145, 146, 147, 148, 149, 150, 151, 152, 153, 154, 155, 156, 157, 158, 159, 34, 160, 105, 161, 162, 549, 550, 551, 552, 553, 554, 585, 586, 587, 588, 589, 590, 591, 592, 593, 594, 595, 583, 584, 596, 597, 604, 605, 606, 607, 608] (by decide +kernel) (by decide +kernel)
set_option maxRecDepth 20000 in
theorem gL_law_X6_check : GoodIn wsL_law (wsV RL 71 RX6 yX6_check wsX6_check) := goodIn_app (goodIn_of _ (by decide +kernel)) ggL_law_X6_check
set_option maxRecDepth 20000 in
theorem ggL_law_X7_check : GoodIn wsL_law wsX7_check := goodIn_r _ [466, 242, 243, 244, 5, 245, 70, 222, 223, 224, 352, 353, 354, 355, 168, 72, 177, 178, 179, 180, 67, 66, 167, 71, 65, 68, 181, 182, 183, 184, 555, 556, 557, 558, 559, 560, 561, 562, 563, 564, 565, 566, 567, 568, 569, 570, 571, 572, 573, 574, 575, 576, 577, 578, 579, 580, 581, 582] (by decide +kernel) (by decide +kernel)
set_option maxRecDepth 20000 in
theorem gL_law_X7_check : GoodIn wsL_law (wsV RL 74 RX7 yX7_check wsX7_check) := goodIn_app (goodIn_of _ (by decide +kernel)) ggL_law_X7_check
set_option maxRecDepth 20000 in
theorem ggL_law_X6_every : GoodIn wsL_law wsX6_every := goodIn_r _ [470, 266, 196, 197, 2, 198, 549, 550, 551, 552, 553, 554] (by decide +kernel) (by decide +kernel)
set_option maxRecDepth 20000 in
theorem gL_law_X6_every : GoodIn wsL_law (wsV RL 75 RX6 yX6_every wsX6_every) := goodIn_app (goodIn_of _ (by decide +kernel)) ggL_law_X6_every
set_option maxRecDepth 20000 in
theorem ggL_law_X7_every : GoodIn wsL_law wsX7_every := goodIn_r _ [474, 331, 222, 223, 5, 224, 555, 556, 557, 558, 559, 560, 561, 562, 563, 564, 565, 566, 567, 568, 569, 570, 571, 572, 573, 574, 575, 576, 577, 578, 579, 580, 581, 582] (by decide +kernel) (by decide +kernel)
set_option maxRecDepth 20000 in
theorem gL_law_X7_every : GoodIn wsL_law (wsV RL 78 RX7 yX7_every wsX7_every) := goodIn_app (goodIn_of _ (by decide +kernel)) ggL_law_X7_every
set_option maxRecDepth 20000 in
theorem ggL_law_X6_mend : GoodIn wsL_law wsX6_mend := goodIn_r _ [478, 15, 229, 230, 231, 2, 232, 20, 17, 233, 234, 235, 14, 236, 211, 479, 324, 325, 19, 326, 38, 46, 35, 118, 119, 120, 121, 122, 123, 124, 125, 126, 127, 128, 129, 130, 131, 132, 133, 134, 135, 136, 137, 138, 139, 140, 141, 142, 143, 144, 145, 146, 147, 148, 149, 150, 151, 152, 153, 154, 155, 156, 157, 158, 159, 34, 160, 105, 161, 162, 212, 213, 214, 215, 237, 549, 550, 551, 552, 553, 554, 585, 586, 587, 588, 589, 590, 591, 592, 593, 594, 595, 583, 584, 596, 597, 604, 605, 606, 607, 608] (by decide +kernel) (by decide +kernel)
set_option maxRecDepth 20000 in
theorem gL_law_X6_mend : GoodIn wsL_law (wsV RL 79 RX6 yX6_mend wsX6_mend) := goodIn_app (goodIn_of _ (by decide +kernel)) ggL_law_X6_mend
set_option maxRecDepth 20000 in
theorem ggL_law_X7_mend : GoodIn wsL_law wsX7_mend := goodIn_r _ [483, 72, 242, 243, 244, 5, 245, 70, 222, 223, 224, 246, 247, 248, 249, 168, 177, 178, 179, 180, 67, 66, 167, 71, 65, 68, 181, 182, 183, 184, 555, 556, 557, 558, 559, 560, 561, 562, 563, 564, 565, 566, 567, 568, 569, 570, 571, 572, 573, 574, 575, 576, 577, 578, 579, 580, 581, 582] (by decide +kernel) (by decide +kernel)
set_option maxRecDepth 20000 in
theorem gL_law_X7_mend : GoodIn wsL_law (wsV RL 83 RX7 yX7_mend wsX7_mend) := goodIn_app (goodIn_of _ (by decide +kernel)) ggL_law_X7_mend
set_option maxRecDepth 20000 in
theorem ggL_law_X6_keep : GoodIn wsL_law wsX6_keep := goodIn_r _ [487, 488, 22, 21, 489, 490, 229, 230, 231, 2, 232, 20, 17, 491, 492, 493, 494, 10, 11, 495, 33, 34, 496, 37, 497, 47, 48, 49, 50, 51, 52, 498, 102, 103, 104, 105, 106, 107, 108, 109, 499, 370, 371, 19, 372, 46, 38, 549, 550, 551, 552, 553, 554, 609, 610, 596, 597, 585, 586, 587, 588, 589, 590, 591, 592, 593, 594, 595, 583, 584, 604, 605, 606, 607, 608] (by decide +kernel) (by decide +kernel)
set_option maxRecDepth 20000 in
theorem gL_law_X6_keep : GoodIn wsL_law (wsV RL 84 RX6 yX6_keep wsX6_keep) := goodIn_app (goodIn_of _ (by decide +kernel)) ggL_law_X6_keep
set_option maxRecDepth 20000 in
theorem ggL_law_X7_keep : GoodIn wsL_law wsX7_keep := goodIn_r _ [503, 504, 84, 85, 71, 86, 167, 242, 243, 244, 5, 245, 70, 222, 223, 224, 378, 379, 380, 381, 168, 69, 72, 555, 556, 557, 558, 559, 560, 561, 562, 563, 564, 565, 566, 567, 568, 569, 570, 571, 572, 573, 574, 575, 576, 577, 578, 579, 580, 581, 582] (by decide +kernel) (by decide +kernel)
set_option maxRecDepth 20000 in
theorem gL_law_X7_keep : GoodIn wsL_law (wsV RL 87 RX7 yX7_keep wsX7_keep) := goodIn_app (goodIn_of _ (by decide +kernel)) ggL_law_X7_keep
set_option maxRecDepth 20000 in
theorem ggL_law_X6_kept : GoodIn wsL_law wsX6_kept := goodIn_r _ [508, 364, 509, 510, 511, 2, 512, 488, 22, 199, 200, 201, 196, 197, 198, 609, 610, 549, 550, 551, 552, 553, 554] (by decide +kernel) (by decide +kernel)
set_option maxRecDepth 20000 in
theorem gL_law_X6_kept : GoodIn wsL_law (wsV RL 88 RX6 yX6_kept wsX6_kept) := goodIn_app (goodIn_of _ (by decide +kernel)) ggL_law_X6_kept
set_option maxRecDepth 20000 in
theorem ggL_law_X7_kept : GoodIn wsL_law wsX7_kept := goodIn_r _ [516, 504, 84, 377, 222, 223, 5, 224, 555, 556, 557, 558, 559, 560, 561, 562, 563, 564, 565, 566, 567, 568, 569, 570, 571, 572, 573, 574, 575, 576, 577, 578, 579, 580, 581, 582] (by decide +kernel) (by decide +kernel)
set_option maxRecDepth 20000 in
theorem gL_law_X7_kept : GoodIn wsL_law (wsV RL 91 RX7 yX7_kept wsX7_kept) := goodIn_app (goodIn_of _ (by decide +kernel)) ggL_law_X7_kept
set_option maxRecDepth 20000 in
theorem ggL_law_X6_then : GoodIn wsL_law wsX6_then := goodIn_r _ [520, 194, 509, 510, 511, 2, 512, 488, 22, 432, 433, 434, 34, 435, 52, 436, 281, 158, 159, 160, 105, 197, 198, 609, 610, 549, 550, 551, 552, 553, 554, 596, 597] (by decide +kernel) (by decide +kernel)
set_option maxRecDepth 20000 in
theorem gL_law_X6_then : GoodIn wsL_law (wsV RL 92 RX6 yX6_then wsX6_then) := goodIn_app (goodIn_of _ (by decide +kernel)) ggL_law_X6_then
set_option maxRecDepth 20000 in
theorem ggL_law_X7_then : GoodIn wsL_law wsX7_then := goodIn_r _ [524, 504, 86, 85, 220, 222, 223, 5, 224, 555, 556, 557, 558, 559, 560, 561, 562, 563, 564, 565, 566, 567, 568, 569, 570, 571, 572, 573, 574, 575, 576, 577, 578, 579, 580, 581, 582] (by decide +kernel) (by decide +kernel)
set_option maxRecDepth 20000 in
theorem gL_law_X7_then : GoodIn wsL_law (wsV RL 95 RX7 yX7_then wsX7_then) := goodIn_app (goodIn_of _ (by decide +kernel)) ggL_law_X7_then
set_option maxRecDepth 20000 in
theorem ggL_law_X6_told : GoodIn wsL_law wsX6_told := goodIn_r _ [528, 229, 230, 231, 2, 232, 20, 17, 529, 530, 531, 19, 532, 276, 44, 318, 45, 271, 161, 162, 533, 534, 535, 536, 46, 40, 549, 550, 551, 552, 553, 554, 585, 586, 587, 588, 589, 590, 591, 592, 593, 594, 595, 598, 599, 600, 601, 602, 603, 583, 584] (by decide +kernel) (by decide +kernel)
set_option maxRecDepth 20000 in
theorem gL_law_X6_told : GoodIn wsL_law (wsV RL 96 RX6 yX6_told wsX6_told) := goodIn_app (goodIn_of _ (by decide +kernel)) ggL_law_X6_told
set_option maxRecDepth 20000 in
theorem ggL_law_X7_told : GoodIn wsL_law wsX7_told := goodIn_r _ [540, 168, 73, 74, 79, 75, 76, 77, 242, 243, 244, 5, 245, 70, 222, 223, 224, 555, 556, 557, 558, 559, 560, 561, 562, 563, 564, 565, 566, 567, 568, 569, 570, 571, 572, 573, 574, 575, 576, 577, 578, 579, 580, 581, 582] (by decide +kernel) (by decide +kernel)
set_option maxRecDepth 20000 in
theorem gL_law_X7_told : GoodIn wsL_law (wsV RL 99 RX7 yX7_told wsX7_told) := goodIn_app (goodIn_of _ (by decide +kernel)) ggL_law_X7_told
set_option maxRecDepth 20000 in
theorem ggL_law_X6_all : GoodIn wsL_law wsX6_all := goodIn_r _ [544, 17, 15, 20, 266, 488, 549, 550, 551, 552, 553, 554, 585, 586, 587, 588, 589, 590, 591, 592, 593, 594, 595, 596, 597, 583, 584] (by decide +kernel) (by decide +kernel)
set_option maxRecDepth 20000 in
theorem gL_law_X6_all : GoodIn wsL_law (wsV RL 100 RX6 yX6_all wsX6_all) := goodIn_app (goodIn_of _ (by decide +kernel)) ggL_law_X6_all
set_option maxRecDepth 20000 in
theorem ggL_law_X7_all : GoodIn wsL_law wsX7_all := goodIn_r _ [548, 167, 168, 70, 331, 504, 555, 556, 557, 558, 559, 560, 561, 562, 563, 564, 565, 566, 567, 568, 569, 570, 571, 572, 573, 574, 575, 576, 577, 578, 579, 580, 581, 582] (by decide +kernel) (by decide +kernel)
set_option maxRecDepth 20000 in
theorem gL_law_X7_all : GoodIn wsL_law (wsV RL 103 RX7 yX7_all wsX7_all) := goodIn_app (goodIn_of _ (by decide +kernel)) ggL_law_X7_all
