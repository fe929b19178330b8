set_option maxRecDepth 20000 in
theorem ggX1_init_X5_init : GoodIn wsX1_init wsX5_init := goodIn_r _ [20, 21, 2, 3, 22, 23, 24, 33, 34] (by decide +kernel) (by decide +kernel)
set_option maxRecDepth 20000 in
theorem gX1_init_X5_init_n11 : GoodIn wsX1_init (wsX5_init) := ggX1_init_X5_init
set_option maxRecDepth 20000 in
theorem ggX1_init_X0_init : GoodIn wsX1_init wsX0_init := goodIn_r _ [26, 27, 2, 3, 23, 28, 29, 30, 31, 9, 32, 46, 47, 48, 49, 50, 51] (by decide +kernel) (by decide +kernel)
set_option maxRecDepth 20000 in
theorem gX1_init_X0_init_n31 : GoodIn wsX1_init (wsX0_init) := ggX1_init_X0_init
set_option maxRecDepth 20000 in
theorem ggX1_becomeLike_X5_becomeLike : GoodIn wsX1_becomeLike wsX5_becomeLike := goodIn_r _ [9, 10, 11, 12, 13, 14, 15, 29, 30] (by decide +kernel) (by decide +kernel)
set_option maxRecDepth 20000 in
theorem gX1_becomeLike_X5_becomeLike : GoodIn wsX1_becomeLike (wsV RX1 44 RX5 yX5_becomeLike wsX5_becomeLike) := goodIn_app (goodIn_of _ (by decide +kernel)) ggX1_becomeLike_X5_becomeLike
set_option maxRecDepth 20000 in
theorem ggX1_addObject_X5_becomeLike : GoodIn wsX1_addObject wsX5_becomeLike := goodIn_r _ [9, 10, 11, 12, 13, 14, 15, 84, 85] (by decide +kernel) (by decide +kernel)
set_option maxRecDepth 20000 in
theorem gX1_addObject_X5_becomeLike : GoodIn wsX1_addObject (wsV RX1 44 RX5 yX5_becomeLike wsX5_becomeLike) := goodIn_app (goodIn_of _ (by decide +kernel)) ggX1_addObject_X5_becomeLike
set_option maxRecDepth 20000 in
theorem ggX1_addObject_X5_addObject : GoodIn wsX1_addObject wsX5_addObject := goodIn_r _ [19, 11, 10, 84, 85] (by decide +kernel) (by decide +kernel)
set_option maxRecDepth 20000 in
theorem gX1_addObject_X5_addObject : GoodIn wsX1_addObject (wsV RX1 53 RX5 yX5_addObject wsX5_addObject) := goodIn_app (goodIn_of _ (by decide +kernel)) ggX1_addObject_X5_addObject
set_option maxRecDepth 20000 in
theorem ggX1_addObject_X1_gain : GoodIn wsX1_addObject wsX1_gain := goodIn_r _ [24, 3, 1, 2, 25, 26, 27, 28, 29, 30, 31, 32, 33, 34, 35, 36, 37, 38, 39, 40, 41, 42, 43, 44, 45, 46, 47, 48, 49, 50, 51, 52, 53, 54, 55, 56, 57, 58, 59, 60, 61, 62, 63, 64, 65, 66, 8, 67, 10, 68, 69, 70, 71, 72, 73, 74, 75, 76, 77, 78, 79, 80, 81, 82, 83, 84, 85, 86, 87, 88, 89, 90] (by decide +kernel) (by decide +kernel)
set_option maxRecDepth 20000 in
theorem gX1_addObject_X1_gain : GoodIn wsX1_addObject (wsV RX1 56 RX1 yX1_gain wsX1_gain) := goodIn_app (goodIn_of _ (by decide +kernel)) ggX1_addObject_X1_gain
set_option maxRecDepth 20000 in
theorem ggX1_fromNothing_X2_fromNothing : GoodIn wsX1_fromNothing wsX2_fromNothing := goodIn_r _ [7, 8, 9, 10, 11, 12, 13, 14, 15, 16, 17, 18, 19, 20, 21, 6, 22, 23, 24, 25, 26, 27, 28, 29, 30, 31, 32, 33, 34, 35, 36, 37, 38, 39, 40, 41, 42, 43, 44, 45, 46, 47, 48, 49, 50, 64, 65, 66, 67, 68, 69, 70] (by decide +kernel) (by decide +kernel)
set_option maxRecDepth 20000 in
theorem gX1_fromNothing_X2_fromNothing : GoodIn wsX1_fromNothing (wsV RX1 67 RX2 yX2_fromNothing wsX2_fromNothing) := goodIn_app (goodIn_of _ (by decide +kernel)) ggX1_fromNothing_X2_fromNothing
set_option maxRecDepth 20000 in
theorem ggX1_isFalse_X2_fromNothing : GoodIn wsX1_isFalse wsX2_fromNothing := goodIn_r _ [8, 9, 10, 11, 12, 13, 14, 15, 16, 17, 18, 19, 20, 21, 22, 7, 23, 24, 25, 26, 27, 28, 29, 30, 31, 32, 33, 34, 35, 36, 37, 38, 39, 40, 41, 42, 43, 44, 45, 46, 47, 48, 49, 50, 51, 65, 66, 67, 68, 69, 70, 71] (by decide +kernel) (by decide +kernel)
set_option maxRecDepth 20000 in
theorem gX1_isFalse_X2_fromNothing : GoodIn wsX1_isFalse (wsV RX1 67 RX2 yX2_fromNothing wsX2_fromNothing) := goodIn_app (goodIn_of _ (by decide +kernel)) ggX1_isFalse_X2_fromNothing
set_option maxRecDepth 20000 in
theorem ggX1_firstFalse_X1_isFalse : GoodIn wsX1_firstFalse wsX1_isFalse := goodIn_r _ [6, 7, 1, 8, 9, 10, 11, 12, 13, 14, 15, 16, 17, 18, 19, 20, 21, 22, 23, 24, 25, 26, 27, 28, 29, 30, 31, 32, 33, 34, 35, 36, 37, 38, 39, 40, 41, 42, 43, 44, 45, 46, 47, 48, 49, 50, 51, 52, 53, 54, 55, 56, 57, 58, 59, 60, 61, 62, 63, 64, 65, 66, 67, 68, 69, 70, 71, 72, 73, 74, 75, 76] (by decide +kernel) (by decide +kernel)
set_option maxRecDepth 20000 in
theorem gX1_firstFalse_X1_isFalse : GoodIn wsX1_firstFalse (wsV RX1 73 RX1 yX1_isFalse wsX1_isFalse) := goodIn_app (goodIn_of _ (by decide +kernel)) ggX1_firstFalse_X1_isFalse
set_option maxRecDepth 20000 in
theorem ggX1_scoreBehind_X1_scoreNow : GoodIn wsX1_scoreBehind wsX1_scoreNow := goodIn_r _ [7, 2, 8, 99, 100, 101, 102, 103, 104, 105, 106, 107, 108, 109, 110, 111, 112, 113, 114, 115, 116] (by decide +kernel) (by decide +kernel)
set_option maxRecDepth 20000 in
theorem gX1_scoreBehind_X1_scoreNow : GoodIn wsX1_scoreBehind (wsV RX1 80 RX1 yX1_scoreNow wsX1_scoreNow) := goodIn_app (goodIn_of _ (by decide +kernel)) ggX1_scoreBehind_X1_scoreNow
set_option maxRecDepth 20000 in
theorem ggX1_scoreBehind_X5_takes : GoodIn wsX1_scoreBehind wsX5_takes := goodIn_r _ [13, 14, 15, 16, 12, 17, 18, 19, 20, 21, 22, 23, 24, 25, 26, 117, 118] (by decide +kernel) (by decide +kernel)
set_option maxRecDepth 20000 in
theorem gX1_scoreBehind_X5_takes : GoodIn wsX1_scoreBehind (wsV RX1 83 RX5 yX5_takes wsX5_takes) := goodIn_app (goodIn_of _ (by decide +kernel)) ggX1_scoreBehind_X5_takes
set_option maxRecDepth 20000 in
theorem ggX1_scoreBehind_X1_layOut : GoodIn wsX1_scoreBehind wsX1_layOut := goodIn_r _ [30, 31, 1, 32, 33, 34, 12, 35, 18, 26, 36, 37, 38, 39, 40, 41, 42, 43, 14, 15, 16, 17, 22, 23, 24, 25, 99, 100, 101, 102, 103, 104, 105, 106, 107, 108, 109, 117, 118] (by decide +kernel) (by decide +kernel)
set_option maxRecDepth 20000 in
theorem gX1_scoreBehind_X1_layOut : GoodIn wsX1_scoreBehind (wsV RX1 87 RX1 yX1_layOut wsX1_layOut) := goodIn_app (goodIn_of _ (by decide +kernel)) ggX1_scoreBehind_X1_layOut
set_option maxRecDepth 20000 in
theorem ggX1_scoreBehind_X1_gainUnlessForgotten : GoodIn wsX1_scoreBehind wsX1_gainUnlessForgotten := goodIn_r _ [47, 48, 2, 1, 31, 49, 50, 51, 52, 53, 54, 55, 56, 20, 57, 58, 59, 60, 6, 61, 62, 63, 64, 65, 66, 67, 68, 69, 70, 71, 72, 73, 74, 75, 76, 77, 78, 79, 80, 81, 82, 83, 84, 85, 86, 87, 88, 89, 90, 91, 92, 93, 94, 95, 96, 97, 98, 15, 16, 12, 17, 18, 99, 100, 101, 102, 103, 104, 105, 106, 107, 108, 109, 110, 111, 117, 118, 112, 113, 114, 115, 116] (by decide +kernel) (by decide +kernel)
set_option maxRecDepth 20000 in
theorem gX1_scoreBehind_X1_gainUnlessForgotten : GoodIn wsX1_scoreBehind (wsV RX1 91 RX1 yX1_gainUnlessForgotten wsX1_gainUnlessForgotten) := goodIn_app (goodIn_of _ (by decide +kernel)) ggX1_scoreBehind_X1_gainUnlessForgotten
set_option maxRecDepth 20000 in
theorem ggX1_makeChange_X5_takes : GoodIn wsX1_makeChange wsX5_takes := goodIn_r _ [18, 19, 20, 21, 17, 22, 23, 24, 25, 26, 27, 28, 29, 30, 31, 144, 145] (by decide +kernel) (by decide +kernel)
set_option maxRecDepth 20000 in
theorem gX1_makeChange_X5_takes : GoodIn wsX1_makeChange (wsV RX1 83 RX5 yX5_takes wsX5_takes) := goodIn_app (goodIn_of _ (by decide +kernel)) ggX1_makeChange_X5_takes
set_option maxRecDepth 20000 in
theorem ggX1_makeChange_X0_push : GoodIn wsX1_makeChange wsX0_push := goodIn_r _ [36, 37, 38, 39, 40, 41, 42, 43, 44, 45, 46, 47, 7, 8, 9, 148, 149, 150, 151, 152, 153] (by decide +kernel) (by decide +kernel)
set_option maxRecDepth 20000 in
theorem gX1_makeChange_X0_push : GoodIn wsX1_makeChange (wsV RX1 98 RX0 yX0_push wsX0_push) := goodIn_app (goodIn_of _ (by decide +kernel)) ggX1_makeChange_X0_push
set_option maxRecDepth 20000 in
theorem ggX1_makeChange_X1_layOut : GoodIn wsX1_makeChange wsX1_layOut := goodIn_r _ [52, 11, 1, 53, 54, 55, 17, 56, 23, 31, 57, 43, 44, 45, 58, 59, 60, 61, 19, 20, 21, 22, 27, 28, 29, 30, 133, 134, 135, 136, 137, 138, 139, 140, 141, 142, 143, 144, 145] (by decide +kernel) (by decide +kernel)
set_option maxRecDepth 20000 in
theorem gX1_makeChange_X1_layOut : GoodIn wsX1_makeChange (wsV RX1 87 RX1 yX1_layOut wsX1_layOut) := goodIn_app (goodIn_of _ (by decide +kernel)) ggX1_makeChange_X1_layOut
set_option maxRecDepth 20000 in
theorem ggX1_makeChange_X1_gainUnlessForgotten : GoodIn wsX1_makeChange wsX1_gainUnlessForgotten := goodIn_r _ [65, 66, 10, 1, 11, 67, 68, 69, 70, 71, 72, 73, 74, 25, 75, 76, 77, 78, 51, 79, 80, 81, 82, 83, 84, 85, 86, 87, 8, 88, 89, 90, 91, 92, 93, 94, 95, 96, 97, 98, 99, 100, 101, 102, 103, 104, 105, 106, 107, 108, 109, 110, 111, 112, 113, 114, 115, 20, 21, 17, 22, 23, 133, 134, 135, 136, 137, 138, 139, 140, 141, 142, 143, 146, 147, 144, 145, 154, 155, 156, 157, 158] (by decide +kernel) (by decide +kernel)
set_option maxRecDepth 20000 in
theorem gX1_makeChange_X1_gainUnlessForgotten : GoodIn wsX1_makeChange (wsV RX1 91 RX1 yX1_gainUnlessForgotten wsX1_gainUnlessForgotten) := goodIn_app (goodIn_of _ (by decide +kernel)) ggX1_makeChange_X1_gainUnlessForgotten
set_option maxRecDepth 20000 in
theorem ggX1_makeChange_X5_countOther : GoodIn wsX1_makeChange wsX5_countOther := goodIn_r _ [119, 23, 31, 74, 25, 75, 144, 145] (by decide +kernel) (by decide +kernel)
set_option maxRecDepth 20000 in
theorem gX1_makeChange_X5_countOther : GoodIn wsX1_makeChange (wsV RX1 115 RX5 yX5_countOther wsX5_countOther) := goodIn_app (goodIn_of _ (by decide +kernel)) ggX1_makeChange_X5_countOther
set_option maxRecDepth 20000 in
theorem ggX1_makeChange_X1_moveOn : GoodIn wsX1_makeChange wsX1_moveOn := goodIn_r _ [123, 10, 124, 1, 11, 67, 68, 69, 70, 71, 72, 73, 74, 25, 75, 53, 54, 55, 17, 56, 23, 31, 57, 43, 44, 45, 133, 134, 135, 136, 137, 138, 139, 140, 141, 142, 143, 146, 147, 144, 145, 154, 155, 156, 157, 158] (by decide +kernel) (by decide +kernel)
set_option maxRecDepth 20000 in
theorem gX1_makeChange_X1_moveOn : GoodIn wsX1_makeChange (wsV RX1 119 RX1 yX1_moveOn wsX1_moveOn) := goodIn_app (goodIn_of _ (by decide +kernel)) ggX1_makeChange_X1_moveOn
set_option maxRecDepth 20000 in
theorem ggX1_makeChange_X1_firstFalse : GoodIn wsX1_makeChange wsX1_firstFalse := goodIn_r _ [128, 10, 129, 130, 131, 51, 132, 3, 1, 80, 81, 82, 70, 83, 72, 73, 84, 85, 86, 87, 8, 88, 89, 90, 91, 92, 93, 94, 95, 96, 97, 98, 99, 100, 101, 102, 103, 104, 105, 106, 107, 108, 109, 110, 111, 112, 113, 114, 115, 20, 21, 17, 22, 23, 74, 25, 75, 133, 134, 135, 136, 137, 138, 139, 140, 141, 142, 143, 146, 147, 144, 145, 154, 155, 156, 157, 158] (by decide +kernel) (by decide +kernel)
set_option maxRecDepth 20000 in
theorem gX1_makeChange_X1_firstFalse : GoodIn wsX1_makeChange (wsV RX1 125 RX1 yX1_firstFalse wsX1_firstFalse) := goodIn_app (goodIn_of _ (by decide +kernel)) ggX1_makeChange_X1_firstFalse
set_option maxRecDepth 20000 in
theorem ggX1_takeBack_X0_pop : GoodIn wsX1_takeBack wsX0_pop := goodIn_r _ [13, 14, 15, 70, 71, 72, 73, 74, 75] (by decide +kernel) (by decide +kernel)
set_option maxRecDepth 20000 in
theorem gX1_takeBack_X0_pop : GoodIn wsX1_takeBack (wsV RX1 132 RX0 yX0_pop wsX0_pop) := goodIn_app (goodIn_of _ (by decide +kernel)) ggX1_takeBack_X0_pop
set_option maxRecDepth 20000 in
theorem ggX1_takeBack_X1_layOut : GoodIn wsX1_takeBack wsX1_layOut := goodIn_r _ [20, 21, 22, 23, 24, 25, 26, 27, 28, 29, 30, 6, 7, 8, 31, 32, 33, 34, 35, 36, 37, 38, 39, 40, 41, 42, 59, 60, 61, 62, 63, 64, 65, 66, 67, 68, 69, 76, 77] (by decide +kernel) (by decide +kernel)
set_option maxRecDepth 20000 in
theorem gX1_takeBack_X1_layOut : GoodIn wsX1_takeBack (wsV RX1 87 RX1 yX1_layOut wsX1_layOut) := goodIn_app (goodIn_of _ (by decide +kernel)) ggX1_takeBack_X1_layOut
set_option maxRecDepth 20000 in
theorem ggX1_takeBack_X1_moveOn : GoodIn wsX1_takeBack wsX1_moveOn := goodIn_r _ [46, 47, 48, 22, 21, 49, 50, 51, 52, 53, 54, 55, 56, 57, 58, 23, 24, 25, 26, 27, 28, 29, 30, 6, 7, 8, 59, 60, 61, 62, 63, 64, 65, 66, 67, 68, 69, 78, 79, 76, 77, 80, 81, 82, 83, 84] (by decide +kernel) (by decide +kernel)
set_option maxRecDepth 20000 in
theorem gX1_takeBack_X1_moveOn : GoodIn wsX1_takeBack (wsV RX1 119 RX1 yX1_moveOn wsX1_moveOn) := goodIn_app (goodIn_of _ (by decide +kernel)) ggX1_takeBack_X1_moveOn
set_option maxRecDepth 20000 in
theorem ggX1_closeBatch_X1_takeBack : GoodIn wsX1_closeBatch wsX1_takeBack := goodIn_r _ [7, 8, 2, 1, 9, 10, 11, 12, 13, 14, 15, 16, 17, 18, 19, 20, 21, 22, 23, 6, 24, 25, 26, 27, 28, 29, 30, 31, 32, 33, 34, 35, 36, 37, 38, 39, 40, 41, 42, 43, 44, 45, 46, 47, 48, 49, 50, 51, 52, 53, 54, 55, 56, 57, 58, 59, 60, 61, 62, 63, 64, 65, 66, 67, 68, 69, 70, 71, 72, 73, 74, 75, 76, 77, 78, 79, 80, 81, 82, 83, 84, 85, 86, 87, 88] (by decide +kernel) (by decide +kernel)
set_option maxRecDepth 20000 in
theorem gX1_closeBatch_X1_takeBack : GoodIn wsX1_closeBatch (wsV RX1 153 RX1 yX1_takeBack wsX1_takeBack) := goodIn_app (goodIn_of _ (by decide +kernel)) ggX1_closeBatch_X1_takeBack
set_option maxRecDepth 20000 in
theorem ggX1_figure_X6_oneIf : GoodIn wsX1_figure wsX6_oneIf := goodIn_r _ [8] (by decide +kernel) (by decide +kernel)
set_option maxRecDepth 20000 in
theorem gX1_figure_X6_oneIf_n159 : GoodIn wsX1_figure (wsX6_oneIf) := ggX1_figure_X6_oneIf
set_option maxRecDepth 20000 in
theorem ggX1_figure_X1_countForgetting : GoodIn wsX1_figure wsX1_countForgetting := goodIn_r _ [13, 14, 15, 6, 7, 8, 16, 17, 18, 19, 20, 21, 22, 23, 24, 25, 26, 33, 34] (by decide +kernel) (by decide +kernel)
set_option maxRecDepth 20000 in
theorem gX1_figure_X1_countForgetting : GoodIn wsX1_figure (wsV RX1 163 RX1 yX1_countForgetting wsX1_countForgetting) := goodIn_app (goodIn_of _ (by decide +kernel)) ggX1_figure_X1_countForgetting
set_option maxRecDepth 20000 in
theorem ggX1_countForgetting_X6_oneIf : GoodIn wsX1_countForgetting wsX6_oneIf := goodIn_r _ [5] (by decide +kernel) (by decide +kernel)
set_option maxRecDepth 20000 in
theorem gX1_countForgetting_X6_oneIf_n159 : GoodIn wsX1_countForgetting (wsX6_oneIf) := ggX1_countForgetting_X6_oneIf
set_option maxRecDepth 20000 in
theorem ggX1_layOut_X5_becomeLike : GoodIn wsX1_layOut wsX5_becomeLike := goodIn_r _ [7, 8, 9, 10, 11, 12, 13, 37, 38] (by decide +kernel) (by decide +kernel)
set_option maxRecDepth 20000 in
theorem gX1_layOut_X5_becomeLike : GoodIn wsX1_layOut (wsV RX1 44 RX5 yX5_becomeLike wsX5_becomeLike) := goodIn_app (goodIn_of _ (by decide +kernel)) ggX1_layOut_X5_becomeLike
set_option maxRecDepth 20000 in
theorem ggX1_layOut_X5_put : GoodIn wsX1_layOut wsX5_put := goodIn_r _ [17, 9, 8, 18, 19, 20, 6, 21, 22, 23, 24, 25, 37, 38] (by decide +kernel) (by decide +kernel)
set_option maxRecDepth 20000 in
theorem gX1_layOut_X5_put : GoodIn wsX1_layOut (wsV RX1 166 RX5 yX5_put wsX5_put) := goodIn_app (goodIn_of _ (by decide +kernel)) ggX1_layOut_X5_put
set_option maxRecDepth 20000 in
theorem ggX1_moveOn_X2_countTouched : GoodIn wsX1_moveOn wsX2_countTouched := goodIn_r _ [9, 10, 11, 12, 13, 14, 39, 40, 41, 42, 43, 44, 45] (by decide +kernel) (by decide +kernel)
set_option maxRecDepth 20000 in
theorem gX1_moveOn_X2_countTouched : GoodIn wsX1_moveOn (wsV RX1 169 RX2 yX2_countTouched wsX2_countTouched) := goodIn_app (goodIn_of _ (by decide +kernel)) ggX1_moveOn_X2_countTouched
set_option maxRecDepth 20000 in
theorem ggX1_moveOn_X5_becomeLike : GoodIn wsX1_moveOn wsX5_becomeLike := goodIn_r _ [19, 20, 21, 22, 23, 24, 25, 39, 40] (by decide +kernel) (by decide +kernel)
set_option maxRecDepth 20000 in
theorem gX1_moveOn_X5_becomeLike : GoodIn wsX1_moveOn (wsV RX1 44 RX5 yX5_becomeLike wsX5_becomeLike) := goodIn_app (goodIn_of _ (by decide +kernel)) ggX1_moveOn_X5_becomeLike
set_option maxRecDepth 20000 in
theorem ggX1_gainUnlessForgotten_X2_countTouched : GoodIn wsX1_gainUnlessForgotten wsX2_countTouched := goodIn_r _ [9, 10, 11, 12, 13, 14, 75, 76, 77, 78, 79, 80, 81] (by decide +kernel) (by decide +kernel)
set_option maxRecDepth 20000 in
theorem gX1_gainUnlessForgotten_X2_countTouched : GoodIn wsX1_gainUnlessForgotten (wsV RX1 169 RX2 yX2_countTouched wsX2_countTouched) := goodIn_app (goodIn_of _ (by decide +kernel)) ggX1_gainUnlessForgotten_X2_countTouched
set_option maxRecDepth 20000 in
theorem ggX1_gainUnlessForgotten_X1_gain : GoodIn wsX1_gainUnlessForgotten wsX1_gain := goodIn_r _ [19, 2, 4, 3, 20, 21, 22, 8, 23, 10, 11, 24, 25, 26, 27, 28, 29, 30, 31, 32, 33, 34, 35, 36, 37, 38, 39, 40, 41, 42, 43, 44, 45, 46, 47, 48, 49, 50, 51, 52, 53, 54, 55, 56, 57, 58, 59, 60, 61, 12, 13, 14, 62, 63, 64, 65, 66, 67, 68, 69, 70, 71, 72, 73, 74, 75, 76, 77, 78, 79, 80, 81] (by decide +kernel) (by decide +kernel)
set_option maxRecDepth 20000 in
theorem gX1_gainUnlessForgotten_X1_gain : GoodIn wsX1_gainUnlessForgotten (wsV RX1 56 RX1 yX1_gain wsX1_gain) := goodIn_app (goodIn_of _ (by decide +kernel)) ggX1_gainUnlessForgotten_X1_gain
set_option maxRecDepth 20000 in
theorem ggX1_gain_X2_fromNothing : GoodIn wsX1_gain wsX2_fromNothing := goodIn_r _ [8, 9, 10, 11, 12, 13, 14, 15, 16, 17, 18, 19, 20, 21, 22, 7, 23, 24, 25, 26, 27, 28, 29, 30, 31, 32, 33, 34, 35, 36, 37, 38, 39, 40, 41, 42, 43, 44, 45, 46, 47, 48, 49, 50, 51, 65, 66, 67, 68, 69, 70, 71] (by decide +kernel) (by decide +kernel)
set_option maxRecDepth 20000 in
theorem gX1_gain_X2_fromNothing : GoodIn wsX1_gain (wsV RX1 67 RX2 yX2_fromNothing wsX2_fromNothing) := goodIn_app (goodIn_of _ (by decide +kernel)) ggX1_gain_X2_fromNothing
set_option maxRecDepth 20000 in
theorem ggX2_fromNothing_X2_eachAbove : GoodIn wsX2_fromNothing wsX2_eachAbove := goodIn_r _ [16, 4, 17, 18, 7, 19, 47, 48, 49, 50, 51] (by decide +kernel) (by decide +kernel)
set_option maxRecDepth 20000 in
theorem gX2_fromNothing_X2_eachAbove : GoodIn wsX2_fromNothing (wsV RX2 36 RX2 yX2_eachAbove wsX2_eachAbove) := goodIn_app (goodIn_of _ (by decide +kernel)) ggX2_fromNothing_X2_eachAbove
set_option maxRecDepth 20000 in
theorem ggX2_fromNothing_X2_sum : GoodIn wsX2_fromNothing wsX2_sum := goodIn_r _ [22] (by decide +kernel) (by decide +kernel)
set_option maxRecDepth 20000 in
theorem gX2_fromNothing_X2_sum : GoodIn wsX2_fromNothing (va_wsS RX2 40 yX2_sum wsX2_sum) := goodIn_app (goodIn_of _ (by decide +kernel)) ggX2_fromNothing_X2_sum
set_option maxRecDepth 20000 in
theorem ggX2_fromNothing_X2_equalPairs : GoodIn wsX2_fromNothing wsX2_equalPairs := goodIn_r _ [25, 26, 27, 15, 28] (by decide +kernel) (by decide +kernel)
set_option maxRecDepth 20000 in
theorem gX2_fromNothing_X2_equalPairs : GoodIn wsX2_fromNothing (va_wsS RX2 53 yX2_equalPairs wsX2_equalPairs) := goodIn_app (goodIn_of _ (by decide +kernel)) ggX2_fromNothing_X2_equalPairs
set_option maxRecDepth 20000 in
theorem ggX2_fromNothing_X2_crowds : GoodIn wsX2_fromNothing wsX2_crowds := goodIn_r _ [32, 4, 17, 18, 7, 19, 26, 27, 15, 28, 47, 48, 49, 50, 51] (by decide +kernel) (by decide +kernel)
set_option maxRecDepth 20000 in
theorem gX2_fromNothing_X2_crowds : GoodIn wsX2_fromNothing (wsV RX2 56 RX2 yX2_crowds wsX2_crowds) := goodIn_app (goodIn_of _ (by decide +kernel)) ggX2_fromNothing_X2_crowds
set_option maxRecDepth 20000 in
theorem ggX2_fromNothing_X2_lessThanBefore : GoodIn wsX2_fromNothing wsX2_lessThanBefore := goodIn_r _ [35, 36, 37, 38, 39, 40, 41, 42, 43, 44, 45, 46] (by decide +kernel) (by decide +kernel)
set_option maxRecDepth 20000 in
theorem gX2_fromNothing_X2_lessThanBefore : GoodIn wsX2_fromNothing (va_wsS RX2 59 yX2_lessThanBefore wsX2_lessThanBefore) := goodIn_app (goodIn_of _ (by decide +kernel)) ggX2_fromNothing_X2_lessThanBefore
set_option maxRecDepth 20000 in
theorem ggX2_equalPairs_X2_countOf : GoodIn wsX2_equalPairs wsX2_countOf := goodIn_r _ [4] (by decide +kernel) (by decide +kernel)
set_option maxRecDepth 20000 in
theorem gX2_equalPairs_X2_countOf : GoodIn wsX2_equalPairs (va_wsS RX2 66 yX2_countOf wsX2_countOf) := goodIn_app (goodIn_of _ (by decide +kernel)) ggX2_equalPairs_X2_countOf
set_option maxRecDepth 20000 in
theorem ggX2_crowds_X2_countOf : GoodIn wsX2_crowds wsX2_countOf := goodIn_r _ [9] (by decide +kernel) (by decide +kernel)
set_option maxRecDepth 20000 in
theorem gX2_crowds_X2_countOf : GoodIn wsX2_crowds (va_wsS RX2 66 yX2_countOf wsX2_countOf) := goodIn_app (goodIn_of _ (by decide +kernel)) ggX2_crowds_X2_countOf
set_option maxRecDepth 20000 in
theorem ggX2_lessThanBefore_X5_has : GoodIn wsX2_lessThanBefore wsX5_has := goodIn_r _ [5, 6, 10, 11] (by decide +kernel) (by decide +kernel)
set_option maxRecDepth 20000 in
theorem gX2_lessThanBefore_X5_has : GoodIn wsX2_lessThanBefore (wsV RX2 70 RX5 yX5_has wsX5_has) := goodIn_app (goodIn_of _ (by decide +kernel)) ggX2_lessThanBefore_X5_has
set_option maxRecDepth 20000 in
theorem ggX2_lessThanBefore_X6_oneIf : GoodIn wsX2_lessThanBefore wsX6_oneIf := goodIn_r _ [9] (by decide +kernel) (by decide +kernel)
set_option maxRecDepth 20000 in
theorem gX2_lessThanBefore_X6_oneIf_n74 : GoodIn wsX2_lessThanBefore (wsX6_oneIf) := ggX2_lessThanBefore_X6_oneIf
set_option maxRecDepth 20000 in
theorem ggX2_countTouched_X6_oneIf : GoodIn wsX2_countTouched wsX6_oneIf := goodIn_r _ [5] (by decide +kernel) (by decide +kernel)
set_option maxRecDepth 20000 in
theorem gX2_countTouched_X6_oneIf_n74 : GoodIn wsX2_countTouched (wsX6_oneIf) := ggX2_countTouched_X6_oneIf
set_option maxRecDepth 20000 in
theorem ggX4_init_X5_init : GoodIn wsX4_init wsX5_init := goodIn_r _ [11, 12, 2, 3, 13, 14, 15, 32, 33] (by decide +kernel) (by decide +kernel)
set_option maxRecDepth 20000 in
theorem gX4_init_X5_init_n11 : GoodIn wsX4_init (wsX5_init) := ggX4_init_X5_init
set_option maxRecDepth 20000 in
theorem ggX4_init_X5_becomeLike : GoodIn wsX4_init wsX5_becomeLike := goodIn_r _ [19, 20, 15, 21, 22, 23, 24, 32, 33] (by decide +kernel) (by decide +kernel)
set_option maxRecDepth 20000 in
theorem gX4_init_X5_becomeLike : GoodIn wsX4_init (wsV RX4 27 RX5 yX5_becomeLike wsX5_becomeLike) := goodIn_app (goodIn_of _ (by decide +kernel)) ggX4_init_X5_becomeLike
set_option maxRecDepth 20000 in
theorem ggX4_init_X1_scoreNow : GoodIn wsX4_init wsX1_scoreNow := goodIn_r _ [29, 30, 31, 36, 37, 38, 39, 40, 41, 42, 43, 44, 45, 46, 47, 48, 49, 50, 51, 52, 53] (by decide +kernel) (by decide +kernel)
set_option maxRecDepth 20000 in
theorem gX4_init_X1_scoreNow : GoodIn wsX4_init (wsV RX4 31 RX1 yX1_scoreNow wsX1_scoreNow) := goodIn_app (goodIn_of _ (by decide +kernel)) ggX4_init_X1_scoreNow
set_option maxRecDepth 20000 in
theorem ggX5_read_X5_has : GoodIn wsX5_read wsX5_has := goodIn_r _ [7, 8, 12, 13] (by decide +kernel) (by decide +kernel)
set_option maxRecDepth 20000 in
theorem gX5_read_X5_has : GoodIn wsX5_read (wsV RX5 20 RX5 yX5_has wsX5_has) := goodIn_app (goodIn_of _ (by decide +kernel)) ggX5_read_X5_has
set_option maxRecDepth 20000 in
theorem ggX5_read_X6_within : GoodIn wsX5_read wsX6_within := goodIn_r _ [11] (by decide +kernel) (by decide +kernel)
set_option maxRecDepth 20000 in
theorem gX5_read_X6_within_n24 : GoodIn wsX5_read (wsX6_within) := ggX5_read_X6_within
set_option maxRecDepth 20000 in
theorem ggX5_takes_X5_has : GoodIn wsX5_takes wsX5_has := goodIn_r _ [5, 6, 15, 16] (by decide +kernel) (by decide +kernel)
set_option maxRecDepth 20000 in
theorem gX5_takes_X5_has : GoodIn wsX5_takes (wsV RX5 20 RX5 yX5_has wsX5_has) := goodIn_app (goodIn_of _ (by decide +kernel)) ggX5_takes_X5_has
set_option maxRecDepth 20000 in
theorem ggX5_takes_X6_within : GoodIn wsX5_takes wsX6_within := goodIn_r _ [9] (by decide +kernel) (by decide +kernel)
set_option maxRecDepth 20000 in
theorem gX5_takes_X6_within_n24 : GoodIn wsX5_takes (wsX6_within) := ggX5_takes_X6_within
set_option maxRecDepth 20000 in
theorem ggX5_takes_X5_leads : GoodIn wsX5_takes wsX5_leads := goodIn_r _ [13, 6, 14, 1, 2, 3, 4, 5, 15, 16] (by decide +kernel) (by decide +kernel)
set_option maxRecDepth 20000 in
theorem gX5_takes_X5_leads : GoodIn wsX5_takes (wsV RX5 35 RX5 yX5_leads wsX5_leads) := goodIn_app (goodIn_of _ (by decide +kernel)) ggX5_takes_X5_leads
set_option maxRecDepth 20000 in
theorem ggX5_leads_X5_has : GoodIn wsX5_leads wsX5_has := goodIn_r _ [7, 1, 8, 9] (by decide +kernel) (by decide +kernel)
set_option maxRecDepth 20000 in
theorem gX5_leads_X5_has : GoodIn wsX5_leads (wsV RX5 20 RX5 yX5_has wsX5_has) := goodIn_app (goodIn_of _ (by decide +kernel)) ggX5_leads_X5_has
set_option maxRecDepth 20000 in
theorem ggX5_put_X5_has : GoodIn wsX5_put wsX5_has := goodIn_r _ [7, 2, 12, 13] (by decide +kernel) (by decide +kernel)
set_option maxRecDepth 20000 in
theorem gX5_put_X5_has : GoodIn wsX5_put (wsV RX5 20 RX5 yX5_has wsX5_has) := goodIn_app (goodIn_of _ (by decide +kernel)) ggX5_put_X5_has
set_option maxRecDepth 20000 in
theorem ggX5_put_X5_leads : GoodIn wsX5_put wsX5_leads := goodIn_r _ [11, 2, 1, 3, 4, 5, 6, 7, 12, 13] (by decide +kernel) (by decide +kernel)
set_option maxRecDepth 20000 in
theorem gX5_put_X5_leads : GoodIn wsX5_put (wsV RX5 35 RX5 yX5_leads wsX5_leads) := goodIn_app (goodIn_of _ (by decide +kernel)) ggX5_put_X5_leads
set_option maxRecDepth 20000 in
theorem ggX5_countOther_X6_oneIf : GoodIn wsX5_countOther wsX6_oneIf := goodIn_r _ [5] (by decide +kernel) (by decide +kernel)
set_option maxRecDepth 20000 in
theorem gX5_countOther_X6_oneIf_n39 : GoodIn wsX5_countOther (wsX6_oneIf) := ggX5_countOther_X6_oneIf
set_option maxRecDepth 20000 in
theorem ggX6_init_X3_init : GoodIn wsX6_init wsX3_init := goodIn_r _ [16, 17, 2, 3, 18, 19, 53, 54] (by decide +kernel) (by decide +kernel)
set_option maxRecDepth 20000 in
theorem gX6_init_X3_init_n9 : GoodIn wsX6_init (wsX3_init) := ggX6_init_X3_init
set_option maxRecDepth 20000 in
theorem ggX6_init_X1_init : GoodIn wsX6_init wsX1_init := goodIn_r _ [22, 23, 2, 3, 24, 25, 26, 27, 28, 29, 30, 31, 32, 33, 34, 35, 36, 37, 38, 39, 40, 41, 42, 43, 44, 45, 46, 47, 48, 49, 50, 51, 52, 72, 73, 61, 62, 63, 64, 65, 66, 67, 68, 69, 70, 71, 74, 75, 76, 77, 78, 79] (by decide +kernel) (by decide +kernel)
set_option maxRecDepth 20000 in
theorem gX6_init_X1_init : GoodIn wsX6_init (wsX1_init) := ggX6_init_X1_init
set_option maxRecDepth 20000 in
theorem ggX6_object_X6_isSettled : GoodIn wsX6_object wsX6_isSettled := goodIn_r _ [6, 7, 1, 81, 82, 83, 84, 85, 86, 87, 88, 89, 90, 91, 92, 93, 94, 95, 96, 97] (by decide +kernel) (by decide +kernel)
set_option maxRecDepth 20000 in
theorem gX6_object_X6_isSettled : GoodIn wsX6_object (wsV RX6 35 RX6 yX6_isSettled wsX6_isSettled) := goodIn_app (goodIn_of _ (by decide +kernel)) ggX6_object_X6_isSettled
set_option maxRecDepth 20000 in
theorem ggX6_object_X1_addObject : GoodIn wsX6_object wsX1_addObject := goodIn_r _ [12, 13, 14, 15, 16, 17, 18, 19, 20, 21, 22, 23, 24, 25, 26, 27, 28, 29, 30, 31, 32, 33, 34, 11, 35, 36, 37, 38, 39, 40, 41, 42, 43, 44, 45, 46, 47, 48, 49, 50, 51, 52, 53, 54, 55, 56, 57, 58, 59, 60, 61, 62, 63, 64, 65, 66, 67, 68, 69, 70, 71, 72, 73, 74, 75, 76, 77, 78, 79, 5, 80, 87, 88, 89, 90, 91, 92, 93, 94, 95, 96, 97, 100, 101, 98, 99, 102, 103, 104, 105, 106] (by decide +kernel) (by decide +kernel)
set_option maxRecDepth 20000 in
theorem gX6_object_X1_addObject : GoodIn wsX6_object (wsV RX6 48 RX1 yX1_addObject wsX1_addObject) := goodIn_app (goodIn_of _ (by decide +kernel)) ggX6_object_X1_addObject
set_option maxRecDepth 20000 in
theorem ggX6_rule_X6_isRule : GoodIn wsX6_rule wsX6_isRule := goodIn_r _ [9, 10, 11, 12, 13, 8, 14, 15, 16, 17] (by decide +kernel) (by decide +kernel)
set_option maxRecDepth 20000 in
theorem gX6_rule_X6_isRule : GoodIn wsX6_rule (va_wsS RX6 52 yX6_isRule wsX6_isRule) := goodIn_app (goodIn_of _ (by decide +kernel)) ggX6_rule_X6_isRule
set_option maxRecDepth 20000 in
theorem ggX6_rule_X6_isSettled : GoodIn wsX6_rule wsX6_isSettled := goodIn_r _ [21, 22, 5, 90, 91, 92, 93, 94, 95, 103, 104, 105, 106, 107, 108, 109, 110, 111, 112, 113] (by decide +kernel) (by decide +kernel)
set_option maxRecDepth 20000 in
theorem gX6_rule_X6_isSettled : GoodIn wsX6_rule (wsV RX6 35 RX6 yX6_isSettled wsX6_isSettled) := goodIn_app (goodIn_of _ (by decide +kernel)) ggX6_rule_X6_isSettled
set_option maxRecDepth 20000 in
theorem ggX6_rule_X2_init : GoodIn wsX6_rule wsX2_init := goodIn_r _ [25, 26, 27, 28, 29, 30, 31, 32, 33, 98, 99, 100, 101, 102] (by decide +kernel) (by decide +kernel)
set_option maxRecDepth 20000 in
theorem gX6_rule_X2_init : GoodIn wsX6_rule (wsX2_init) := ggX6_rule_X2_init
set_option maxRecDepth 20000 in
theorem ggX6_rule_X3_add : GoodIn wsX6_rule wsX3_add := goodIn_r _ [38, 39, 40, 96, 97] (by decide +kernel) (by decide +kernel)
set_option maxRecDepth 20000 in
theorem gX6_rule_X3_add : GoodIn wsX6_rule (wsV RX6 64 RX3 yX3_add wsX3_add) := goodIn_app (goodIn_of _ (by decide +kernel)) ggX6_rule_X3_add
set_option maxRecDepth 20000 in
theorem ggX6_rule_X1_fromNothing : GoodIn wsX6_rule wsX1_fromNothing := goodIn_r _ [45, 46, 47, 48, 49, 50, 4, 51, 30, 29, 32, 31, 52, 53, 54, 55, 56, 57, 58, 59, 60, 61, 62, 63, 64, 65, 66, 67, 68, 69, 70, 71, 72, 73, 74, 75, 76, 77, 78, 79, 80, 81, 82, 83, 84, 85, 86, 87, 88, 8, 89, 103, 104, 105, 106, 107, 108, 109, 110, 111, 112, 113, 96, 97, 114, 115, 98, 99, 100, 101, 102] (by decide +kernel) (by decide +kernel)
set_option maxRecDepth 20000 in
theorem gX6_rule_X1_fromNothing : GoodIn wsX6_rule (wsV RX6 72 RX1 yX1_fromNothing wsX1_fromNothing) := goodIn_app (goodIn_of _ (by decide +kernel)) ggX6_rule_X1_fromNothing
set_option maxRecDepth 20000 in
theorem ggX6_forget_X6_planAt : GoodIn wsX6_forget wsX6_planAt := goodIn_r _ [6, 7, 8, 18, 19, 20, 21, 22, 23] (by decide +kernel) (by decide +kernel)
set_option maxRecDepth 20000 in
theorem gX6_forget_X6_planAt : GoodIn wsX6_forget (wsV RX6 76 RX6 yX6_planAt wsX6_planAt) := goodIn_app (goodIn_of _ (by decide +kernel)) ggX6_forget_X6_planAt
set_option maxRecDepth 20000 in
theorem ggX6_forget_X3_has : GoodIn wsX6_forget wsX3_has := goodIn_r _ [13, 14, 35, 36] (by decide +kernel) (by decide +kernel)
set_option maxRecDepth 20000 in
theorem gX6_forget_X3_has : GoodIn wsX6_forget (wsV RX6 80 RX3 yX3_has wsX3_has) := goodIn_app (goodIn_of _ (by decide +kernel)) ggX6_forget_X3_has
set_option maxRecDepth 20000 in
theorem ggX6_forget_X6_oneIf : GoodIn wsX6_forget wsX6_oneIf := goodIn_r _ [17] (by decide +kernel) (by decide +kernel)
set_option maxRecDepth 20000 in
theorem gX6_forget_X6_oneIf : GoodIn wsX6_forget (va_wsS RX6 88 yX6_oneIf wsX6_oneIf) := goodIn_app (goodIn_of _ (by decide +kernel)) ggX6_forget_X6_oneIf
set_option maxRecDepth 20000 in
theorem ggX6_fork_X6_planAt : GoodIn wsX6_fork wsX6_planAt := goodIn_r _ [11, 1, 6, 60, 61, 62, 63, 64, 65] (by decide +kernel) (by decide +kernel)
set_option maxRecDepth 20000 in
theorem gX6_fork_X6_planAt : GoodIn wsX6_fork (wsV RX6 76 RX6 yX6_planAt wsX6_planAt) := goodIn_app (goodIn_of _ (by decide +kernel)) ggX6_fork_X6_planAt
set_option maxRecDepth 20000 in
theorem ggX6_fork_X1_init : GoodIn wsX6_fork wsX1_init := goodIn_r _ [14, 15, 16, 17, 18, 19, 20, 21, 22, 23, 24, 25, 26, 27, 28, 29, 30, 31, 32, 33, 34, 35, 36, 37, 38, 39, 40, 41, 42, 43, 44, 45, 46, 77, 78, 66, 67, 68, 69, 70, 71, 72, 73, 74, 75, 76, 79, 80, 81, 82, 83, 84] (by decide +kernel) (by decide +kernel)
set_option maxRecDepth 20000 in
theorem gX6_fork_X1_init : GoodIn wsX6_fork (wsX1_init) := ggX6_fork_X1_init
set_option maxRecDepth 20000 in
theorem ggX6_fork_X1_becomeLike : GoodIn wsX6_fork wsX1_becomeLike := goodIn_r _ [50, 21, 32, 24, 26, 51, 52, 53, 20, 54, 55, 38, 56, 57, 58, 59, 66, 67, 68, 69, 70, 71, 72, 73, 74, 75, 76, 85, 86, 77, 78] (by decide +kernel) (by decide +kernel)
set_option maxRecDepth 20000 in
theorem gX6_fork_X1_becomeLike : GoodIn wsX6_fork (wsV RX6 92 RX1 yX1_becomeLike wsX1_becomeLike) := goodIn_app (goodIn_of _ (by decide +kernel)) ggX6_fork_X1_becomeLike
set_option maxRecDepth 20000 in
theorem ggX6_change_X6_planAt : GoodIn wsX6_change wsX6_planAt := goodIn_r _ [6, 7, 8, 144, 145, 146, 147, 148, 149] (by decide +kernel) (by decide +kernel)
set_option maxRecDepth 20000 in
theorem gX6_change_X6_planAt : GoodIn wsX6_change (wsV RX6 76 RX6 yX6_planAt wsX6_planAt) := goodIn_app (goodIn_of _ (by decide +kernel)) ggX6_change_X6_planAt
set_option maxRecDepth 20000 in
theorem ggX6_change_X1_makeChange : GoodIn wsX6_change wsX1_makeChange := goodIn_r _ [13, 14, 15, 16, 17, 18, 19, 20, 21, 22, 23, 24, 25, 26, 27, 28, 29, 30, 31, 32, 33, 34, 35, 36, 37, 5, 38, 39, 40, 41, 42, 43, 44, 45, 46, 47, 48, 49, 50, 51, 52, 53, 54, 55, 56, 57, 58, 59, 60, 61, 62, 12, 63, 64, 65, 66, 67, 68, 69, 70, 71, 72, 73, 74, 75, 76, 77, 78, 79, 80, 81, 82, 83, 84, 85, 86, 87, 88, 89, 90, 91, 92, 93, 94, 95, 96, 97, 98, 99, 100, 101, 102, 103, 104, 105, 106, 107, 108, 109, 110, 111, 112, 113, 114, 115, 116, 117, 118, 119, 120, 121, 122, 123, 124, 125, 126, 127, 128, 129, 130, 131, 132, 133, 134, 135, 136, 137, 138, 139, 140, 141, 142, 143, 150, 151, 152, 153, 154, 155, 156, 157, 158, 159, 160, 161, 162, 163, 164, 165, 166, 167, 168, 169, 170, 171, 172, 173, 174, 175] (by decide +kernel) (by decide +kernel)
set_option maxRecDepth 20000 in
theorem gX6_change_X1_makeChange : GoodIn wsX6_change (wsV RX6 99 RX1 yX1_makeChange wsX1_makeChange) := goodIn_app (goodIn_of _ (by decide +kernel)) ggX6_change_X1_makeChange
set_option maxRecDepth 20000 in
theorem ggX6_attempt_X6_planAt : GoodIn wsX6_attempt wsX6_planAt := goodIn_r _ [6, 7, 8, 114, 115, 116, 117, 118, 119] (by decide +kernel) (by decide +kernel)
set_option maxRecDepth 20000 in
theorem gX6_attempt_X6_planAt : GoodIn wsX6_attempt (wsV RX6 76 RX6 yX6_planAt wsX6_planAt) := goodIn_app (goodIn_of _ (by decide +kernel)) ggX6_attempt_X6_planAt
set_option maxRecDepth 20000 in
theorem ggX6_attempt_X6_isLevel : GoodIn wsX6_attempt wsX6_isLevel := goodIn_r _ [11, 12, 13, 5, 14] (by decide +kernel) (by decide +kernel)
set_option maxRecDepth 20000 in
theorem gX6_attempt_X6_isLevel : GoodIn wsX6_attempt (va_wsS RX6 103 yX6_isLevel wsX6_isLevel) := goodIn_app (goodIn_of _ (by decide +kernel)) ggX6_attempt_X6_isLevel
