set_option maxRecDepth 20000 in
theorem ggL_law_X7_init : GoodIn wsL_law wsX7_init := goodIn_r _ [9, 10, 11, 12, 13, 14, 15, 16, 17, 18, 19, 20, 21, 22, 23, 24, 25, 26, 27, 28, 29, 30, 31, 32, 33, 34, 652, 653, 654, 655, 656, 657, 658, 659, 660, 661, 682, 683] (by decide +kernel) (by decide +kernel)
set_option maxRecDepth 20000 in
theorem gL_law_X7_init : GoodIn wsL_law (wsX7_init) := ggL_law_X7_init
set_option maxRecDepth 20000 in
theorem ggL_law_X8_init : GoodIn wsL_law wsX8_init := goodIn_r _ [37, 38, 11, 12, 39, 40, 41, 42, 43, 44, 45, 46, 32, 47, 25, 48, 49, 50, 51, 52, 53, 54, 55, 56, 57, 58, 662, 663, 664, 665, 666, 667, 668, 669, 670, 671, 672, 673, 674, 675, 676, 677, 678, 679, 680, 681] (by decide +kernel) (by decide +kernel)
set_option maxRecDepth 20000 in
theorem gL_law_X8_init : GoodIn wsL_law (wsX8_init) := ggL_law_X8_init
set_option maxRecDepth 20000 in
theorem ggL_law_X7_dial : GoodIn wsL_law wsX7_dial := goodIn_r _ [62, 15, 14, 13, 63, 64, 65, 66, 67, 68, 69, 70, 71, 72, 73, 74, 75, 76, 77, 78, 79, 80, 81, 82, 83, 84, 85, 86, 87, 88, 11, 12, 89, 90, 91, 92, 652, 653, 654, 655, 656, 657, 658, 659, 660, 661, 684, 685, 686, 687] (by decide +kernel) (by decide +kernel)
set_option maxRecDepth 20000 in
theorem gL_law_X7_dial : GoodIn wsL_law (wsV RL 15 RX7 yX7_dial wsX7_dial) := goodIn_app (goodIn_of _ (by decide +kernel)) ggL_law_X7_dial
set_option maxRecDepth 20000 in
theorem ggL_law_X8_dial : GoodIn wsL_law wsX8_dial := goodIn_r _ [96, 58, 40, 42, 45, 43, 46, 47, 97, 98, 5, 99, 100, 101, 102, 103, 104, 105, 106, 107, 108, 109, 110, 111, 112, 113, 114, 115, 116, 117, 118, 119, 120, 121, 662, 663, 664, 665, 666, 667, 668, 669, 670, 671, 672, 673, 674, 675, 676, 677, 678, 679, 680, 681] (by decide +kernel) (by decide +kernel)
set_option maxRecDepth 20000 in
theorem gL_law_X8_dial : GoodIn wsL_law (wsV RL 19 RX8 yX8_dial wsX8_dial) := goodIn_app (goodIn_of _ (by decide +kernel)) ggL_law_X8_dial
set_option maxRecDepth 20000 in
theorem ggL_law_X7_turn : GoodIn wsL_law wsX7_turn := goodIn_r _ [125, 126, 127, 128, 129, 2, 130, 15, 14, 65, 66, 67, 68, 69, 70, 71, 72, 73, 74, 75, 76, 77, 78, 79, 80, 81, 131, 132, 133, 64, 134, 91, 89, 90, 92, 135, 136, 137, 138, 139, 140, 141, 142, 143, 144, 145, 146, 147, 148, 149, 150, 151, 152, 153, 154, 155, 156, 157, 158, 159, 160, 161, 162, 163, 164, 165, 166, 167, 168, 169, 170, 171, 172, 173, 174, 175, 176, 177, 178, 179, 180, 181, 182, 183, 184, 185, 186, 187, 188, 189, 190, 191, 192, 193, 194, 195, 196, 197, 198, 199, 24, 200, 201, 202, 203, 26, 684, 685, 686, 687, 652, 653, 654, 655, 656, 657, 658, 659, 660, 661] (by decide +kernel) (by decide +kernel)
set_option maxRecDepth 20000 in
theorem gL_law_X7_turn : GoodIn wsL_law (wsV RL 20 RX7 yX7_turn wsX7_turn) := goodIn_app (goodIn_of _ (by decide +kernel)) ggL_law_X7_turn
set_option maxRecDepth 20000 in
theorem ggL_law_X8_turn : GoodIn wsL_law wsX8_turn := goodIn_r _ [207, 40, 208, 209, 210, 5, 211, 58, 212, 213, 214, 97, 98, 99, 100, 101, 102, 103, 104, 105, 106, 107, 215, 216, 217, 218, 108, 109, 110, 111, 112, 113, 114, 219, 220, 221, 222, 46, 47, 45, 223, 224, 225, 226, 227, 115, 116, 117, 118, 119, 120, 121, 228, 229, 230, 231, 43, 42, 232, 233, 234, 235, 236, 237, 238, 239, 240, 241, 242, 243, 244, 245, 57, 662, 663, 664, 665, 666, 667, 668, 669, 670, 671, 672, 673, 674, 675, 676, 677, 678, 679, 680, 681] (by decide +kernel) (by decide +kernel)
set_option maxRecDepth 20000 in
theorem gL_law_X8_turn : GoodIn wsL_law (wsV RL 24 RX8 yX8_turn wsX8_turn) := goodIn_app (goodIn_of _ (by decide +kernel)) ggL_law_X8_turn
set_option maxRecDepth 20000 in
theorem ggL_law_X7_spin : GoodIn wsL_law wsX7_spin := goodIn_r _ [249, 126, 127, 128, 129, 2, 130, 15, 14, 65, 66, 67, 68, 69, 70, 71, 72, 73, 74, 75, 76, 77, 78, 79, 80, 81, 131, 132, 133, 64, 134, 91, 89, 90, 92, 135, 136, 137, 138, 139, 140, 141, 142, 143, 144, 145, 146, 147, 148, 149, 150, 151, 152, 153, 154, 155, 156, 157, 158, 159, 160, 161, 162, 163, 164, 165, 166, 167, 168, 169, 170, 171, 172, 173, 174, 175, 176, 177, 178, 179, 180, 181, 182, 183, 184, 185, 186, 187, 188, 189, 190, 191, 192, 193, 194, 195, 200, 201, 202, 203, 24, 26, 196, 197, 198, 199, 684, 685, 686, 687, 652, 653, 654, 655, 656, 657, 658, 659, 660, 661] (by decide +kernel) (by decide +kernel)
set_option maxRecDepth 20000 in
theorem gL_law_X7_spin : GoodIn wsL_law (wsV RL 25 RX7 yX7_spin wsX7_spin) := goodIn_app (goodIn_of _ (by decide +kernel)) ggL_law_X7_spin
set_option maxRecDepth 20000 in
theorem ggL_law_X8_spin : GoodIn wsL_law wsX8_spin := goodIn_r _ [253, 40, 254, 241, 208, 209, 210, 5, 211, 58, 212, 213, 214, 97, 98, 99, 100, 101, 102, 103, 104, 105, 106, 107, 215, 216, 217, 218, 108, 109, 110, 111, 112, 113, 114, 219, 220, 221, 222, 46, 47, 45, 223, 224, 225, 226, 227, 115, 116, 117, 118, 119, 120, 121, 228, 229, 230, 231, 43, 42, 232, 233, 234, 235, 236, 242, 243, 244, 245, 57, 662, 663, 664, 665, 666, 667, 668, 669, 670, 671, 672, 673, 674, 675, 676, 677, 678, 679, 680, 681] (by decide +kernel) (by decide +kernel)
set_option maxRecDepth 20000 in
theorem gL_law_X8_spin : GoodIn wsL_law (wsV RL 29 RX8 yX8_spin wsX8_spin) := goodIn_app (goodIn_of _ (by decide +kernel)) ggL_law_X8_spin
set_option maxRecDepth 20000 in
theorem ggL_law_X7_place : GoodIn wsL_law wsX7_place := goodIn_r _ [258, 259, 260, 127, 128, 129, 2, 130, 15, 14, 684, 685, 686, 687, 652, 653, 654, 655, 656, 657, 658, 659, 660, 661] (by decide +kernel) (by decide +kernel)
set_option maxRecDepth 20000 in
theorem gL_law_X7_place : GoodIn wsL_law (wsV RL 30 RX7 yX7_place wsX7_place) := goodIn_app (goodIn_of _ (by decide +kernel)) ggL_law_X7_place
set_option maxRecDepth 20000 in
theorem ggL_law_X8_place : GoodIn wsL_law wsX8_place := goodIn_r _ [264, 40, 46, 45, 43, 42, 208, 209, 210, 5, 211, 58, 212, 213, 214, 265, 266, 267, 268, 269, 270, 271, 114, 272, 273, 274, 275, 276, 277, 278, 279, 280, 281, 282, 121, 283, 284, 285, 286, 662, 663, 664, 665, 666, 667, 668, 669, 670, 671, 672, 673, 674, 675, 676, 677, 678, 679, 680, 681] (by decide +kernel) (by decide +kernel)
set_option maxRecDepth 20000 in
theorem gL_law_X8_place : GoodIn wsL_law (wsV RL 34 RX8 yX8_place wsX8_place) := goodIn_app (goodIn_of _ (by decide +kernel)) ggL_law_X8_place
set_option maxRecDepth 20000 in
theorem ggL_law_X7_laps : GoodIn wsL_law wsX7_laps := goodIn_r _ [290, 291, 127, 128, 129, 2, 130, 15, 14, 684, 685, 686, 687, 652, 653, 654, 655, 656, 657, 658, 659, 660, 661] (by decide +kernel) (by decide +kernel)
set_option maxRecDepth 20000 in
theorem gL_law_X7_laps : GoodIn wsL_law (wsV RL 35 RX7 yX7_laps wsX7_laps) := goodIn_app (goodIn_of _ (by decide +kernel)) ggL_law_X7_laps
set_option maxRecDepth 20000 in
theorem ggL_law_X8_laps : GoodIn wsL_law wsX8_laps := goodIn_r _ [295, 47, 208, 209, 210, 5, 211, 58, 212, 213, 214, 662, 663, 664, 665, 666, 667, 668, 669, 670, 671, 672, 673, 674, 675, 676, 677, 678, 679, 680, 681] (by decide +kernel) (by decide +kernel)
set_option maxRecDepth 20000 in
theorem gL_law_X8_laps : GoodIn wsL_law (wsV RL 39 RX8 yX8_laps wsX8_laps) := goodIn_app (goodIn_of _ (by decide +kernel)) ggL_law_X8_laps
set_option maxRecDepth 20000 in
theorem ggL_law_X7_fine : GoodIn wsL_law wsX7_fine := goodIn_r _ [299, 126, 127, 128, 129, 2, 130, 15, 14, 684, 685, 686, 687, 652, 653, 654, 655, 656, 657, 658, 659, 660, 661] (by decide +kernel) (by decide +kernel)
set_option maxRecDepth 20000 in
theorem gL_law_X7_fine : GoodIn wsL_law (wsV RL 40 RX7 yX7_fine wsX7_fine) := goodIn_app (goodIn_of _ (by decide +kernel)) ggL_law_X7_fine
set_option maxRecDepth 20000 in
theorem ggL_law_X8_fine : GoodIn wsL_law wsX8_fine := goodIn_r _ [303, 40, 208, 209, 210, 5, 211, 58, 212, 213, 214, 662, 663, 664, 665, 666, 667, 668, 669, 670, 671, 672, 673, 674, 675, 676, 677, 678, 679, 680, 681] (by decide +kernel) (by decide +kernel)
set_option maxRecDepth 20000 in
theorem gL_law_X8_fine : GoodIn wsL_law (wsV RL 44 RX8 yX8_fine wsX8_fine) := goodIn_app (goodIn_of _ (by decide +kernel)) ggL_law_X8_fine
set_option maxRecDepth 20000 in
theorem ggL_law_X7_drive : GoodIn wsL_law wsX7_drive := goodIn_r _ [307, 18, 17, 69, 70, 67, 71, 72, 73, 74, 75, 76, 77, 78, 79, 80, 81, 308, 309, 2, 310, 311, 312, 313, 314, 315, 316, 317, 318, 319, 320, 321, 322, 323, 324, 325, 326, 327, 11, 12, 328, 329, 330, 331, 332, 333, 334, 335, 336, 337, 338, 339, 652, 653, 654, 655, 656, 657, 658, 659, 660, 661, 688, 689, 690, 691, 692, 693, 694, 695, 696, 697, 698] (by decide +kernel) (by decide +kernel)
set_option maxRecDepth 20000 in
theorem gL_law_X7_drive : GoodIn wsL_law (wsV RL 45 RX7 yX7_drive wsX7_drive) := goodIn_app (goodIn_of _ (by decide +kernel)) ggL_law_X7_drive
set_option maxRecDepth 20000 in
theorem ggL_law_X8_drive : GoodIn wsL_law wsX8_drive := goodIn_r _ [343, 344, 345, 48, 49, 50, 51, 212, 213, 5, 214, 100, 101, 102, 103, 108, 109, 110, 111, 112, 113, 114, 662, 663, 664, 665, 666, 667, 668, 669, 670, 671, 672, 673, 674, 675, 676, 677, 678, 679, 680, 681] (by decide +kernel) (by decide +kernel)
set_option maxRecDepth 20000 in
theorem gL_law_X8_drive : GoodIn wsL_law (wsV RL 48 RX8 yX8_drive wsX8_drive) := goodIn_app (goodIn_of _ (by decide +kernel)) ggL_law_X8_drive
set_option maxRecDepth 20000 in
theorem ggL_law_X7_fit : GoodIn wsL_law wsX7_fit := goodIn_r _ [349, 19, 350, 351, 352, 2, 353, 18, 17, 354, 355, 356, 652, 653, 654, 655, 656, 657, 658, 659, 660, 661] (by decide +kernel) (by decide +kernel)
set_option maxRecDepth 20000 in
theorem gL_law_X7_fit : GoodIn wsL_law (wsV RL 49 RX7 yX7_fit wsX7_fit) := goodIn_app (goodIn_of _ (by decide +kernel)) ggL_law_X7_fit
set_option maxRecDepth 20000 in
theorem ggL_law_X8_fit : GoodIn wsL_law wsX8_fit := goodIn_r _ [360, 52, 361, 362, 5, 363, 364, 212, 213, 214, 365, 366, 367, 368, 345, 662, 663, 664, 665, 666, 667, 668, 669, 670, 671, 672, 673, 674, 675, 676, 677, 678, 679, 680, 681] (by decide +kernel) (by decide +kernel)
set_option maxRecDepth 20000 in
theorem gL_law_X8_fit : GoodIn wsL_law (wsV RL 53 RX8 yX8_fit wsX8_fit) := goodIn_app (goodIn_of _ (by decide +kernel)) ggL_law_X8_fit
set_option maxRecDepth 20000 in
theorem ggL_law_X7_pull : GoodIn wsL_law wsX7_pull := goodIn_r _ [372, 19, 127, 128, 129, 2, 130, 15, 14, 354, 355, 356, 200, 201, 202, 203, 24, 26, 373, 374, 375, 376, 325, 377, 378, 379, 328, 380, 381, 67, 382, 383, 70, 71, 72, 73, 74, 75, 76, 77, 78, 79, 80, 81, 163, 164, 165, 166, 167, 138, 139, 140, 141, 142, 143, 144, 145, 146, 147, 148, 149, 150, 151, 152, 153, 160, 161, 162, 168, 169, 170, 171, 172, 173, 174, 175, 176, 177, 178, 179, 180, 181, 182, 384, 385, 386, 387, 316, 388, 389, 390, 334, 391, 392, 393, 394, 395, 396, 397, 398, 319, 399, 400, 401, 402, 403, 404, 405, 406, 407, 408, 136, 137, 154, 155, 156, 157, 158, 159, 409, 410, 313, 411, 412, 413, 414, 415, 416, 417, 418, 419, 132, 133, 64, 134, 91, 89, 90, 92, 135, 183, 184, 185, 186, 187, 188, 189, 190, 191, 192, 193, 194, 195, 420, 421, 196, 197, 198, 199, 652, 653, 654, 655, 656, 657, 658, 659, 660, 661, 684, 685, 686, 687, 691, 692, 693, 694, 695, 696, 697, 698, 688, 689, 690] (by decide +kernel) (by decide +kernel)
set_option maxRecDepth 20000 in
theorem gL_law_X7_pull : GoodIn wsL_law (wsV RL 54 RX7 yX7_pull wsX7_pull) := goodIn_app (goodIn_of _ (by decide +kernel)) ggL_law_X7_pull
set_option maxRecDepth 20000 in
theorem ggL_law_X8_pull : GoodIn wsL_law wsX8_pull := goodIn_r _ [425, 52, 361, 362, 5, 363, 364, 212, 213, 214, 208, 209, 210, 211, 58, 426, 427, 428, 429, 430, 431, 432, 433, 49, 48, 40, 46, 43, 50, 51, 223, 224, 225, 226, 227, 219, 220, 221, 222, 47, 45, 232, 233, 234, 235, 236, 228, 229, 230, 231, 42, 237, 238, 239, 240, 241, 242, 243, 244, 245, 57, 662, 663, 664, 665, 666, 667, 668, 669, 670, 671, 672, 673, 674, 675, 676, 677, 678, 679, 680, 681] (by decide +kernel) (by decide +kernel)
set_option maxRecDepth 20000 in
theorem gL_law_X8_pull : GoodIn wsL_law (wsV RL 57 RX8 yX8_pull wsX8_pull) := goodIn_app (goodIn_of _ (by decide +kernel)) ggL_law_X8_pull
set_option maxRecDepth 20000 in
theorem ggL_law_X7_gear : GoodIn wsL_law wsX7_gear := goodIn_r _ [437, 19, 438, 439, 354, 355, 2, 356, 200, 201, 202, 203, 24, 26, 196, 197, 198, 199, 652, 653, 654, 655, 656, 657, 658, 659, 660, 661, 691, 692, 693, 694, 695, 696, 697, 698] (by decide +kernel) (by decide +kernel)
set_option maxRecDepth 20000 in
theorem gL_law_X7_gear : GoodIn wsL_law (wsV RL 58 RX7 yX7_gear wsX7_gear) := goodIn_app (goodIn_of _ (by decide +kernel)) ggL_law_X7_gear
set_option maxRecDepth 20000 in
theorem ggL_law_X8_gear : GoodIn wsL_law wsX8_gear := goodIn_r _ [443, 444, 445, 52, 48, 50, 361, 362, 5, 363, 364, 212, 213, 214, 242, 243, 244, 245, 241, 57, 237, 238, 239, 240, 662, 663, 664, 665, 666, 667, 668, 669, 670, 671, 672, 673, 674, 675, 676, 677, 678, 679, 680, 681] (by decide +kernel) (by decide +kernel)
set_option maxRecDepth 20000 in
theorem gL_law_X8_gear : GoodIn wsL_law (wsV RL 61 RX8 yX8_gear wsX8_gear) := goodIn_app (goodIn_of _ (by decide +kernel)) ggL_law_X8_gear
set_option maxRecDepth 20000 in
theorem ggL_law_X7_lay : GoodIn wsL_law wsX7_lay := goodIn_r _ [449, 19, 438, 20, 450, 451, 2, 452, 354, 355, 356, 453, 454, 455, 200, 201, 202, 203, 24, 26, 196, 197, 198, 199, 652, 653, 654, 655, 656, 657, 658, 659, 660, 661] (by decide +kernel) (by decide +kernel)
set_option maxRecDepth 20000 in
theorem gL_law_X7_lay : GoodIn wsL_law (wsV RL 62 RX7 yX7_lay wsX7_lay) := goodIn_app (goodIn_of _ (by decide +kernel)) ggL_law_X7_lay
set_option maxRecDepth 20000 in
theorem ggL_law_X8_lay : GoodIn wsL_law wsX8_lay := goodIn_r _ [459, 460, 52, 48, 53, 461, 462, 5, 463, 212, 213, 214, 361, 362, 363, 364, 242, 243, 244, 245, 241, 57, 237, 238, 239, 240, 662, 663, 664, 665, 666, 667, 668, 669, 670, 671, 672, 673, 674, 675, 676, 677, 678, 679, 680, 681] (by decide +kernel) (by decide +kernel)
set_option maxRecDepth 20000 in
theorem gL_law_X8_lay : GoodIn wsL_law (wsV RL 66 RX8 yX8_lay wsX8_lay) := goodIn_app (goodIn_of _ (by decide +kernel)) ggL_law_X8_lay
set_option maxRecDepth 20000 in
theorem ggL_law_X7_wind : GoodIn wsL_law wsX7_wind := goodIn_r _ [467, 20, 127, 128, 129, 2, 130, 15, 14, 450, 451, 452, 200, 201, 202, 203, 24, 26, 373, 374, 375, 376, 325, 377, 378, 379, 328, 380, 381, 67, 382, 383, 70, 71, 72, 73, 74, 75, 76, 77, 78, 79, 80, 81, 163, 164, 165, 166, 167, 138, 139, 140, 141, 142, 143, 144, 145, 146, 147, 148, 149, 150, 151, 152, 153, 160, 161, 162, 168, 169, 170, 171, 172, 173, 174, 175, 176, 177, 178, 179, 180, 181, 182, 384, 385, 386, 387, 316, 388, 389, 390, 334, 391, 392, 393, 394, 395, 396, 397, 398, 319, 399, 400, 401, 402, 403, 404, 405, 406, 407, 408, 136, 137, 154, 155, 156, 157, 158, 159, 409, 410, 313, 411, 412, 413, 414, 415, 416, 417, 418, 419, 132, 133, 64, 134, 91, 89, 90, 92, 135, 183, 184, 185, 186, 187, 188, 189, 190, 191, 192, 193, 194, 195, 420, 421, 196, 197, 198, 199, 652, 653, 654, 655, 656, 657, 658, 659, 660, 661, 684, 685, 686, 687, 691, 692, 693, 694, 695, 696, 697, 698, 688, 689, 690] (by decide +kernel) (by decide +kernel)
set_option maxRecDepth 20000 in
theorem gL_law_X7_wind : GoodIn wsL_law (wsV RL 67 RX7 yX7_wind wsX7_wind) := goodIn_app (goodIn_of _ (by decide +kernel)) ggL_law_X7_wind
set_option maxRecDepth 20000 in
theorem ggL_law_X8_wind : GoodIn wsL_law wsX8_wind := goodIn_r _ [471, 241, 53, 461, 462, 5, 463, 212, 213, 214, 208, 209, 210, 211, 58, 426, 427, 428, 429, 430, 431, 432, 433, 49, 48, 40, 46, 43, 50, 51, 223, 224, 225, 226, 227, 219, 220, 221, 222, 47, 45, 232, 233, 234, 235, 236, 228, 229, 230, 231, 42, 242, 243, 244, 245, 57, 662, 663, 664, 665, 666, 667, 668, 669, 670, 671, 672, 673, 674, 675, 676, 677, 678, 679, 680, 681] (by decide +kernel) (by decide +kernel)
set_option maxRecDepth 20000 in
theorem gL_law_X8_wind : GoodIn wsL_law (wsV RL 70 RX8 yX8_wind wsX8_wind) := goodIn_app (goodIn_of _ (by decide +kernel)) ggL_law_X8_wind
set_option maxRecDepth 20000 in
theorem ggL_law_X7_laid : GoodIn wsL_law wsX7_laid := goodIn_r _ [475, 20, 476, 450, 451, 2, 452, 453, 454, 455, 200, 201, 202, 203, 24, 26, 196, 197, 198, 199, 652, 653, 654, 655, 656, 657, 658, 659, 660, 661, 691, 692, 693, 694, 695, 696, 697, 698, 688, 689, 690] (by decide +kernel) (by decide +kernel)
set_option maxRecDepth 20000 in
theorem gL_law_X7_laid : GoodIn wsL_law (wsV RL 71 RX7 yX7_laid wsX7_laid) := goodIn_app (goodIn_of _ (by decide +kernel)) ggL_law_X7_laid
set_option maxRecDepth 20000 in
theorem ggL_law_X8_laid : GoodIn wsL_law wsX8_laid := goodIn_r _ [480, 460, 53, 461, 462, 5, 463, 212, 213, 214, 237, 238, 239, 240, 241, 242, 243, 244, 245, 57, 662, 663, 664, 665, 666, 667, 668, 669, 670, 671, 672, 673, 674, 675, 676, 677, 678, 679, 680, 681] (by decide +kernel) (by decide +kernel)
set_option maxRecDepth 20000 in
theorem gL_law_X8_laid : GoodIn wsL_law (wsV RL 74 RX8 yX8_laid wsX8_laid) := goodIn_app (goodIn_of _ (by decide +kernel)) ggL_law_X8_laid
set_option maxRecDepth 20000 in
theorem ggL_law_X7_pulls : GoodIn wsL_law wsX7_pulls := goodIn_r _ [484, 485, 350, 351, 352, 2, 353, 18, 17, 691, 692, 693, 694, 695, 696, 697, 698, 688, 689, 690, 652, 653, 654, 655, 656, 657, 658, 659, 660, 661] (by decide +kernel) (by decide +kernel)
set_option maxRecDepth 20000 in
theorem gL_law_X7_pulls : GoodIn wsL_law (wsV RL 75 RX7 yX7_pulls wsX7_pulls) := goodIn_app (goodIn_of _ (by decide +kernel)) ggL_law_X7_pulls
set_option maxRecDepth 20000 in
theorem ggL_law_X8_pulls : GoodIn wsL_law wsX8_pulls := goodIn_r _ [489, 51, 365, 366, 367, 5, 368, 345, 212, 213, 214, 662, 663, 664, 665, 666, 667, 668, 669, 670, 671, 672, 673, 674, 675, 676, 677, 678, 679, 680, 681] (by decide +kernel) (by decide +kernel)
set_option maxRecDepth 20000 in
theorem gL_law_X8_pulls : GoodIn wsL_law (wsV RL 78 RX8 yX8_pulls wsX8_pulls) := goodIn_app (goodIn_of _ (by decide +kernel)) ggL_law_X8_pulls
set_option maxRecDepth 20000 in
theorem ggL_law_X7_log : GoodIn wsL_law wsX7_log := goodIn_r _ [493, 494, 495, 496, 2, 497, 22, 498, 499, 500, 28, 501, 33, 34, 652, 653, 654, 655, 656, 657, 658, 659, 660, 661, 682, 683] (by decide +kernel) (by decide +kernel)
set_option maxRecDepth 20000 in
theorem gL_law_X7_log : GoodIn wsL_law (wsV RL 79 RX7 yX7_log wsX7_log) := goodIn_app (goodIn_of _ (by decide +kernel)) ggL_law_X7_log
set_option maxRecDepth 20000 in
theorem ggL_law_X8_log : GoodIn wsL_law wsX8_log := goodIn_r _ [505, 506, 507, 54, 55, 56, 508, 509, 5, 510, 511, 212, 213, 214, 512, 513, 514, 662, 663, 664, 665, 666, 667, 668, 669, 670, 671, 672, 673, 674, 675, 676, 677, 678, 679, 680, 681] (by decide +kernel) (by decide +kernel)
set_option maxRecDepth 20000 in
theorem gL_law_X8_log : GoodIn wsL_law (wsV RL 83 RX8 yX8_log wsX8_log) := goodIn_app (goodIn_of _ (by decide +kernel)) ggL_law_X8_log
set_option maxRecDepth 20000 in
theorem ggL_law_X7_write : GoodIn wsL_law wsX7_write := goodIn_r _ [518, 519, 494, 495, 496, 2, 497, 22, 65, 66, 67, 68, 69, 70, 71, 72, 73, 74, 75, 76, 77, 78, 79, 80, 81, 520, 521, 522, 28, 523, 34, 524, 525, 526, 527, 200, 201, 202, 203, 24, 26, 196, 197, 198, 199, 682, 683, 652, 653, 654, 655, 656, 657, 658, 659, 660, 661] (by decide +kernel) (by decide +kernel)
set_option maxRecDepth 20000 in
theorem gL_law_X7_write : GoodIn wsL_law (wsV RL 84 RX7 yX7_write wsX7_write) := goodIn_app (goodIn_of _ (by decide +kernel)) ggL_law_X7_write
set_option maxRecDepth 20000 in
theorem ggL_law_X8_write : GoodIn wsL_law wsX8_write := goodIn_r _ [531, 56, 55, 508, 509, 5, 510, 511, 212, 213, 214, 97, 98, 99, 100, 101, 102, 103, 104, 105, 106, 107, 512, 513, 514, 532, 533, 534, 535, 54, 242, 243, 244, 245, 241, 57, 108, 109, 110, 111, 112, 113, 114, 115, 116, 117, 118, 119, 120, 121, 237, 238, 239, 240, 662, 663, 664, 665, 666, 667, 668, 669, 670, 671, 672, 673, 674, 675, 676, 677, 678, 679, 680, 681] (by decide +kernel) (by decide +kernel)
set_option maxRecDepth 20000 in
theorem gL_law_X8_write : GoodIn wsL_law (wsV RL 88 RX8 yX8_write wsX8_write) := goodIn_app (goodIn_of _ (by decide +kernel)) ggL_law_X8_write
set_option maxRecDepth 20000 in
theorem ggL_law_X7_read : GoodIn wsL_law wsX7_read := goodIn_r _ [539, 519, 23, 494, 495, 496, 2, 497, 22, 520, 521, 522, 28, 523, 34, 524, 525, 526, 527, 200, 201, 202, 203, 24, 26, 196, 197, 198, 199, 682, 683, 652, 653, 654, 655, 656, 657, 658, 659, 660, 661] (by decide +kernel) (by decide +kernel)
set_option maxRecDepth 20000 in
theorem gL_law_X7_read : GoodIn wsL_law (wsV RL 89 RX7 yX7_read wsX7_read) := goodIn_app (goodIn_of _ (by decide +kernel)) ggL_law_X7_read
set_option maxRecDepth 20000 in
theorem ggL_law_X8_read : GoodIn wsL_law wsX8_read := goodIn_r _ [543, 56, 55, 544, 508, 509, 5, 510, 511, 212, 213, 214, 512, 513, 514, 532, 533, 534, 535, 54, 242, 243, 244, 245, 241, 57, 265, 266, 267, 268, 269, 270, 271, 114, 272, 273, 274, 275, 276, 277, 278, 279, 280, 281, 282, 121, 283, 284, 285, 286, 237, 238, 239, 240, 662, 663, 664, 665, 666, 667, 668, 669, 670, 671, 672, 673, 674, 675, 676, 677, 678, 679, 680, 681] (by decide +kernel) (by decide +kernel)
set_option maxRecDepth 20000 in
theorem gL_law_X8_read : GoodIn wsL_law (wsV RL 92 RX8 yX8_read wsX8_read) := goodIn_app (goodIn_of _ (by decide +kernel)) ggL_law_X8_read
set_option maxRecDepth 20000 in
theorem ggL_law_X7_seen : GoodIn wsL_law wsX7_seen := goodIn_r _ [548, 23, 652, 653, 654, 655, 656, 657, 658, 659, 660, 661] (by decide +kernel) (by decide +kernel)
set_option maxRecDepth 20000 in
theorem gL_law_X7_seen : GoodIn wsL_law (wsV RL 93 RX7 yX7_seen wsX7_seen) := goodIn_app (goodIn_of _ (by decide +kernel)) ggL_law_X7_seen
set_option maxRecDepth 20000 in
theorem ggL_law_X8_seen : GoodIn wsL_law wsX8_seen := goodIn_r _ [552, 544, 662, 663, 664, 665, 666, 667, 668, 669, 670, 671, 672, 673, 674, 675, 676, 677, 678, 679, 680, 681] (by decide +kernel) (by decide +kernel)
set_option maxRecDepth 20000 in
theorem gL_law_X8_seen : GoodIn wsL_law (wsV RL 97 RX8 yX8_seen wsX8_seen) := goodIn_app (goodIn_of _ (by decide +kernel)) ggL_law_X8_seen
set_option maxRecDepth 20000 in
theorem ggL_law_X7_note : GoodIn wsL_law wsX7_note := goodIn_r _ [556, 519, 126, 259, 494, 495, 496, 2, 497, 22, 127, 128, 129, 130, 15, 14, 520, 521, 522, 28, 523, 34, 524, 525, 526, 527, 200, 201, 202, 203, 24, 26, 557, 381, 67, 382, 383, 70, 71, 72, 73, 74, 75, 76, 77, 78, 79, 80, 81, 163, 164, 165, 166, 167, 138, 139, 140, 141, 142, 143, 144, 145, 146, 147, 148, 149, 150, 151, 152, 153, 160, 161, 162, 168, 169, 170, 171, 172, 173, 174, 175, 176, 177, 178, 179, 180, 181, 182, 196, 197, 198, 199, 682, 683, 684, 685, 686, 687, 652, 653, 654, 655, 656, 657, 658, 659, 660, 661] (by decide +kernel) (by decide +kernel)
set_option maxRecDepth 20000 in
theorem gL_law_X7_note : GoodIn wsL_law (wsV RL 98 RX7 yX7_note wsX7_note) := goodIn_app (goodIn_of _ (by decide +kernel)) ggL_law_X7_note
set_option maxRecDepth 20000 in
theorem ggL_law_X8_note : GoodIn wsL_law wsX8_note := goodIn_r _ [561, 56, 40, 46, 43, 55, 508, 509, 5, 510, 511, 212, 213, 214, 208, 209, 210, 211, 58, 512, 513, 514, 532, 533, 534, 535, 54, 242, 243, 244, 245, 241, 57, 237, 238, 239, 240, 662, 663, 664, 665, 666, 667, 668, 669, 670, 671, 672, 673, 674, 675, 676, 677, 678, 679, 680, 681] (by decide +kernel) (by decide +kernel)
set_option maxRecDepth 20000 in
theorem gL_law_X8_note : GoodIn wsL_law (wsV RL 102 RX8 yX8_note wsX8_note) := goodIn_app (goodIn_of _ (by decide +kernel)) ggL_law_X8_note
set_option maxRecDepth 20000 in
theorem ggL_law_X7_recall : GoodIn wsL_law wsX7_recall := goodIn_r _ [565, 126, 519, 260, 259, 494, 495, 496, 2, 497, 22, 127, 128, 129, 130, 15, 14, 520, 521, 522, 28, 523, 34, 524, 525, 526, 527, 200, 201, 202, 203, 24, 26, 557, 381, 67, 382, 383, 70, 71, 72, 73, 74, 75, 76, 77, 78, 79, 80, 81, 163, 164, 165, 166, 167, 138, 139, 140, 141, 142, 143, 144, 145, 146, 147, 148, 149, 150, 151, 152, 153, 160, 161, 162, 168, 169, 170, 171, 172, 173, 174, 175, 176, 177, 178, 179, 180, 181, 182, 69, 566, 191, 192, 193, 194, 195, 196, 197, 198, 199, 684, 685, 686, 687, 682, 683, 652, 653, 654, 655, 656, 657, 658, 659, 660, 661] (by decide +kernel) (by decide +kernel)
set_option maxRecDepth 20000 in
theorem gL_law_X7_recall : GoodIn wsL_law (wsV RL 103 RX7 yX7_recall wsX7_recall) := goodIn_app (goodIn_of _ (by decide +kernel)) ggL_law_X7_recall
set_option maxRecDepth 20000 in
theorem ggL_law_X8_recall : GoodIn wsL_law wsX8_recall := goodIn_r _ [570, 56, 55, 40, 46, 45, 43, 42, 508, 509, 5, 510, 511, 212, 213, 214, 208, 209, 210, 211, 58, 512, 513, 514, 532, 533, 534, 535, 54, 242, 243, 244, 245, 241, 57, 223, 224, 225, 226, 227, 232, 233, 234, 235, 236, 237, 238, 239, 240, 662, 663, 664, 665, 666, 667, 668, 669, 670, 671, 672, 673, 674, 675, 676, 677, 678, 679, 680, 681] (by decide +kernel) (by decide +kernel)
set_option maxRecDepth 20000 in
theorem gL_law_X8_recall : GoodIn wsL_law (wsV RL 106 RX8 yX8_recall wsX8_recall) := goodIn_app (goodIn_of _ (by decide +kernel)) ggL_law_X8_recall
set_option maxRecDepth 20000 in
theorem ggL_law_X7_sift : GoodIn wsL_law wsX7_sift := goodIn_r _ [574, 575, 519, 23, 494, 495, 496, 2, 497, 22, 65, 66, 67, 68, 69, 70, 71, 72, 73, 74, 75, 76, 77, 78, 79, 80, 81, 576, 525, 526, 28, 527, 34, 200, 201, 202, 203, 24, 26, 82, 83, 84, 566, 191, 192, 147, 148, 149, 150, 193, 194, 195, 138, 139, 140, 141, 142, 143, 171, 172, 173, 174, 175, 176, 177, 178, 179, 144, 145, 146, 151, 152, 153, 160, 161, 162, 163, 164, 165, 166, 167, 168, 169, 170, 180, 181, 182, 196, 197, 198, 199, 682, 683, 652, 653, 654, 655, 656, 657, 658, 659, 660, 661] (by decide +kernel) (by decide +kernel)
set_option maxRecDepth 20000 in
theorem gL_law_X7_sift : GoodIn wsL_law (wsV RL 107 RX7 yX7_sift wsX7_sift) := goodIn_app (goodIn_of _ (by decide +kernel)) ggL_law_X7_sift
set_option maxRecDepth 20000 in
theorem ggL_law_X8_sift : GoodIn wsL_law wsX8_sift := goodIn_r _ [580, 54, 56, 55, 544, 508, 509, 5, 510, 511, 212, 213, 214, 97, 98, 99, 100, 101, 102, 103, 104, 105, 106, 107, 512, 513, 514, 242, 243, 244, 245, 241, 57, 115, 116, 117, 118, 119, 120, 121, 108, 109, 110, 111, 112, 113, 114, 265, 266, 267, 268, 269, 270, 271, 272, 273, 274, 275, 276, 277, 278, 279, 280, 281, 282, 283, 284, 285, 286, 237, 238, 239, 240, 662, 663, 664, 665, 666, 667, 668, 669, 670, 671, 672, 673, 674, 675, 676, 677, 678, 679, 680, 681] (by decide +kernel) (by decide +kernel)
set_option maxRecDepth 20000 in
theorem gL_law_X8_sift : GoodIn wsL_law (wsV RL 111 RX8 yX8_sift wsX8_sift) := goodIn_app (goodIn_of _ (by decide +kernel)) ggL_law_X8_sift
set_option maxRecDepth 20000 in
theorem ggL_law_X7_cast : GoodIn wsL_law wsX7_cast := goodIn_r _ [584, 23, 585, 586, 2, 587, 588, 589, 590, 591, 592, 67, 593, 72, 73, 74, 75, 76, 77, 78, 79, 80, 81, 594, 595, 596, 597, 598, 599, 600, 149, 601, 602, 603, 604, 557, 381, 382, 383, 70, 71, 163, 164, 165, 166, 167, 138, 139, 140, 141, 142, 143, 144, 145, 146, 147, 148, 150, 151, 152, 153, 160, 161, 162, 168, 169, 170, 171, 172, 173, 174, 175, 176, 177, 178, 179, 180, 181, 182, 605, 188, 189, 606, 607, 608, 609, 610, 611, 394, 395, 396, 652, 653, 654, 655, 656, 657, 658, 659, 660, 661] (by decide +kernel) (by decide +kernel)
set_option maxRecDepth 20000 in
theorem gL_law_X7_cast : GoodIn wsL_law (wsV RL 112 RX7 yX7_cast wsX7_cast) := goodIn_app (goodIn_of _ (by decide +kernel)) ggL_law_X7_cast
set_option maxRecDepth 20000 in
theorem ggL_law_X8_cast : GoodIn wsL_law wsX8_cast := goodIn_r _ [615, 460, 544, 212, 213, 5, 214, 616, 617, 618, 619, 107, 620, 103, 621, 622, 623, 276, 277, 278, 279, 280, 281, 282, 121, 283, 284, 285, 286, 265, 266, 267, 268, 269, 270, 271, 114, 272, 273, 274, 275, 115, 116, 117, 118, 119, 120, 108, 109, 110, 111, 112, 113, 624, 625, 626, 662, 663, 664, 665, 666, 667, 668, 669, 670, 671, 672, 673, 674, 675, 676, 677, 678, 679, 680, 681] (by decide +kernel) (by decide +kernel)
set_option maxRecDepth 20000 in
theorem gL_law_X8_cast : GoodIn wsL_law (wsV RL 116 RX8 yX8_cast wsX8_cast) := goodIn_app (goodIn_of _ (by decide +kernel)) ggL_law_X8_cast
set_option maxRecDepth 20000 in
theorem ggL_law_X7_left : GoodIn wsL_law wsX7_left := goodIn_r _ [630, 23, 65, 66, 67, 68, 69, 70, 71, 72, 73, 74, 75, 76, 77, 78, 79, 80, 81, 82, 83, 84, 591, 592, 593, 566, 191, 192, 147, 148, 149, 150, 193, 194, 195, 138, 139, 140, 141, 142, 143, 171, 172, 173, 174, 175, 176, 177, 178, 179, 144, 145, 146, 151, 152, 153, 160, 161, 162, 163, 164, 165, 166, 167, 168, 169, 170, 180, 181, 182, 652, 653, 654, 655, 656, 657, 658, 659, 660, 661] (by decide +kernel) (by decide +kernel)
set_option maxRecDepth 20000 in
theorem gL_law_X7_left : GoodIn wsL_law (wsV RL 117 RX7 yX7_left wsX7_left) := goodIn_app (goodIn_of _ (by decide +kernel)) ggL_law_X7_left
set_option maxRecDepth 20000 in
theorem ggL_law_X8_left : GoodIn wsL_law wsX8_left := goodIn_r _ [634, 544, 616, 617, 5, 618, 619, 107, 620, 103, 97, 98, 99, 100, 101, 102, 104, 105, 106, 108, 109, 110, 111, 112, 113, 114, 115, 116, 117, 118, 119, 120, 121, 265, 266, 267, 268, 269, 270, 271, 272, 273, 274, 275, 276, 277, 278, 279, 280, 281, 282, 283, 284, 285, 286, 662, 663, 664, 665, 666, 667, 668, 669, 670, 671, 672, 673, 674, 675, 676, 677, 678, 679, 680, 681] (by decide +kernel) (by decide +kernel)
set_option maxRecDepth 20000 in
theorem gL_law_X8_left : GoodIn wsL_law (wsV RL 121 RX8 yX8_left wsX8_left) := goodIn_app (goodIn_of _ (by decide +kernel)) ggL_law_X8_left
set_option maxRecDepth 20000 in
theorem ggL_law_X7_failed : GoodIn wsL_law wsX7_failed := goodIn_r _ [638, 24, 652, 653, 654, 655, 656, 657, 658, 659, 660, 661] (by decide +kernel) (by decide +kernel)
set_option maxRecDepth 20000 in
theorem gL_law_X7_failed : GoodIn wsL_law (wsV RL 122 RX7 yX7_failed wsX7_failed) := goodIn_app (goodIn_of _ (by decide +kernel)) ggL_law_X7_failed
set_option maxRecDepth 20000 in
theorem ggL_law_X8_failed : GoodIn wsL_law wsX8_failed := goodIn_r _ [642, 241, 662, 663, 664, 665, 666, 667, 668, 669, 670, 671, 672, 673, 674, 675, 676, 677, 678, 679, 680, 681] (by decide +kernel) (by decide +kernel)
set_option maxRecDepth 20000 in
theorem gL_law_X8_failed : GoodIn wsL_law (wsV RL 126 RX8 yX8_failed wsX8_failed) := goodIn_app (goodIn_of _ (by decide +kernel)) ggL_law_X8_failed
set_option maxRecDepth 20000 in
theorem ggL_law_X7_about : GoodIn wsL_law wsX7_about := goodIn_r _ [646, 15, 18, 26, 652, 653, 654, 655, 656, 657, 658, 659, 660, 661] (by decide +kernel) (by decide +kernel)
set_option maxRecDepth 20000 in
theorem gL_law_X7_about : GoodIn wsL_law (wsV RL 127 RX7 yX7_about wsX7_about) := goodIn_app (goodIn_of _ (by decide +kernel)) ggL_law_X7_about
set_option maxRecDepth 20000 in
theorem ggL_law_X8_about : GoodIn wsL_law wsX8_about := goodIn_r _ [650, 58, 345, 344, 651, 57, 212, 213, 5, 214, 662, 663, 664, 665, 666, 667, 668, 669, 670, 671, 672, 673, 674, 675, 676, 677, 678, 679, 680, 681] (by decide +kernel) (by decide +kernel)
set_option maxRecDepth 20000 in
theorem gL_law_X8_about : GoodIn wsL_law (wsV RL 130 RX8 yX8_about wsX8_about) := goodIn_app (goodIn_of _ (by decide +kernel)) ggL_law_X8_about
theorem dL_law_0 : decode cL_law 0 = .ok (.new 7, 3) := by decide +kernel
theorem dL_law_3 : decode cL_law 3 = .ok (.dup, 1) := by decide +kernel
theorem dL_law_4 : decode cL_law 4 = .ok (.invokespecial 9, 3) := by decide +kernel
theorem dL_law_7 : decode cL_law 7 = .ok (.astore_n 1, 1) := by decide +kernel
theorem dL_law_8 : decode cL_law 8 = .ok (.new 10, 3) := by decide +kernel
theorem dL_law_11 : decode cL_law 11 = .ok (.dup, 1) := by decide +kernel
theorem dL_law_12 : decode cL_law 12 = .ok (.invokespecial 12, 3) := by decide +kernel
theorem dL_law_15 : decode cL_law 15 = .ok (.astore_n 2, 1) := by decide +kernel
theorem dL_law_16 : decode cL_law 16 = .ok (.iconst 0, 1) := by decide +kernel
theorem dL_law_17 : decode cL_law 17 = .ok (.istore_n 3, 1) := by decide +kernel
theorem dL_law_18 : decode cL_law 18 = .ok (.iload_n 3, 1) := by decide +kernel
theorem dL_law_19 : decode cL_law 19 = .ok (.aload_n 0, 1) := by decide +kernel
theorem dL_law_20 : decode cL_law 20 = .ok (.arraylength, 1) := by decide +kernel
theorem dL_law_21 : decode cL_law 21 = .ok (.bipush 6, 2) := by decide +kernel
theorem dL_law_23 : decode cL_law 23 = .ok (.isub, 1) := by decide +kernel
theorem dL_law_24 : decode cL_law 24 = .ok (.if_icmp .gt 1406, 3) := by decide +kernel
theorem dL_law_27 : decode cL_law 27 = .ok (.aload_n 0, 1) := by decide +kernel
theorem dL_law_28 : decode cL_law 28 = .ok (.iload_n 3, 1) := by decide +kernel
theorem dL_law_29 : decode cL_law 29 = .ok (.iaload, 1) := by decide +kernel
theorem dL_law_30 : decode cL_law 30 = .ok (.bipush 31, 2) := by decide +kernel
theorem dL_law_32 : decode cL_law 32 = .ok (.iand, 1) := by decide +kernel
theorem dL_law_33 : decode cL_law 33 = .ok (.tableswitch 1391 0 24 #[115, 194, 257, 330, 364, 388, 411, 474, 507, 540, 573, 616, 649, 682, 705, 764, 863, 922, 936, 1005, 1074, 1163, 1236, 1355, 1368], 115) := by decide +kernel
theorem dL_law_148 : decode cL_law 148 = .ok (.aload_n 1, 1) := by decide +kernel
theorem dL_law_149 : decode cL_law 149 = .ok (.aload_n 0, 1) := by decide +kernel
theorem dL_law_150 : decode cL_law 150 = .ok (.iload_n 3, 1) := by decide +kernel
theorem dL_law_151 : decode cL_law 151 = .ok (.iconst 1, 1) := by decide +kernel
theorem dL_law_152 : decode cL_law 152 = .ok (.iadd, 1) := by decide +kernel
theorem dL_law_153 : decode cL_law 153 = .ok (.iaload, 1) := by decide +kernel
theorem dL_law_154 : decode cL_law 154 = .ok (.ifCond .eq 7, 3) := by decide +kernel
theorem dL_law_157 : decode cL_law 157 = .ok (.iconst 1, 1) := by decide +kernel
theorem dL_law_158 : decode cL_law 158 = .ok (.goto 4, 3) := by decide +kernel
theorem dL_law_161 : decode cL_law 161 = .ok (.iconst 0, 1) := by decide +kernel
theorem dL_law_162 : decode cL_law 162 = .ok (.aload_n 0, 1) := by decide +kernel
theorem dL_law_163 : decode cL_law 163 = .ok (.iload_n 3, 1) := by decide +kernel
theorem dL_law_164 : decode cL_law 164 = .ok (.iconst 2, 1) := by decide +kernel
theorem dL_law_165 : decode cL_law 165 = .ok (.iadd, 1) := by decide +kernel
theorem dL_law_166 : decode cL_law 166 = .ok (.iaload, 1) := by decide +kernel
theorem dL_law_167 : decode cL_law 167 = .ok (.i2l, 1) := by decide +kernel
theorem dL_law_168 : decode cL_law 168 = .ok (.bipush 32, 2) := by decide +kernel
theorem dL_law_170 : decode cL_law 170 = .ok (.lshl, 1) := by decide +kernel
theorem dL_law_171 : decode cL_law 171 = .ok (.aload_n 0, 1) := by decide +kernel
theorem dL_law_172 : decode cL_law 172 = .ok (.iload_n 3, 1) := by decide +kernel
theorem dL_law_173 : decode cL_law 173 = .ok (.iconst 3, 1) := by decide +kernel
theorem dL_law_174 : decode cL_law 174 = .ok (.iadd, 1) := by decide +kernel
theorem dL_law_175 : decode cL_law 175 = .ok (.iaload, 1) := by decide +kernel
theorem dL_law_176 : decode cL_law 176 = .ok (.i2l, 1) := by decide +kernel
theorem dL_law_177 : decode cL_law 177 = .ok (.ldc2_w 13, 3) := by decide +kernel
theorem dL_law_180 : decode cL_law 180 = .ok (.land, 1) := by decide +kernel
theorem dL_law_181 : decode cL_law 181 = .ok (.lor, 1) := by decide +kernel
theorem dL_law_182 : decode cL_law 182 = .ok (.invokevirtual 15, 3) := by decide +kernel
theorem dL_law_185 : decode cL_law 185 = .ok (.aload_n 2, 1) := by decide +kernel
theorem dL_law_186 : decode cL_law 186 = .ok (.aload_n 0, 1) := by decide +kernel
theorem dL_law_187 : decode cL_law 187 = .ok (.iload_n 3, 1) := by decide +kernel
theorem dL_law_188 : decode cL_law 188 = .ok (.iconst 1, 1) := by decide +kernel
theorem dL_law_189 : decode cL_law 189 = .ok (.iadd, 1) := by decide +kernel
theorem dL_law_190 : decode cL_law 190 = .ok (.iaload, 1) := by decide +kernel
theorem dL_law_191 : decode cL_law 191 = .ok (.ifCond .eq 7, 3) := by decide +kernel
theorem dL_law_194 : decode cL_law 194 = .ok (.iconst 1, 1) := by decide +kernel
theorem dL_law_195 : decode cL_law 195 = .ok (.goto 4, 3) := by decide +kernel
theorem dL_law_198 : decode cL_law 198 = .ok (.iconst 0, 1) := by decide +kernel
theorem dL_law_199 : decode cL_law 199 = .ok (.aload_n 0, 1) := by decide +kernel
theorem dL_law_200 : decode cL_law 200 = .ok (.iload_n 3, 1) := by decide +kernel
theorem dL_law_201 : decode cL_law 201 = .ok (.iconst 2, 1) := by decide +kernel
theorem dL_law_202 : decode cL_law 202 = .ok (.iadd, 1) := by decide +kernel
theorem dL_law_203 : decode cL_law 203 = .ok (.iaload, 1) := by decide +kernel
theorem dL_law_204 : decode cL_law 204 = .ok (.i2l, 1) := by decide +kernel
theorem dL_law_205 : decode cL_law 205 = .ok (.bipush 32, 2) := by decide +kernel
theorem dL_law_207 : decode cL_law 207 = .ok (.lshl, 1) := by decide +kernel
theorem dL_law_208 : decode cL_law 208 = .ok (.aload_n 0, 1) := by decide +kernel
theorem dL_law_209 : decode cL_law 209 = .ok (.iload_n 3, 1) := by decide +kernel
theorem dL_law_210 : decode cL_law 210 = .ok (.iconst 3, 1) := by decide +kernel
theorem dL_law_211 : decode cL_law 211 = .ok (.iadd, 1) := by decide +kernel
theorem dL_law_212 : decode cL_law 212 = .ok (.iaload, 1) := by decide +kernel
theorem dL_law_213 : decode cL_law 213 = .ok (.i2l, 1) := by decide +kernel
theorem dL_law_214 : decode cL_law 214 = .ok (.ldc2_w 13, 3) := by decide +kernel
theorem dL_law_217 : decode cL_law 217 = .ok (.land, 1) := by decide +kernel
theorem dL_law_218 : decode cL_law 218 = .ok (.lor, 1) := by decide +kernel
theorem dL_law_219 : decode cL_law 219 = .ok (.invokevirtual 19, 3) := by decide +kernel
theorem dL_law_222 : decode cL_law 222 = .ok (.if_icmp .eq 1202, 3) := by decide +kernel
theorem dL_law_225 : decode cL_law 225 = .ok (.iconst 0, 1) := by decide +kernel
theorem dL_law_226 : decode cL_law 226 = .ok (.ireturn, 1) := by decide +kernel
theorem dL_law_227 : decode cL_law 227 = .ok (.aload_n 1, 1) := by decide +kernel
theorem dL_law_228 : decode cL_law 228 = .ok (.aload_n 0, 1) := by decide +kernel
theorem dL_law_229 : decode cL_law 229 = .ok (.iload_n 3, 1) := by decide +kernel
theorem dL_law_230 : decode cL_law 230 = .ok (.iconst 1, 1) := by decide +kernel
theorem dL_law_231 : decode cL_law 231 = .ok (.iadd, 1) := by decide +kernel
theorem dL_law_232 : decode cL_law 232 = .ok (.iaload, 1) := by decide +kernel
theorem dL_law_233 : decode cL_law 233 = .ok (.aload_n 0, 1) := by decide +kernel
theorem dL_law_234 : decode cL_law 234 = .ok (.iload_n 3, 1) := by decide +kernel
theorem dL_law_235 : decode cL_law 235 = .ok (.iconst 2, 1) := by decide +kernel
theorem dL_law_236 : decode cL_law 236 = .ok (.iadd, 1) := by decide +kernel
theorem dL_law_237 : decode cL_law 237 = .ok (.iaload, 1) := by decide +kernel
theorem dL_law_238 : decode cL_law 238 = .ok (.i2l, 1) := by decide +kernel
theorem dL_law_239 : decode cL_law 239 = .ok (.bipush 32, 2) := by decide +kernel
theorem dL_law_241 : decode cL_law 241 = .ok (.lshl, 1) := by decide +kernel
theorem dL_law_242 : decode cL_law 242 = .ok (.aload_n 0, 1) := by decide +kernel
theorem dL_law_243 : decode cL_law 243 = .ok (.iload_n 3, 1) := by decide +kernel
theorem dL_law_244 : decode cL_law 244 = .ok (.iconst 3, 1) := by decide +kernel
theorem dL_law_245 : decode cL_law 245 = .ok (.iadd, 1) := by decide +kernel
theorem dL_law_246 : decode cL_law 246 = .ok (.iaload, 1) := by decide +kernel
theorem dL_law_247 : decode cL_law 247 = .ok (.i2l, 1) := by decide +kernel
theorem dL_law_248 : decode cL_law 248 = .ok (.ldc2_w 13, 3) := by decide +kernel
theorem dL_law_251 : decode cL_law 251 = .ok (.land, 1) := by decide +kernel
theorem dL_law_252 : decode cL_law 252 = .ok (.lor, 1) := by decide +kernel
theorem dL_law_253 : decode cL_law 253 = .ok (.invokevirtual 20, 3) := by decide +kernel
theorem dL_law_256 : decode cL_law 256 = .ok (.aload_n 2, 1) := by decide +kernel
theorem dL_law_257 : decode cL_law 257 = .ok (.aload_n 0, 1) := by decide +kernel
theorem dL_law_258 : decode cL_law 258 = .ok (.iload_n 3, 1) := by decide +kernel
theorem dL_law_259 : decode cL_law 259 = .ok (.iconst 1, 1) := by decide +kernel
theorem dL_law_260 : decode cL_law 260 = .ok (.iadd, 1) := by decide +kernel
theorem dL_law_261 : decode cL_law 261 = .ok (.iaload, 1) := by decide +kernel
theorem dL_law_262 : decode cL_law 262 = .ok (.aload_n 0, 1) := by decide +kernel
theorem dL_law_263 : decode cL_law 263 = .ok (.iload_n 3, 1) := by decide +kernel
theorem dL_law_264 : decode cL_law 264 = .ok (.iconst 2, 1) := by decide +kernel
theorem dL_law_265 : decode cL_law 265 = .ok (.iadd, 1) := by decide +kernel
theorem dL_law_266 : decode cL_law 266 = .ok (.iaload, 1) := by decide +kernel
theorem dL_law_267 : decode cL_law 267 = .ok (.i2l, 1) := by decide +kernel
theorem dL_law_268 : decode cL_law 268 = .ok (.bipush 32, 2) := by decide +kernel
theorem dL_law_270 : decode cL_law 270 = .ok (.lshl, 1) := by decide +kernel
theorem dL_law_271 : decode cL_law 271 = .ok (.aload_n 0, 1) := by decide +kernel
theorem dL_law_272 : decode cL_law 272 = .ok (.iload_n 3, 1) := by decide +kernel
theorem dL_law_273 : decode cL_law 273 = .ok (.iconst 3, 1) := by decide +kernel
theorem dL_law_274 : decode cL_law 274 = .ok (.iadd, 1) := by decide +kernel
theorem dL_law_275 : decode cL_law 275 = .ok (.iaload, 1) := by decide +kernel
theorem dL_law_276 : decode cL_law 276 = .ok (.i2l, 1) := by decide +kernel
theorem dL_law_277 : decode cL_law 277 = .ok (.ldc2_w 13, 3) := by decide +kernel
theorem dL_law_280 : decode cL_law 280 = .ok (.land, 1) := by decide +kernel
theorem dL_law_281 : decode cL_law 281 = .ok (.lor, 1) := by decide +kernel
theorem dL_law_282 : decode cL_law 282 = .ok (.invokevirtual 24, 3) := by decide +kernel
theorem dL_law_285 : decode cL_law 285 = .ok (.if_icmp .eq 1139, 3) := by decide +kernel
theorem dL_law_288 : decode cL_law 288 = .ok (.iconst 0, 1) := by decide +kernel
theorem dL_law_289 : decode cL_law 289 = .ok (.ireturn, 1) := by decide +kernel
theorem dL_law_290 : decode cL_law 290 = .ok (.aload_n 1, 1) := by decide +kernel
theorem dL_law_291 : decode cL_law 291 = .ok (.aload_n 0, 1) := by decide +kernel
theorem dL_law_292 : decode cL_law 292 = .ok (.iload_n 3, 1) := by decide +kernel
theorem dL_law_293 : decode cL_law 293 = .ok (.iconst 1, 1) := by decide +kernel
theorem dL_law_294 : decode cL_law 294 = .ok (.iadd, 1) := by decide +kernel
theorem dL_law_295 : decode cL_law 295 = .ok (.iaload, 1) := by decide +kernel
theorem dL_law_296 : decode cL_law 296 = .ok (.aload_n 0, 1) := by decide +kernel
theorem dL_law_297 : decode cL_law 297 = .ok (.iload_n 3, 1) := by decide +kernel
theorem dL_law_298 : decode cL_law 298 = .ok (.iconst 2, 1) := by decide +kernel
theorem dL_law_299 : decode cL_law 299 = .ok (.iadd, 1) := by decide +kernel
theorem dL_law_300 : decode cL_law 300 = .ok (.iaload, 1) := by decide +kernel
theorem dL_law_301 : decode cL_law 301 = .ok (.i2l, 1) := by decide +kernel
theorem dL_law_302 : decode cL_law 302 = .ok (.bipush 32, 2) := by decide +kernel
theorem dL_law_304 : decode cL_law 304 = .ok (.lshl, 1) := by decide +kernel
