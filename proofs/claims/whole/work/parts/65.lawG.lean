/-! ===== the law's callees, their words ===== -/
set_option maxRecDepth 20000 in
theorem ggL_law_X8_init : GoodIn wsL_law wsX8_init := goodIn_r _ [9, 10, 11, 12, 13, 14, 15, 16, 17, 18, 19, 20, 21, 22, 23, 24, 25, 26, 27, 28, 29, 30, 31, 32, 33, 34, 35, 36, 37, 38, 39, 40, 41, 42, 43, 44, 45, 46, 47, 48, 49, 50, 51, 52, 53, 54, 55, 56, 57, 58, 59, 60, 61, 62, 63, 64, 65, 66, 67, 68, 69, 70, 71, 72, 73, 74, 75, 76, 77, 78, 79, 80, 81, 82, 83, 84, 85, 86, 87, 88, 89, 768, 769, 770, 771, 772, 773, 729, 730, 731, 732, 733, 734, 735, 736, 737, 738, 774, 775, 776, 777, 778, 779, 780, 781, 782, 783, 784, 785, 786, 787, 788, 789, 790, 791, 792, 793, 794, 795, 796, 797] (by decide +kernel) (by decide +kernel)
set_option maxRecDepth 20000 in
theorem gL_law_X8_init : GoodIn wsL_law (wsX8_init) := ggL_law_X8_init
set_option maxRecDepth 20000 in
theorem ggL_law_X9_init : GoodIn wsL_law wsX9_init := goodIn_r _ [92, 93, 11, 12, 43, 94, 95, 96, 56, 97, 98, 99, 100, 101, 102, 103, 104, 105, 106, 107, 739, 740, 741, 742, 743, 744, 745, 746, 747, 748, 749, 750, 751, 752, 753, 754, 755, 756, 757, 758, 759, 760, 761, 762, 763, 764, 765, 766, 767] (by decide +kernel) (by decide +kernel)
set_option maxRecDepth 20000 in
theorem gL_law_X9_init : GoodIn wsL_law (wsX9_init) := ggL_law_X9_init
set_option maxRecDepth 20000 in
theorem ggL_law_X8_write : GoodIn wsL_law wsX8_write := goodIn_r _ [111, 16, 112, 113, 2, 114, 115, 116, 117, 15, 118, 119, 44, 120, 121, 122, 123, 729, 730, 731, 732, 733, 734, 735, 736, 737, 738, 768, 769, 770, 771, 772, 773] (by decide +kernel) (by decide +kernel)
set_option maxRecDepth 20000 in
theorem gL_law_X8_write : GoodIn wsL_law (wsV RL 13 RX8 yX8_write wsX8_write) := goodIn_app (goodIn_of _ (by decide +kernel)) ggL_law_X8_write
set_option maxRecDepth 20000 in
theorem ggL_law_X9_write : GoodIn wsL_law wsX9_write := goodIn_r _ [127, 128, 129, 99, 130, 131, 5, 132, 739, 740, 741, 742, 743, 744, 745, 746, 747, 748, 749, 750, 751, 752, 753, 754, 755, 756, 757, 758, 759, 760, 761, 762, 763, 764, 765, 766, 767] (by decide +kernel) (by decide +kernel)
set_option maxRecDepth 20000 in
theorem gL_law_X9_write : GoodIn wsL_law (wsV RL 17 RX9 yX9_write wsX9_write) := goodIn_app (goodIn_of _ (by decide +kernel)) ggL_law_X9_write
set_option maxRecDepth 20000 in
theorem ggL_law_X8_wipe : GoodIn wsL_law wsX8_wipe := goodIn_r _ [136, 16, 137, 138, 139, 15, 140, 119, 729, 730, 731, 732, 733, 734, 735, 736, 737, 738, 768, 769, 770, 771, 772, 773] (by decide +kernel) (by decide +kernel)
set_option maxRecDepth 20000 in
theorem gL_law_X8_wipe : GoodIn wsL_law (wsV RL 18 RX8 yX8_wipe wsX8_wipe) := goodIn_app (goodIn_of _ (by decide +kernel)) ggL_law_X8_wipe
set_option maxRecDepth 20000 in
theorem ggL_law_X9_wipe : GoodIn wsL_law wsX9_wipe := goodIn_r _ [144, 129, 739, 740, 741, 742, 743, 744, 745, 746, 747, 748, 749, 750, 751, 752, 753, 754, 755, 756, 757, 758, 759, 760, 761, 762, 763, 764, 765, 766, 767] (by decide +kernel) (by decide +kernel)
set_option maxRecDepth 20000 in
theorem gL_law_X9_wipe : GoodIn wsL_law (wsV RL 22 RX9 yX9_wipe wsX9_wipe) := goodIn_app (goodIn_of _ (by decide +kernel)) ggL_law_X9_wipe
set_option maxRecDepth 20000 in
theorem ggL_law_X8_fault : GoodIn wsL_law wsX8_fault := goodIn_r _ [148, 16, 149, 150, 151, 15, 152, 153, 154, 155, 156, 119, 157, 158, 159, 160, 161, 162, 163, 164, 165, 166, 167, 168, 44, 169, 170, 171, 172, 173, 174, 175, 176, 177, 178, 179, 180, 729, 730, 731, 732, 733, 734, 735, 736, 737, 738, 768, 769, 770, 771, 772, 773] (by decide +kernel) (by decide +kernel)
set_option maxRecDepth 20000 in
theorem gL_law_X8_fault : GoodIn wsL_law (wsV RL 23 RX8 yX8_fault wsX8_fault) := goodIn_app (goodIn_of _ (by decide +kernel)) ggL_law_X8_fault
set_option maxRecDepth 20000 in
theorem ggL_law_X9_fault : GoodIn wsL_law wsX9_fault := goodIn_r _ [184, 185, 186, 187, 5, 188, 189, 190, 191, 96, 129, 99, 95, 192, 193, 194, 195, 130, 131, 132, 196, 197, 198, 199, 200, 201, 202, 203, 204, 205, 206, 207, 208, 209, 739, 740, 741, 742, 743, 744, 745, 746, 747, 748, 749, 750, 751, 752, 753, 754, 755, 756, 757, 758, 759, 760, 761, 762, 763, 764, 765, 766, 767] (by decide +kernel) (by decide +kernel)
set_option maxRecDepth 20000 in
theorem gL_law_X9_fault : GoodIn wsL_law (wsV RL 26 RX9 yX9_fault wsX9_fault) := goodIn_app (goodIn_of _ (by decide +kernel)) ggL_law_X9_fault
set_option maxRecDepth 20000 in
theorem ggL_law_X8_search : GoodIn wsL_law wsX8_search := goodIn_r _ [213, 16, 20, 24, 214, 215, 149, 150, 151, 15, 152, 153, 154, 155, 156, 119, 157, 158, 159, 160, 161, 162, 163, 164, 165, 166, 167, 168, 44, 169, 170, 171, 172, 173, 174, 175, 176, 177, 178, 179, 180, 216, 217, 218, 19, 219, 220, 221, 222, 223, 224, 50, 51, 225, 226, 227, 228, 229, 230, 49, 231, 232, 233, 234, 235, 236, 237, 238, 239, 240, 241, 242, 23, 243, 57, 244, 245, 246, 247, 248, 249, 250, 251, 252, 253, 254, 255, 256, 257, 258, 113, 2, 114, 259, 729, 730, 731, 732, 733, 734, 735, 736, 737, 738, 768, 769, 770, 771, 772, 773, 774, 775, 776, 777, 778, 779, 780, 781, 782, 783, 784, 785, 786, 787, 788] (by decide +kernel) (by decide +kernel)
set_option maxRecDepth 20000 in
theorem gL_law_X8_search : GoodIn wsL_law (wsV RL 27 RX8 yX8_search wsX8_search) := goodIn_app (goodIn_of _ (by decide +kernel)) ggL_law_X8_search
set_option maxRecDepth 20000 in
theorem ggL_law_X9_search : GoodIn wsL_law wsX9_search := goodIn_r _ [263, 95, 264, 265, 266, 267, 268, 107, 191, 269, 270, 200, 271, 94, 96, 97, 98, 272, 104, 185, 186, 187, 5, 188, 189, 190, 129, 99, 192, 193, 194, 195, 130, 131, 132, 196, 197, 198, 199, 201, 202, 203, 204, 205, 206, 207, 208, 209, 273, 274, 275, 276, 739, 740, 741, 742, 743, 744, 745, 746, 747, 748, 749, 750, 751, 752, 753, 754, 755, 756, 757, 758, 759, 760, 761, 762, 763, 764, 765, 766, 767] (by decide +kernel) (by decide +kernel)
set_option maxRecDepth 20000 in
theorem gL_law_X9_search : GoodIn wsL_law (wsV RL 30 RX9 yX9_search wsX9_search) := goodIn_app (goodIn_of _ (by decide +kernel)) ggL_law_X9_search
set_option maxRecDepth 20000 in
theorem ggL_law_X8_look : GoodIn wsL_law wsX8_look := goodIn_r _ [280, 24, 20, 112, 113, 2, 114, 281, 282, 283, 284, 29, 214, 285, 286, 287, 28, 288, 289, 290, 291, 292, 69, 293, 294, 295, 23, 296, 57, 58, 59, 244, 245, 246, 297, 298, 299, 300, 301, 302, 303, 304, 305, 306, 307, 308, 309, 310, 311, 312, 313, 314, 315, 316, 317, 318, 319, 320, 321, 322, 323, 324, 66, 325, 326, 65, 67, 327, 328, 329, 19, 330, 223, 222, 331, 332, 333, 334, 335, 336, 337, 338, 339, 729, 730, 731, 732, 733, 734, 735, 736, 737, 738, 783, 784, 785, 786, 787, 788, 774, 775, 776, 777, 778, 779, 780, 781, 782, 789] (by decide +kernel) (by decide +kernel)
set_option maxRecDepth 20000 in
theorem gL_law_X8_look : GoodIn wsL_law (wsV RL 31 RX8 yX8_look wsX8_look) := goodIn_app (goodIn_of _ (by decide +kernel)) ggL_law_X8_look
set_option maxRecDepth 20000 in
theorem ggL_law_X9_look : GoodIn wsL_law wsX9_look := goodIn_r _ [343, 344, 98, 107, 130, 131, 5, 132, 345, 346, 347, 348, 101, 272, 97, 102, 349, 350, 351, 352, 353, 354, 355, 267, 266, 356, 357, 358, 359, 100, 264, 265, 360, 739, 740, 741, 742, 743, 744, 745, 746, 747, 748, 749, 750, 751, 752, 753, 754, 755, 756, 757, 758, 759, 760, 761, 762, 763, 764, 765, 766, 767] (by decide +kernel) (by decide +kernel)
set_option maxRecDepth 20000 in
theorem gL_law_X9_look : GoodIn wsL_law (wsV RL 34 RX9 yX9_look wsX9_look) := goodIn_app (goodIn_of _ (by decide +kernel)) ggL_law_X9_look
set_option maxRecDepth 20000 in
theorem ggL_law_X8_lookAboard : GoodIn wsL_law wsX8_lookAboard := goodIn_r _ [364, 24, 20, 281, 282, 283, 2, 284, 29, 214, 285, 286, 287, 28, 288, 289, 290, 291, 292, 69, 293, 294, 295, 23, 296, 57, 58, 59, 244, 245, 246, 297, 298, 299, 300, 301, 302, 303, 304, 305, 306, 307, 308, 309, 310, 311, 312, 313, 314, 315, 316, 317, 318, 319, 320, 321, 322, 323, 324, 66, 325, 326, 65, 67, 327, 328, 329, 19, 330, 223, 222, 331, 332, 333, 334, 335, 336, 337, 338, 339, 729, 730, 731, 732, 733, 734, 735, 736, 737, 738, 783, 784, 785, 786, 787, 788, 774, 775, 776, 777, 778, 779, 780, 781, 782, 789] (by decide +kernel) (by decide +kernel)
set_option maxRecDepth 20000 in
theorem gL_law_X8_lookAboard : GoodIn wsL_law (wsV RL 35 RX8 yX8_lookAboard wsX8_lookAboard) := goodIn_app (goodIn_of _ (by decide +kernel)) ggL_law_X8_lookAboard
set_option maxRecDepth 20000 in
theorem ggL_law_X9_lookAboard : GoodIn wsL_law wsX9_lookAboard := goodIn_r _ [368, 98, 107, 345, 346, 347, 5, 348, 101, 272, 97, 102, 352, 353, 354, 355, 267, 266, 356, 357, 358, 359, 100, 264, 265, 360, 349, 350, 351, 739, 740, 741, 742, 743, 744, 745, 746, 747, 748, 749, 750, 751, 752, 753, 754, 755, 756, 757, 758, 759, 760, 761, 762, 763, 764, 765, 766, 767] (by decide +kernel) (by decide +kernel)
set_option maxRecDepth 20000 in
theorem gL_law_X9_lookAboard : GoodIn wsL_law (wsV RL 38 RX9 yX9_lookAboard wsX9_lookAboard) := goodIn_app (goodIn_of _ (by decide +kernel)) ggL_law_X9_lookAboard
set_option maxRecDepth 20000 in
theorem ggL_law_X8_hear : GoodIn wsL_law wsX8_hear := goodIn_r _ [372, 24, 373, 374, 2, 375, 112, 113, 114, 281, 282, 283, 284, 29, 214, 285, 286, 287, 28, 288, 289, 290, 291, 292, 69, 293, 294, 295, 23, 296, 57, 58, 59, 244, 245, 246, 297, 298, 299, 300, 301, 302, 303, 304, 305, 306, 307, 308, 376, 377, 378, 379, 380, 729, 730, 731, 732, 733, 734, 735, 736, 737, 738, 783, 784, 785, 786, 787, 788, 789] (by decide +kernel) (by decide +kernel)
set_option maxRecDepth 20000 in
theorem gL_law_X8_hear : GoodIn wsL_law (wsV RL 39 RX8 yX8_hear wsX8_hear) := goodIn_app (goodIn_of _ (by decide +kernel)) ggL_law_X8_hear
set_option maxRecDepth 20000 in
theorem ggL_law_X9_hear : GoodIn wsL_law wsX9_hear := goodIn_r _ [384, 98, 97, 385, 386, 387, 5, 388, 209, 130, 131, 132, 345, 346, 347, 348, 101, 272, 102, 739, 740, 741, 742, 743, 744, 745, 746, 747, 748, 749, 750, 751, 752, 753, 754, 755, 756, 757, 758, 759, 760, 761, 762, 763, 764, 765, 766, 767] (by decide +kernel) (by decide +kernel)
set_option maxRecDepth 20000 in
theorem gL_law_X9_hear : GoodIn wsL_law (wsV RL 43 RX9 yX9_hear wsX9_hear) := goodIn_app (goodIn_of _ (by decide +kernel)) ggL_law_X9_hear
set_option maxRecDepth 20000 in
theorem ggL_law_X8_undo : GoodIn wsL_law wsX8_undo := goodIn_r _ [392, 214, 29, 24, 393, 394, 395, 28, 396, 289, 290, 291, 292, 69, 293, 294, 295, 23, 296, 57, 58, 59, 244, 245, 246, 297, 298, 299, 300, 301, 302, 303, 304, 305, 306, 307, 308, 729, 730, 731, 732, 733, 734, 735, 736, 737, 738, 789, 783, 784, 785, 786, 787, 788] (by decide +kernel) (by decide +kernel)
set_option maxRecDepth 20000 in
theorem gL_law_X8_undo : GoodIn wsL_law (wsV RL 44 RX8 yX8_undo wsX8_undo) := goodIn_app (goodIn_of _ (by decide +kernel)) ggL_law_X8_undo
set_option maxRecDepth 20000 in
theorem ggL_law_X9_undo : GoodIn wsL_law wsX9_undo := goodIn_r _ [400, 272, 97, 101, 98, 102, 739, 740, 741, 742, 743, 744, 745, 746, 747, 748, 749, 750, 751, 752, 753, 754, 755, 756, 757, 758, 759, 760, 761, 762, 763, 764, 765, 766, 767] (by decide +kernel) (by decide +kernel)
set_option maxRecDepth 20000 in
theorem gL_law_X9_undo : GoodIn wsL_law (wsV RL 47 RX9 yX9_undo wsX9_undo) := goodIn_app (goodIn_of _ (by decide +kernel)) ggL_law_X9_undo
set_option maxRecDepth 20000 in
theorem ggL_law_X8_weight : GoodIn wsL_law wsX8_weight := goodIn_r _ [404, 24, 405, 112, 113, 2, 114, 406, 298, 299, 23, 300, 57, 729, 730, 731, 732, 733, 734, 735, 736, 737, 738, 783, 784, 785, 786, 787, 788] (by decide +kernel) (by decide +kernel)
set_option maxRecDepth 20000 in
theorem gL_law_X8_weight : GoodIn wsL_law (wsV RL 48 RX8 yX8_weight wsX8_weight) := goodIn_app (goodIn_of _ (by decide +kernel)) ggL_law_X8_weight
set_option maxRecDepth 20000 in
theorem ggL_law_X9_weight : GoodIn wsL_law wsX9_weight := goodIn_r _ [410, 360, 97, 411, 130, 131, 5, 132, 739, 740, 741, 742, 743, 744, 745, 746, 747, 748, 749, 750, 751, 752, 753, 754, 755, 756, 757, 758, 759, 760, 761, 762, 763, 764, 765, 766, 767] (by decide +kernel) (by decide +kernel)
set_option maxRecDepth 20000 in
theorem gL_law_X9_weight : GoodIn wsL_law (wsV RL 52 RX9 yX9_weight wsX9_weight) := goodIn_app (goodIn_of _ (by decide +kernel)) ggL_law_X9_weight
set_option maxRecDepth 20000 in
theorem ggL_law_X8_likely : GoodIn wsL_law wsX8_likely := goodIn_r _ [415, 405, 24, 416, 112, 113, 2, 114, 417, 418, 419, 23, 420, 57, 406, 298, 299, 300, 421, 422, 423, 424, 425, 426, 66, 427, 428, 429, 430, 729, 730, 731, 732, 733, 734, 735, 736, 737, 738, 783, 784, 785, 786, 787, 788] (by decide +kernel) (by decide +kernel)
set_option maxRecDepth 20000 in
theorem gL_law_X8_likely : GoodIn wsL_law (wsV RL 53 RX8 yX8_likely wsX8_likely) := goodIn_app (goodIn_of _ (by decide +kernel)) ggL_law_X8_likely
set_option maxRecDepth 20000 in
theorem ggL_law_X9_likely : GoodIn wsL_law wsX9_likely := goodIn_r _ [434, 360, 411, 435, 97, 130, 131, 5, 132, 436, 437, 438, 439, 440, 441, 442, 739, 740, 741, 742, 743, 744, 745, 746, 747, 748, 749, 750, 751, 752, 753, 754, 755, 756, 757, 758, 759, 760, 761, 762, 763, 764, 765, 766, 767] (by decide +kernel) (by decide +kernel)
set_option maxRecDepth 20000 in
theorem gL_law_X9_likely : GoodIn wsL_law (wsV RL 57 RX9 yX9_likely wsX9_likely) := goodIn_app (goodIn_of _ (by decide +kernel)) ggL_law_X9_likely
set_option maxRecDepth 20000 in
theorem ggL_law_X8_likeliest : GoodIn wsL_law wsX8_likeliest := goodIn_r _ [446, 24, 406, 298, 299, 23, 300, 57, 729, 730, 731, 732, 733, 734, 735, 736, 737, 738, 783, 784, 785, 786, 787, 788] (by decide +kernel) (by decide +kernel)
set_option maxRecDepth 20000 in
theorem gL_law_X8_likeliest : GoodIn wsL_law (wsV RL 58 RX8 yX8_likeliest wsX8_likeliest) := goodIn_app (goodIn_of _ (by decide +kernel)) ggL_law_X8_likeliest
set_option maxRecDepth 20000 in
theorem ggL_law_X9_likeliest : GoodIn wsL_law wsX9_likeliest := goodIn_r _ [450, 97, 739, 740, 741, 742, 743, 744, 745, 746, 747, 748, 749, 750, 751, 752, 753, 754, 755, 756, 757, 758, 759, 760, 761, 762, 763, 764, 765, 766, 767] (by decide +kernel) (by decide +kernel)
set_option maxRecDepth 20000 in
theorem gL_law_X9_likeliest : GoodIn wsL_law (wsV RL 61 RX9 yX9_likeliest wsX9_likeliest) := goodIn_app (goodIn_of _ (by decide +kernel)) ggL_law_X9_likeliest
set_option maxRecDepth 20000 in
theorem ggL_law_X8_by : GoodIn wsL_law wsX8_by := goodIn_r _ [454, 405, 416, 24, 455, 112, 113, 2, 114, 456, 457, 458, 459, 460, 461, 462, 463, 464, 465, 466, 467, 468, 469, 20, 417, 418, 419, 23, 420, 57, 470, 471, 472, 473, 25, 474, 294, 295, 296, 58, 59, 244, 245, 246, 297, 298, 299, 300, 301, 302, 303, 304, 305, 306, 307, 308, 475, 476, 477, 478, 317, 318, 319, 320, 321, 322, 323, 324, 66, 325, 326, 65, 67, 327, 328, 329, 19, 330, 223, 222, 309, 310, 311, 312, 313, 314, 315, 316, 331, 332, 333, 334, 335, 336, 337, 338, 339, 421, 422, 423, 424, 425, 426, 427, 428, 429, 430, 729, 730, 731, 732, 733, 734, 735, 736, 737, 738, 783, 784, 785, 786, 787, 788, 774, 775, 776, 777, 778, 779, 780, 781, 782] (by decide +kernel) (by decide +kernel)
set_option maxRecDepth 20000 in
theorem gL_law_X8_by : GoodIn wsL_law (wsV RL 62 RX8 yX8_by wsX8_by) := goodIn_app (goodIn_of _ (by decide +kernel)) ggL_law_X8_by
set_option maxRecDepth 20000 in
theorem ggL_law_X9_by : GoodIn wsL_law wsX9_by := goodIn_r _ [482, 411, 435, 483, 484, 5, 485, 486, 130, 131, 132, 487, 488, 489, 490, 491, 492, 493, 98, 107, 436, 437, 438, 439, 97, 494, 495, 496, 497, 498, 360, 499, 500, 501, 502, 349, 350, 351, 352, 353, 354, 355, 267, 266, 356, 357, 358, 359, 100, 264, 265, 503, 504, 505, 506, 507, 508, 509, 440, 441, 442, 739, 740, 741, 742, 743, 744, 745, 746, 747, 748, 749, 750, 751, 752, 753, 754, 755, 756, 757, 758, 759, 760, 761, 762, 763, 764, 765, 766, 767] (by decide +kernel) (by decide +kernel)
set_option maxRecDepth 20000 in
theorem gL_law_X9_by : GoodIn wsL_law (wsV RL 66 RX9 yX9_by wsX9_by) := goodIn_app (goodIn_of _ (by decide +kernel)) ggL_law_X9_by
set_option maxRecDepth 20000 in
theorem ggL_law_X8_best : GoodIn wsL_law wsX8_best := goodIn_r _ [513, 405, 416, 34, 20, 24, 455, 112, 113, 2, 114, 466, 467, 468, 469, 417, 418, 419, 23, 420, 57, 514, 515, 516, 33, 517, 518, 80, 81, 76, 519, 520, 521, 79, 522, 523, 524, 525, 526, 286, 287, 28, 288, 289, 290, 291, 292, 69, 293, 294, 295, 296, 58, 59, 244, 245, 246, 297, 298, 299, 300, 301, 302, 303, 304, 305, 306, 307, 308, 527, 528, 529, 530, 531, 532, 533, 534, 476, 477, 478, 317, 318, 319, 320, 321, 322, 323, 324, 66, 325, 326, 65, 67, 327, 328, 329, 19, 330, 223, 222, 535, 536, 537, 538, 539, 540, 310, 311, 312, 313, 314, 315, 316, 331, 332, 333, 334, 335, 336, 337, 338, 339, 541, 542, 543, 544, 460, 461, 462, 421, 422, 423, 424, 425, 426, 427, 428, 429, 430, 729, 730, 731, 732, 733, 734, 735, 736, 737, 738, 796, 797, 783, 784, 785, 786, 787, 788, 774, 775, 776, 777, 778, 779, 780, 781, 782, 790, 791, 792, 793, 794, 789] (by decide +kernel) (by decide +kernel)
set_option maxRecDepth 20000 in
theorem gL_law_X8_best : GoodIn wsL_law (wsV RL 67 RX8 yX8_best wsX8_best) := goodIn_app (goodIn_of _ (by decide +kernel)) ggL_law_X8_best
