/-! ===== the law's callees, their words, the rest ===== -/
set_option maxRecDepth 20000 in
theorem ggL_law_X9_best : GoodIn wsL_law wsX9_best := goodIn_r _ [548, 486, 411, 435, 130, 131, 5, 132, 490, 491, 492, 493, 98, 107, 436, 437, 438, 439, 97, 549, 550, 551, 552, 553, 554, 487, 488, 489, 483, 484, 485, 494, 495, 496, 497, 498, 360, 499, 500, 501, 502, 349, 350, 351, 352, 353, 354, 355, 267, 266, 356, 357, 358, 359, 100, 264, 265, 503, 504, 505, 506, 507, 508, 509, 440, 441, 442, 739, 740, 741, 742, 743, 744, 745, 746, 747, 748, 749, 750, 751, 752, 753, 754, 755, 756, 757, 758, 759, 760, 761, 762, 763, 764, 765, 766, 767] (by decide +kernel) (by decide +kernel)
set_option maxRecDepth 20000 in
theorem gL_law_X9_best : GoodIn wsL_law (wsV RL 70 RX9 yX9_best wsX9_best) := goodIn_app (goodIn_of _ (by decide +kernel)) ggL_law_X9_best
set_option maxRecDepth 20000 in
theorem ggL_law_X8_bestRow : GoodIn wsL_law wsX8_bestRow := goodIn_r _ [558, 34, 20, 24, 112, 113, 2, 114, 466, 467, 468, 469, 417, 418, 419, 23, 420, 57, 514, 515, 516, 33, 517, 518, 80, 81, 76, 519, 520, 521, 79, 522, 523, 524, 525, 526, 286, 287, 28, 288, 289, 290, 291, 292, 69, 293, 294, 295, 296, 58, 59, 244, 245, 246, 297, 298, 299, 300, 301, 302, 303, 304, 305, 306, 307, 308, 527, 528, 529, 530, 531, 532, 533, 534, 476, 477, 478, 317, 318, 319, 320, 321, 322, 323, 324, 66, 325, 326, 65, 67, 327, 328, 329, 19, 330, 223, 222, 535, 536, 537, 538, 539, 540, 310, 311, 312, 313, 314, 315, 316, 331, 332, 333, 334, 335, 336, 337, 338, 339, 541, 542, 543, 544, 729, 730, 731, 732, 733, 734, 735, 736, 737, 738, 796, 797, 783, 784, 785, 786, 787, 788, 774, 775, 776, 777, 778, 779, 780, 781, 782, 790, 791, 792, 793, 794, 789] (by decide +kernel) (by decide +kernel)
set_option maxRecDepth 20000 in
theorem gL_law_X8_bestRow : GoodIn wsL_law (wsV RL 71 RX8 yX8_bestRow wsX8_bestRow) := goodIn_app (goodIn_of _ (by decide +kernel)) ggL_law_X8_bestRow
set_option maxRecDepth 20000 in
theorem ggL_law_X9_bestRow : GoodIn wsL_law wsX9_bestRow := goodIn_r _ [562, 486, 554, 130, 131, 5, 132, 490, 491, 492, 493, 98, 107, 436, 437, 438, 439, 97, 549, 550, 551, 552, 553, 487, 488, 489, 483, 484, 485, 494, 495, 496, 497, 498, 360, 499, 500, 501, 502, 349, 350, 351, 352, 353, 354, 355, 267, 266, 356, 357, 358, 359, 100, 264, 265, 739, 740, 741, 742, 743, 744, 745, 746, 747, 748, 749, 750, 751, 752, 753, 754, 755, 756, 757, 758, 759, 760, 761, 762, 763, 764, 765, 766, 767] (by decide +kernel) (by decide +kernel)
set_option maxRecDepth 20000 in
theorem gL_law_X9_bestRow : GoodIn wsL_law (wsV RL 74 RX9 yX9_bestRow wsX9_bestRow) := goodIn_app (goodIn_of _ (by decide +kernel)) ggL_law_X9_bestRow
set_option maxRecDepth 20000 in
theorem ggL_law_X8_soon : GoodIn wsL_law wsX8_soon := goodIn_r _ [566, 24, 34, 20, 459, 455, 112, 113, 2, 114, 417, 418, 419, 23, 420, 57, 466, 467, 468, 469, 514, 515, 516, 33, 517, 518, 80, 81, 76, 519, 520, 521, 79, 522, 523, 524, 525, 526, 286, 287, 28, 288, 289, 290, 291, 292, 69, 293, 294, 295, 296, 58, 59, 244, 245, 246, 297, 298, 299, 300, 301, 302, 303, 304, 305, 306, 307, 308, 527, 528, 529, 530, 531, 532, 533, 534, 476, 477, 478, 317, 318, 319, 320, 321, 322, 323, 324, 66, 325, 326, 65, 67, 327, 328, 329, 19, 330, 223, 222, 535, 536, 537, 538, 539, 540, 310, 311, 312, 313, 314, 315, 316, 331, 332, 333, 334, 335, 336, 337, 338, 339, 541, 542, 543, 544, 460, 461, 462, 729, 730, 731, 732, 733, 734, 735, 736, 737, 738, 796, 797, 783, 784, 785, 786, 787, 788, 774, 775, 776, 777, 778, 779, 780, 781, 782, 790, 791, 792, 793, 794, 789] (by decide +kernel) (by decide +kernel)
set_option maxRecDepth 20000 in
theorem gL_law_X8_soon : GoodIn wsL_law (wsV RL 75 RX8 yX8_soon wsX8_soon) := goodIn_app (goodIn_of _ (by decide +kernel)) ggL_law_X8_soon
set_option maxRecDepth 20000 in
theorem ggL_law_X9_soon : GoodIn wsL_law wsX9_soon := goodIn_r _ [570, 360, 130, 131, 5, 132, 436, 437, 438, 439, 97, 490, 491, 492, 493, 98, 107, 549, 550, 551, 552, 553, 554, 487, 488, 489, 483, 484, 485, 486, 494, 495, 496, 497, 498, 499, 500, 501, 502, 349, 350, 351, 352, 353, 354, 355, 267, 266, 356, 357, 358, 359, 100, 264, 265, 503, 504, 505, 506, 739, 740, 741, 742, 743, 744, 745, 746, 747, 748, 749, 750, 751, 752, 753, 754, 755, 756, 757, 758, 759, 760, 761, 762, 763, 764, 765, 766, 767] (by decide +kernel) (by decide +kernel)
set_option maxRecDepth 20000 in
theorem gL_law_X9_soon : GoodIn wsL_law (wsV RL 78 RX9 yX9_soon wsX9_soon) := goodIn_app (goodIn_of _ (by decide +kernel)) ggL_law_X9_soon
set_option maxRecDepth 20000 in
theorem ggL_law_X8_first : GoodIn wsL_law wsX8_first := goodIn_r _ [574, 405, 416, 34, 20, 24, 455, 112, 113, 2, 114, 466, 467, 468, 469, 417, 418, 419, 23, 420, 57, 514, 515, 516, 33, 517, 518, 80, 81, 76, 519, 520, 521, 79, 522, 523, 524, 525, 526, 286, 287, 28, 288, 289, 290, 291, 292, 69, 293, 294, 295, 296, 58, 59, 244, 245, 246, 297, 298, 299, 300, 301, 302, 303, 304, 305, 306, 307, 308, 527, 528, 529, 530, 531, 532, 533, 534, 476, 477, 478, 317, 318, 319, 320, 321, 322, 323, 324, 66, 325, 326, 65, 67, 327, 328, 329, 19, 330, 223, 222, 535, 536, 537, 538, 539, 540, 310, 311, 312, 313, 314, 315, 316, 331, 332, 333, 334, 335, 336, 337, 338, 339, 460, 461, 462, 421, 422, 423, 424, 425, 426, 427, 428, 429, 430, 729, 730, 731, 732, 733, 734, 735, 736, 737, 738, 790, 791, 792, 793, 794, 796, 797, 783, 784, 785, 786, 787, 788, 774, 775, 776, 777, 778, 779, 780, 781, 782, 789] (by decide +kernel) (by decide +kernel)
set_option maxRecDepth 20000 in
theorem gL_law_X8_first : GoodIn wsL_law (wsV RL 79 RX8 yX8_first wsX8_first) := goodIn_app (goodIn_of _ (by decide +kernel)) ggL_law_X8_first
set_option maxRecDepth 20000 in
theorem ggL_law_X9_first : GoodIn wsL_law wsX9_first := goodIn_r _ [578, 486, 411, 435, 130, 131, 5, 132, 490, 491, 492, 493, 98, 107, 436, 437, 438, 439, 97, 549, 550, 551, 552, 553, 554, 487, 488, 489, 483, 484, 485, 494, 495, 496, 497, 498, 360, 499, 500, 501, 502, 349, 350, 351, 352, 353, 354, 355, 267, 266, 356, 357, 358, 359, 100, 264, 265, 503, 504, 505, 506, 507, 508, 509, 440, 441, 442, 739, 740, 741, 742, 743, 744, 745, 746, 747, 748, 749, 750, 751, 752, 753, 754, 755, 756, 757, 758, 759, 760, 761, 762, 763, 764, 765, 766, 767] (by decide +kernel) (by decide +kernel)
set_option maxRecDepth 20000 in
theorem gL_law_X9_first : GoodIn wsL_law (wsV RL 82 RX9 yX9_first wsX9_first) := goodIn_app (goodIn_of _ (by decide +kernel)) ggL_law_X9_first
set_option maxRecDepth 20000 in
theorem ggL_law_X8_withSecond : GoodIn wsL_law wsX8_withSecond := goodIn_r _ [582, 405, 20, 416, 34, 24, 583, 112, 113, 2, 114, 466, 467, 468, 469, 417, 418, 419, 23, 420, 57, 584, 585, 586, 33, 587, 518, 82, 76, 519, 520, 521, 79, 522, 523, 524, 525, 526, 286, 287, 28, 288, 289, 290, 291, 292, 69, 293, 294, 295, 296, 58, 59, 244, 245, 246, 297, 298, 299, 300, 301, 302, 303, 304, 305, 306, 307, 308, 588, 589, 590, 591, 592, 531, 532, 533, 321, 322, 323, 324, 66, 325, 326, 65, 67, 539, 593, 314, 315, 316, 317, 318, 319, 320, 327, 328, 329, 19, 330, 223, 222, 331, 332, 333, 334, 335, 594, 595, 535, 536, 537, 538, 596, 337, 338, 339, 460, 461, 462, 421, 422, 423, 424, 425, 426, 427, 428, 429, 430, 729, 730, 731, 732, 733, 734, 735, 736, 737, 738, 774, 775, 776, 777, 778, 779, 780, 781, 782, 790, 791, 792, 793, 794, 796, 797, 783, 784, 785, 786, 787, 788, 789] (by decide +kernel) (by decide +kernel)
set_option maxRecDepth 20000 in
theorem gL_law_X8_withSecond : GoodIn wsL_law (wsV RL 83 RX8 yX8_withSecond wsX8_withSecond) := goodIn_app (goodIn_of _ (by decide +kernel)) ggL_law_X8_withSecond
set_option maxRecDepth 20000 in
theorem ggL_law_X9_withSecond : GoodIn wsL_law wsX9_withSecond := goodIn_r _ [600, 344, 411, 270, 435, 130, 131, 5, 132, 490, 491, 492, 493, 98, 107, 436, 437, 438, 439, 97, 601, 602, 603, 604, 269, 271, 605, 360, 499, 500, 501, 502, 349, 350, 351, 606, 607, 608, 609, 352, 353, 354, 355, 267, 266, 356, 357, 358, 359, 100, 264, 265, 503, 504, 505, 506, 507, 508, 509, 440, 441, 442, 739, 740, 741, 742, 743, 744, 745, 746, 747, 748, 749, 750, 751, 752, 753, 754, 755, 756, 757, 758, 759, 760, 761, 762, 763, 764, 765, 766, 767] (by decide +kernel) (by decide +kernel)
set_option maxRecDepth 20000 in
theorem gL_law_X9_withSecond : GoodIn wsL_law (wsV RL 86 RX9 yX9_withSecond wsX9_withSecond) := goodIn_app (goodIn_of _ (by decide +kernel)) ggL_law_X9_withSecond
set_option maxRecDepth 20000 in
theorem ggL_law_X8_lanes : GoodIn wsL_law wsX8_lanes := goodIn_r _ [613, 24, 326, 65, 66, 67, 323, 324, 325, 406, 298, 299, 23, 300, 57, 729, 730, 731, 732, 733, 734, 735, 736, 737, 738, 783, 784, 785, 786, 787, 788] (by decide +kernel) (by decide +kernel)
set_option maxRecDepth 20000 in
theorem gL_law_X8_lanes : GoodIn wsL_law (wsV RL 87 RX8 yX8_lanes wsX8_lanes) := goodIn_app (goodIn_of _ (by decide +kernel)) ggL_law_X8_lanes
set_option maxRecDepth 20000 in
theorem ggL_law_X9_lanes : GoodIn wsL_law wsX9_lanes := goodIn_r _ [617, 97, 98, 739, 740, 741, 742, 743, 744, 745, 746, 747, 748, 749, 750, 751, 752, 753, 754, 755, 756, 757, 758, 759, 760, 761, 762, 763, 764, 765, 766, 767] (by decide +kernel) (by decide +kernel)
set_option maxRecDepth 20000 in
theorem gL_law_X9_lanes : GoodIn wsL_law (wsV RL 90 RX9 yX9_lanes wsX9_lanes) := goodIn_app (goodIn_of _ (by decide +kernel)) ggL_law_X9_lanes
set_option maxRecDepth 20000 in
theorem ggL_law_X8_judge : GoodIn wsL_law wsX8_judge := goodIn_r _ [621, 459, 25, 24, 20, 112, 113, 2, 114, 460, 461, 462, 474, 294, 295, 23, 296, 57, 58, 59, 244, 245, 246, 297, 298, 299, 300, 301, 302, 303, 304, 305, 306, 307, 308, 463, 464, 465, 622, 318, 319, 320, 321, 322, 323, 324, 66, 325, 326, 65, 67, 406, 309, 310, 311, 312, 313, 314, 315, 316, 317, 327, 328, 329, 19, 330, 223, 222, 331, 332, 333, 334, 335, 336, 337, 338, 339, 729, 730, 731, 732, 733, 734, 735, 736, 737, 738, 783, 784, 785, 786, 787, 788, 774, 775, 776, 777, 778, 779, 780, 781, 782] (by decide +kernel) (by decide +kernel)
set_option maxRecDepth 20000 in
theorem gL_law_X8_judge : GoodIn wsL_law (wsV RL 91 RX8 yX8_judge wsX8_judge) := goodIn_app (goodIn_of _ (by decide +kernel)) ggL_law_X8_judge
set_option maxRecDepth 20000 in
theorem ggL_law_X9_judge : GoodIn wsL_law wsX9_judge := goodIn_r _ [626, 627, 98, 107, 97, 130, 131, 5, 132, 487, 488, 489, 499, 500, 501, 502, 349, 350, 351, 352, 353, 354, 355, 267, 266, 356, 357, 358, 359, 100, 264, 265, 360, 739, 740, 741, 742, 743, 744, 745, 746, 747, 748, 749, 750, 751, 752, 753, 754, 755, 756, 757, 758, 759, 760, 761, 762, 763, 764, 765, 766, 767] (by decide +kernel) (by decide +kernel)
set_option maxRecDepth 20000 in
theorem gL_law_X9_judge : GoodIn wsL_law (wsV RL 95 RX9 yX9_judge wsX9_judge) := goodIn_app (goodIn_of _ (by decide +kernel)) ggL_law_X9_judge
set_option maxRecDepth 20000 in
theorem ggL_law_X8_said : GoodIn wsL_law wsX8_said := goodIn_r _ [631, 24, 20, 112, 113, 2, 114, 632, 302, 303, 23, 304, 58, 633, 306, 307, 308, 59, 634, 256, 257, 19, 258, 259, 248, 249, 250, 49, 729, 730, 731, 732, 733, 734, 735, 736, 737, 738, 783, 784, 785, 786, 787, 788, 774, 775, 776, 777, 778, 779, 780, 781, 782] (by decide +kernel) (by decide +kernel)
set_option maxRecDepth 20000 in
theorem gL_law_X8_said : GoodIn wsL_law (wsV RL 96 RX8 yX8_said wsX8_said) := goodIn_app (goodIn_of _ (by decide +kernel)) ggL_law_X8_said
set_option maxRecDepth 20000 in
theorem ggL_law_X9_said : GoodIn wsL_law wsX9_said := goodIn_r _ [638, 98, 130, 131, 5, 132, 639, 640, 641, 642, 94, 739, 740, 741, 742, 743, 744, 745, 746, 747, 748, 749, 750, 751, 752, 753, 754, 755, 756, 757, 758, 759, 760, 761, 762, 763, 764, 765, 766, 767] (by decide +kernel) (by decide +kernel)
set_option maxRecDepth 20000 in
theorem gL_law_X9_said : GoodIn wsL_law (wsV RL 99 RX9 yX9_said wsX9_said) := goodIn_app (goodIn_of _ (by decide +kernel)) ggL_law_X9_said
set_option maxRecDepth 20000 in
theorem ggL_law_X8_trust : GoodIn wsL_law wsX8_trust := goodIn_r _ [646, 405, 20, 416, 25, 373, 374, 2, 375, 112, 113, 114, 251, 252, 253, 19, 254, 255, 256, 257, 258, 259, 248, 249, 250, 49, 240, 241, 242, 23, 243, 57, 244, 245, 246, 247, 376, 377, 378, 379, 380, 58, 59, 406, 298, 299, 300, 417, 418, 419, 420, 421, 422, 423, 424, 425, 426, 66, 427, 428, 429, 430, 729, 730, 731, 732, 733, 734, 735, 736, 737, 738, 774, 775, 776, 777, 778, 779, 780, 781, 782, 783, 784, 785, 786, 787, 788] (by decide +kernel) (by decide +kernel)
set_option maxRecDepth 20000 in
theorem gL_law_X8_trust : GoodIn wsL_law (wsV RL 100 RX8 yX8_trust wsX8_trust) := goodIn_app (goodIn_of _ (by decide +kernel)) ggL_law_X8_trust
set_option maxRecDepth 20000 in
theorem ggL_law_X9_trust : GoodIn wsL_law wsX9_trust := goodIn_r _ [650, 411, 435, 94, 386, 387, 5, 388, 209, 130, 131, 132, 273, 274, 275, 276, 639, 640, 641, 642, 507, 508, 509, 440, 441, 442, 739, 740, 741, 742, 743, 744, 745, 746, 747, 748, 749, 750, 751, 752, 753, 754, 755, 756, 757, 758, 759, 760, 761, 762, 763, 764, 765, 766, 767] (by decide +kernel) (by decide +kernel)
set_option maxRecDepth 20000 in
theorem gL_law_X9_trust : GoodIn wsL_law (wsV RL 104 RX9 yX9_trust wsX9_trust) := goodIn_app (goodIn_of _ (by decide +kernel)) ggL_law_X9_trust
set_option maxRecDepth 20000 in
theorem ggL_law_X8_seed : GoodIn wsL_law wsX8_seed := goodIn_r _ [654, 38, 729, 730, 731, 732, 733, 734, 735, 736, 737, 738, 795] (by decide +kernel) (by decide +kernel)
set_option maxRecDepth 20000 in
theorem gL_law_X8_seed : GoodIn wsL_law (wsV RL 107 RX8 yX8_seed wsX8_seed) := goodIn_app (goodIn_of _ (by decide +kernel)) ggL_law_X8_seed
set_option maxRecDepth 20000 in
theorem ggL_law_X9_seed : GoodIn wsL_law wsX9_seed := goodIn_r _ [658, 659, 739, 740, 741, 742, 743, 744, 745, 746, 747, 748, 749, 750, 751, 752, 753, 754, 755, 756, 757, 758, 759, 760, 761, 762, 763, 764, 765, 766, 767] (by decide +kernel) (by decide +kernel)
set_option maxRecDepth 20000 in
theorem gL_law_X9_seed : GoodIn wsL_law (wsV RL 111 RX9 yX9_seed wsX9_seed) := goodIn_app (goodIn_of _ (by decide +kernel)) ggL_law_X9_seed
set_option maxRecDepth 20000 in
theorem ggL_law_X8_trials : GoodIn wsL_law wsX8_trials := goodIn_r _ [663, 20, 112, 113, 2, 114, 456, 457, 458, 459, 460, 461, 462, 463, 464, 465, 251, 252, 253, 19, 254, 255, 256, 257, 258, 259, 248, 249, 250, 49, 664, 665, 666, 667, 38, 668, 669, 670, 37, 671, 672, 673, 674, 675, 676, 677, 678, 679, 321, 322, 323, 324, 66, 325, 326, 65, 67, 680, 328, 329, 330, 223, 222, 681, 682, 683, 684, 220, 221, 729, 730, 731, 732, 733, 734, 735, 736, 737, 738, 774, 775, 776, 777, 778, 779, 780, 781, 782, 795] (by decide +kernel) (by decide +kernel)
set_option maxRecDepth 20000 in
theorem gL_law_X8_trials : GoodIn wsL_law (wsV RL 112 RX8 yX8_trials wsX8_trials) := goodIn_app (goodIn_of _ (by decide +kernel)) ggL_law_X8_trials
set_option maxRecDepth 20000 in
theorem ggL_law_X9_trials : GoodIn wsL_law wsX9_trials := goodIn_r _ [688, 689, 130, 131, 5, 132, 483, 484, 485, 486, 487, 488, 489, 273, 274, 275, 276, 94, 690, 691, 692, 693, 268, 107, 267, 266, 264, 265, 694, 695, 696, 697, 659, 698, 699, 349, 350, 351, 739, 740, 741, 742, 743, 744, 745, 746, 747, 748, 749, 750, 751, 752, 753, 754, 755, 756, 757, 758, 759, 760, 761, 762, 763, 764, 765, 766, 767] (by decide +kernel) (by decide +kernel)
set_option maxRecDepth 20000 in
theorem gL_law_X9_trials : GoodIn wsL_law (wsV RL 115 RX9 yX9_trials wsX9_trials) := goodIn_app (goodIn_of _ (by decide +kernel)) ggL_law_X9_trials
set_option maxRecDepth 20000 in
theorem ggL_law_X8_keep : GoodIn wsL_law wsX8_keep := goodIn_r _ [703, 30, 24, 215, 112, 113, 2, 114, 285, 286, 287, 28, 288, 289, 290, 291, 292, 69, 293, 294, 295, 23, 296, 57, 58, 59, 244, 245, 246, 297, 298, 299, 300, 301, 302, 303, 304, 305, 306, 307, 308, 729, 730, 731, 732, 733, 734, 735, 736, 737, 738, 783, 784, 785, 786, 787, 788, 789] (by decide +kernel) (by decide +kernel)
set_option maxRecDepth 20000 in
theorem gL_law_X8_keep : GoodIn wsL_law (wsV RL 116 RX8 yX8_keep wsX8_keep) := goodIn_app (goodIn_of _ (by decide +kernel)) ggL_law_X8_keep
set_option maxRecDepth 20000 in
theorem ggL_law_X9_keep : GoodIn wsL_law wsX9_keep := goodIn_r _ [707, 104, 105, 97, 106, 98, 130, 131, 5, 132, 739, 740, 741, 742, 743, 744, 745, 746, 747, 748, 749, 750, 751, 752, 753, 754, 755, 756, 757, 758, 759, 760, 761, 762, 763, 764, 765, 766, 767] (by decide +kernel) (by decide +kernel)
set_option maxRecDepth 20000 in
theorem gL_law_X9_keep : GoodIn wsL_law (wsV RL 119 RX9 yX9_keep wsX9_keep) := goodIn_app (goodIn_of _ (by decide +kernel)) ggL_law_X9_keep
set_option maxRecDepth 20000 in
theorem ggL_law_X8_again : GoodIn wsL_law wsX8_again := goodIn_r _ [711, 215, 30, 24, 214, 112, 113, 2, 114, 393, 394, 395, 28, 396, 289, 290, 291, 292, 69, 293, 294, 295, 23, 296, 57, 58, 59, 244, 245, 246, 297, 298, 299, 300, 301, 302, 303, 304, 305, 306, 307, 308, 729, 730, 731, 732, 733, 734, 735, 736, 737, 738, 783, 784, 785, 786, 787, 788, 789] (by decide +kernel) (by decide +kernel)
set_option maxRecDepth 20000 in
theorem gL_law_X8_again : GoodIn wsL_law (wsV RL 120 RX8 yX8_again wsX8_again) := goodIn_app (goodIn_of _ (by decide +kernel)) ggL_law_X8_again
set_option maxRecDepth 20000 in
theorem ggL_law_X9_again : GoodIn wsL_law wsX9_again := goodIn_r _ [715, 104, 97, 105, 98, 106, 272, 130, 131, 5, 132, 739, 740, 741, 742, 743, 744, 745, 746, 747, 748, 749, 750, 751, 752, 753, 754, 755, 756, 757, 758, 759, 760, 761, 762, 763, 764, 765, 766, 767] (by decide +kernel) (by decide +kernel)
set_option maxRecDepth 20000 in
theorem gL_law_X9_again : GoodIn wsL_law (wsV RL 123 RX9 yX9_again wsX9_again) := goodIn_app (goodIn_of _ (by decide +kernel)) ggL_law_X9_again
set_option maxRecDepth 20000 in
theorem ggL_law_X8_count : GoodIn wsL_law wsX8_count := goodIn_r _ [719, 16, 20, 24, 214, 720, 232, 233, 15, 234, 119, 721, 722, 723, 23, 724, 297, 298, 299, 300, 57, 729, 730, 731, 732, 733, 734, 735, 736, 737, 738, 774, 775, 776, 777, 778, 779, 780, 781, 782, 783, 784, 785, 786, 787, 788, 768, 769, 770, 771, 772, 773] (by decide +kernel) (by decide +kernel)
set_option maxRecDepth 20000 in
theorem gL_law_X8_count : GoodIn wsL_law (wsV RL 124 RX8 yX8_count wsX8_count) := goodIn_app (goodIn_of _ (by decide +kernel)) ggL_law_X8_count
set_option maxRecDepth 20000 in
theorem ggL_law_X9_count : GoodIn wsL_law wsX9_count := goodIn_r _ [728, 97, 129, 264, 265, 266, 267, 107, 98, 272, 270, 269, 739, 740, 741, 742, 743, 744, 745, 746, 747, 748, 749, 750, 751, 752, 753, 754, 755, 756, 757, 758, 759, 760, 761, 762, 763, 764, 765, 766, 767] (by decide +kernel) (by decide +kernel)
set_option maxRecDepth 20000 in
theorem gL_law_X9_count : GoodIn wsL_law (wsV RL 127 RX9 yX9_count wsX9_count) := goodIn_app (goodIn_of _ (by decide +kernel)) ggL_law_X9_count
