/-! THE WORDS OF WHAT THE LAW CALLS, on. -/
set_option maxRecDepth 20000 in
theorem ggL_law_X7_weight : GoodIn wsL_law wsX7_weight := goodIn_r _ [509, 16, 390, 88, 20, 400, 213, 214, 15, 215, 163, 90, 2, 91, 89, 149, 150, 151, 19, 152, 50, 153, 154, 155, 156, 157, 158, 159, 160, 161, 162, 39, 164, 165, 166, 167, 40, 168, 169, 170, 171, 401, 201, 202, 203, 510, 221, 222, 223, 722, 723, 724, 725, 726, 727, 728, 729, 730, 748, 749, 750, 751, 752, 753, 754, 755, 756, 757, 758] (by decide +kernel) (by decide +kernel)
set_option maxRecDepth 20000 in
theorem gL_law_X7_weight : GoodIn wsL_law (wsV RL 63 RX7 yX7_weight wsX7_weight) := goodIn_app (goodIn_of _ (by decide +kernel)) ggL_law_X7_weight
set_option maxRecDepth 20000 in
theorem ggL_law_X8_weight : GoodIn wsL_law wsX8_weight := goodIn_r _ [514, 101, 395, 292, 103, 71, 381, 382, 383, 5, 384, 104, 105, 106, 265, 266, 267, 268, 269, 74, 297, 298, 299, 300, 301, 302, 303, 731, 732, 733, 734, 735, 736, 737, 738, 739, 740, 741, 742, 743, 744, 745, 746, 747] (by decide +kernel) (by decide +kernel)
set_option maxRecDepth 20000 in
theorem gL_law_X8_weight : GoodIn wsL_law (wsV RL 66 RX8 yX8_weight wsX8_weight) := goodIn_app (goodIn_of _ (by decide +kernel)) ggL_law_X8_weight
set_option maxRecDepth 20000 in
theorem ggL_law_X7_drop : GoodIn wsL_law wsX7_drop := goodIn_r _ [518, 16, 390, 20, 354, 400, 213, 214, 15, 215, 163, 90, 2, 91, 149, 150, 151, 19, 152, 50, 153, 154, 155, 156, 157, 158, 159, 160, 161, 162, 39, 164, 165, 166, 167, 40, 168, 169, 170, 171, 519, 209, 210, 211, 212, 722, 723, 724, 725, 726, 727, 728, 729, 730, 748, 749, 750, 751, 752, 753, 754, 755, 756, 757, 758] (by decide +kernel) (by decide +kernel)
set_option maxRecDepth 20000 in
theorem gL_law_X7_drop : GoodIn wsL_law (wsV RL 67 RX7 yX7_drop wsX7_drop) := goodIn_app (goodIn_of _ (by decide +kernel)) ggL_law_X7_drop
set_option maxRecDepth 20000 in
theorem ggL_law_X8_drop : GoodIn wsL_law wsX8_drop := goodIn_r _ [523, 101, 395, 71, 381, 382, 383, 5, 384, 104, 105, 106, 265, 266, 267, 268, 269, 74, 312, 313, 314, 315, 301, 302, 303, 731, 732, 733, 734, 735, 736, 737, 738, 739, 740, 741, 742, 743, 744, 745, 746, 747] (by decide +kernel) (by decide +kernel)
set_option maxRecDepth 20000 in
theorem gL_law_X8_drop : GoodIn wsL_law (wsV RL 70 RX8 yX8_drop wsX8_drop) := goodIn_app (goodIn_of _ (by decide +kernel)) ggL_law_X8_drop
set_option maxRecDepth 20000 in
theorem ggL_law_X7_drift : GoodIn wsL_law wsX7_drift := goodIn_r _ [527, 88, 34, 16, 354, 89, 90, 2, 91, 528, 529, 530, 531, 532, 533, 534, 15, 535, 536, 537, 538, 539, 540, 541, 542, 543, 544, 92, 93, 94, 95, 96, 332, 333, 334, 335, 336, 337, 338, 251, 252, 120, 121, 122, 123, 124, 125, 126, 143, 144, 145, 146, 20, 147, 148, 149, 150, 151, 19, 152, 50, 153, 154, 155, 156, 157, 158, 159, 160, 161, 162, 39, 163, 164, 165, 166, 167, 40, 168, 169, 170, 171, 172, 173, 174, 175, 176, 177, 178, 179, 180, 181, 182, 118, 119, 183, 184, 185, 186, 187, 188, 189, 190, 191, 192, 193, 194, 195, 196, 197, 198, 199, 200, 201, 202, 203, 204, 205, 206, 207, 208, 209, 210, 211, 212, 213, 214, 215, 216, 217, 218, 219, 220, 221, 222, 223, 224, 225, 226, 227, 228, 229, 43, 230, 231, 232, 233, 234, 235, 236, 237, 238, 239, 240, 241, 242, 243, 244, 245, 246, 247, 248, 249, 250, 253, 254, 255, 722, 723, 724, 725, 726, 727, 728, 729, 730, 748, 749, 750, 751, 752, 753, 754, 755, 756, 757, 758] (by decide +kernel) (by decide +kernel)
set_option maxRecDepth 20000 in
theorem gL_law_X7_drift : GoodIn wsL_law (wsV RL 71 RX7 yX7_drift wsX7_drift) := goodIn_app (goodIn_of _ (by decide +kernel)) ggL_law_X7_drift
set_option maxRecDepth 20000 in
theorem ggL_law_X8_drift : GoodIn wsL_law wsX8_drift := goodIn_r _ [548, 101, 343, 103, 71, 104, 105, 5, 106, 549, 550, 551, 552, 72, 553, 554, 555, 556, 557, 558, 559, 560, 561, 107, 108, 109, 110, 111, 112, 344, 345, 346, 347, 348, 349, 135, 136, 137, 261, 262, 263, 264, 265, 266, 267, 268, 269, 74, 270, 271, 272, 273, 274, 275, 276, 277, 278, 279, 280, 281, 282, 283, 132, 133, 134, 284, 285, 286, 287, 288, 289, 290, 291, 292, 293, 294, 295, 296, 297, 298, 299, 300, 301, 302, 303, 304, 305, 306, 307, 308, 309, 310, 311, 312, 313, 314, 315, 316, 317, 318, 319, 320, 321, 322, 323, 324, 325, 326, 327, 731, 732, 733, 734, 735, 736, 737, 738, 739, 740, 741, 742, 743, 744, 745, 746, 747] (by decide +kernel) (by decide +kernel)
set_option maxRecDepth 20000 in
theorem gL_law_X8_drift : GoodIn wsL_law (wsV RL 74 RX8 yX8_drift wsX8_drift) := goodIn_app (goodIn_of _ (by decide +kernel)) ggL_law_X8_drift
set_option maxRecDepth 20000 in
theorem ggL_law_X7_undo : GoodIn wsL_law wsX7_undo := goodIn_r _ [565, 88, 20, 357, 566, 16, 147, 89, 90, 2, 91, 567, 568, 569, 19, 570, 153, 154, 50, 571, 542, 543, 544, 159, 160, 161, 15, 162, 39, 163, 164, 165, 166, 167, 40, 168, 169, 170, 171, 722, 723, 724, 725, 726, 727, 728, 729, 730, 756, 757, 758, 748, 749, 750, 751, 752, 753, 754, 755] (by decide +kernel) (by decide +kernel)
set_option maxRecDepth 20000 in
theorem gL_law_X7_undo : GoodIn wsL_law (wsV RL 75 RX7 yX7_undo wsX7_undo) := goodIn_app (goodIn_of _ (by decide +kernel)) ggL_law_X7_undo
set_option maxRecDepth 20000 in
theorem ggL_law_X8_undo : GoodIn wsL_law wsX8_undo := goodIn_r _ [575, 101, 343, 103, 269, 576, 71, 74, 104, 105, 5, 106, 731, 732, 733, 734, 735, 736, 737, 738, 739, 740, 741, 742, 743, 744, 745, 746, 747] (by decide +kernel) (by decide +kernel)
set_option maxRecDepth 20000 in
theorem gL_law_X8_undo : GoodIn wsL_law (wsV RL 78 RX8 yX8_undo wsX8_undo) := goodIn_app (goodIn_of _ (by decide +kernel)) ggL_law_X8_undo
set_option maxRecDepth 20000 in
theorem ggL_law_X7_sent : GoodIn wsL_law wsX7_sent := goodIn_r _ [580, 88, 31, 16, 89, 90, 2, 91, 581, 582, 583, 30, 584, 585, 586, 156, 157, 158, 587, 62, 63, 588, 403, 404, 405, 406, 407, 408, 409, 410, 411, 412, 369, 370, 15, 371, 200, 201, 202, 203, 39, 413, 121, 122, 123, 124, 125, 126, 414, 415, 416, 417, 418, 419, 420, 589, 590, 591, 592, 593, 64, 65, 66, 594, 595, 42, 43, 44, 596, 597, 598, 599, 600, 601, 602, 603, 604, 605, 606, 607, 608, 609, 610, 611, 612, 613, 614, 615, 616, 617, 618, 722, 723, 724, 725, 726, 727, 728, 729, 730, 748, 749, 750, 751, 752, 753, 754, 755, 764, 765, 766, 767, 768, 769, 770] (by decide +kernel) (by decide +kernel)
set_option maxRecDepth 20000 in
theorem gL_law_X7_sent : GoodIn wsL_law (wsV RL 79 RX7 yX7_sent wsX7_sent) := goodIn_app (goodIn_of _ (by decide +kernel)) ggL_law_X7_sent
set_option maxRecDepth 20000 in
theorem ggL_law_X8_sent : GoodIn wsL_law wsX8_sent := goodIn_r _ [622, 101, 274, 623, 103, 71, 80, 104, 105, 5, 106, 624, 625, 626, 627, 81, 82, 83, 628, 629, 630, 631, 297, 298, 299, 300, 301, 302, 303, 439, 440, 441, 442, 443, 444, 445, 446, 447, 448, 449, 450, 632, 633, 634, 635, 731, 732, 733, 734, 735, 736, 737, 738, 739, 740, 741, 742, 743, 744, 745, 746, 747] (by decide +kernel) (by decide +kernel)
set_option maxRecDepth 20000 in
theorem gL_law_X8_sent : GoodIn wsL_law (wsV RL 82 RX8 yX8_sent wsX8_sent) := goodIn_app (goodIn_of _ (by decide +kernel)) ggL_law_X8_sent
set_option maxRecDepth 20000 in
theorem ggL_law_X7_waits : GoodIn wsL_law wsX7_waits := goodIn_r _ [639, 16, 390, 88, 31, 400, 213, 214, 15, 215, 163, 90, 2, 91, 89, 581, 582, 583, 30, 584, 585, 586, 156, 157, 158, 587, 62, 63, 588, 403, 404, 405, 406, 407, 408, 409, 410, 411, 412, 369, 370, 371, 200, 201, 202, 203, 39, 413, 121, 122, 123, 124, 125, 126, 414, 415, 416, 417, 418, 419, 420, 589, 590, 591, 592, 593, 64, 65, 66, 594, 595, 42, 43, 44, 596, 597, 598, 599, 600, 601, 602, 603, 604, 605, 606, 607, 608, 609, 610, 611, 612, 613, 614, 615, 616, 617, 618, 640, 641, 642, 643, 722, 723, 724, 725, 726, 727, 728, 729, 730, 748, 749, 750, 751, 752, 753, 754, 755, 764, 765, 766, 767, 768, 769, 770] (by decide +kernel) (by decide +kernel)
set_option maxRecDepth 20000 in
theorem gL_law_X7_waits : GoodIn wsL_law (wsV RL 83 RX7 yX7_waits wsX7_waits) := goodIn_app (goodIn_of _ (by decide +kernel)) ggL_law_X7_waits
set_option maxRecDepth 20000 in
theorem ggL_law_X8_waits : GoodIn wsL_law wsX8_waits := goodIn_r _ [647, 101, 395, 274, 648, 103, 83, 381, 382, 383, 5, 384, 71, 104, 105, 106, 624, 625, 626, 627, 81, 82, 80, 628, 629, 630, 631, 297, 298, 299, 300, 301, 302, 303, 439, 440, 441, 442, 443, 444, 445, 446, 447, 448, 449, 450, 632, 633, 634, 635, 731, 732, 733, 734, 735, 736, 737, 738, 739, 740, 741, 742, 743, 744, 745, 746, 747] (by decide +kernel) (by decide +kernel)
set_option maxRecDepth 20000 in
theorem gL_law_X8_waits : GoodIn wsL_law (wsV RL 86 RX8 yX8_waits wsX8_waits) := goodIn_app (goodIn_of _ (by decide +kernel)) ggL_law_X8_waits
set_option maxRecDepth 20000 in
theorem ggL_law_X7_bestRule : GoodIn wsL_law wsX7_bestRule := goodIn_r _ [652, 88, 31, 16, 89, 90, 2, 91, 581, 582, 583, 30, 584, 585, 586, 156, 157, 158, 587, 62, 63, 588, 403, 404, 405, 406, 407, 408, 409, 410, 411, 412, 369, 370, 15, 371, 200, 201, 202, 203, 39, 413, 121, 122, 123, 124, 125, 126, 414, 415, 416, 417, 418, 419, 420, 589, 653, 654, 655, 656, 657, 658, 659, 660, 66, 616, 617, 618, 661, 591, 592, 593, 64, 65, 594, 595, 42, 43, 44, 596, 597, 598, 599, 600, 601, 602, 603, 604, 605, 606, 607, 608, 609, 610, 611, 612, 613, 614, 615, 722, 723, 724, 725, 726, 727, 728, 729, 730, 748, 749, 750, 751, 752, 753, 754, 755, 764, 765, 766, 767, 768, 769, 770] (by decide +kernel) (by decide +kernel)
set_option maxRecDepth 20000 in
theorem gL_law_X7_bestRule : GoodIn wsL_law (wsV RL 87 RX7 yX7_bestRule wsX7_bestRule) := goodIn_app (goodIn_of _ (by decide +kernel)) ggL_law_X7_bestRule
set_option maxRecDepth 20000 in
theorem ggL_law_X8_bestRule : GoodIn wsL_law wsX8_bestRule := goodIn_r _ [665, 101, 648, 103, 71, 104, 105, 5, 106, 666, 667, 668, 669, 83, 624, 625, 626, 627, 81, 82, 80, 628, 629, 630, 631, 297, 298, 299, 300, 301, 302, 303, 439, 440, 441, 442, 443, 444, 445, 446, 447, 448, 449, 450, 632, 633, 634, 635, 731, 732, 733, 734, 735, 736, 737, 738, 739, 740, 741, 742, 743, 744, 745, 746, 747] (by decide +kernel) (by decide +kernel)
set_option maxRecDepth 20000 in
theorem gL_law_X8_bestRule : GoodIn wsL_law (wsV RL 90 RX8 yX8_bestRule wsX8_bestRule) := goodIn_app (goodIn_of _ (by decide +kernel)) ggL_law_X8_bestRule
set_option maxRecDepth 20000 in
theorem ggL_law_X7_write : GoodIn wsL_law wsX7_write := goodIn_r _ [673, 16, 390, 88, 27, 356, 674, 400, 213, 214, 15, 215, 163, 90, 2, 91, 464, 465, 466, 89, 675, 676, 677, 26, 678, 362, 55, 56, 57, 58, 722, 723, 724, 725, 726, 727, 728, 729, 730, 759, 760, 761, 762, 763, 748, 749, 750, 751, 752, 753, 754, 755] (by decide +kernel) (by decide +kernel)
set_option maxRecDepth 20000 in
theorem gL_law_X7_write : GoodIn wsL_law (wsV RL 91 RX7 yX7_write wsX7_write) := goodIn_app (goodIn_of _ (by decide +kernel)) ggL_law_X7_write
set_option maxRecDepth 20000 in
theorem ggL_law_X8_write : GoodIn wsL_law wsX8_write := goodIn_r _ [682, 101, 395, 472, 275, 455, 103, 376, 683, 79, 381, 382, 383, 5, 384, 71, 104, 105, 106, 731, 732, 733, 734, 735, 736, 737, 738, 739, 740, 741, 742, 743, 744, 745, 746, 747] (by decide +kernel) (by decide +kernel)
set_option maxRecDepth 20000 in
theorem gL_law_X8_write : GoodIn wsL_law (wsV RL 95 RX8 yX8_write wsX8_write) := goodIn_app (goodIn_of _ (by decide +kernel)) ggL_law_X8_write
set_option maxRecDepth 20000 in
theorem ggL_law_X7_tear : GoodIn wsL_law wsX7_tear := goodIn_r _ [687, 27, 356, 722, 723, 724, 725, 726, 727, 728, 729, 730, 759, 760, 761, 762, 763] (by decide +kernel) (by decide +kernel)
set_option maxRecDepth 20000 in
theorem gL_law_X7_tear : GoodIn wsL_law (wsV RL 96 RX7 yX7_tear wsX7_tear) := goodIn_app (goodIn_of _ (by decide +kernel)) ggL_law_X7_tear
set_option maxRecDepth 20000 in
theorem ggL_law_X8_tear : GoodIn wsL_law wsX8_tear := goodIn_r _ [691, 101, 376, 731, 732, 733, 734, 735, 736, 737, 738, 739, 740, 741, 742, 743, 744, 745, 746, 747] (by decide +kernel) (by decide +kernel)
set_option maxRecDepth 20000 in
theorem gL_law_X8_tear : GoodIn wsL_law (wsV RL 100 RX8 yX8_tear wsX8_tear) := goodIn_app (goodIn_of _ (by decide +kernel)) ggL_law_X8_tear
set_option maxRecDepth 20000 in
theorem ggL_law_X7_seed : GoodIn wsL_law wsX7_seed := goodIn_r _ [695, 88, 16, 696, 722, 723, 724, 725, 726, 727, 728, 729, 730, 748, 749, 750, 751, 752, 753, 754, 755] (by decide +kernel) (by decide +kernel)
set_option maxRecDepth 20000 in
theorem gL_law_X7_seed : GoodIn wsL_law (wsV RL 101 RX7 yX7_seed wsX7_seed) := goodIn_app (goodIn_of _ (by decide +kernel)) ggL_law_X7_seed
set_option maxRecDepth 20000 in
theorem ggL_law_X8_seed : GoodIn wsL_law wsX8_seed := goodIn_r _ [700, 101, 103, 557, 731, 732, 733, 734, 735, 736, 737, 738, 739, 740, 741, 742, 743, 744, 745, 746, 747] (by decide +kernel) (by decide +kernel)
set_option maxRecDepth 20000 in
theorem gL_law_X8_seed : GoodIn wsL_law (wsV RL 104 RX8 yX8_seed wsX8_seed) := goodIn_app (goodIn_of _ (by decide +kernel)) ggL_law_X8_seed
set_option maxRecDepth 20000 in
theorem ggL_law_X7_keep : GoodIn wsL_law wsX7_keep := goodIn_r _ [704, 390, 21, 16, 696, 23, 20, 89, 90, 2, 91, 705, 160, 161, 15, 162, 39, 163, 164, 165, 166, 167, 40, 168, 169, 170, 171, 706, 707, 708, 19, 709, 154, 722, 723, 724, 725, 726, 727, 728, 729, 730, 748, 749, 750, 751, 752, 753, 754, 755, 756, 757, 758] (by decide +kernel) (by decide +kernel)
set_option maxRecDepth 20000 in
theorem gL_law_X7_keep : GoodIn wsL_law (wsV RL 105 RX7 yX7_keep wsX7_keep) := goodIn_app (goodIn_of _ (by decide +kernel)) ggL_law_X7_keep
set_option maxRecDepth 20000 in
theorem ggL_law_X8_keep : GoodIn wsL_law wsX8_keep := goodIn_r _ [713, 101, 395, 75, 71, 77, 557, 78, 269, 104, 105, 5, 106, 731, 732, 733, 734, 735, 736, 737, 738, 739, 740, 741, 742, 743, 744, 745, 746, 747] (by decide +kernel) (by decide +kernel)
set_option maxRecDepth 20000 in
theorem gL_law_X8_keep : GoodIn wsL_law (wsV RL 108 RX8 yX8_keep wsX8_keep) := goodIn_app (goodIn_of _ (by decide +kernel)) ggL_law_X8_keep
set_option maxRecDepth 20000 in
theorem ggL_law_X7_goBack : GoodIn wsL_law wsX7_goBack := goodIn_r _ [717, 390, 23, 566, 16, 21, 696, 20, 89, 90, 2, 91, 705, 160, 161, 15, 162, 39, 163, 164, 165, 166, 167, 40, 168, 169, 170, 171, 706, 707, 708, 19, 709, 154, 722, 723, 724, 725, 726, 727, 728, 729, 730, 748, 749, 750, 751, 752, 753, 754, 755, 756, 757, 758] (by decide +kernel) (by decide +kernel)
set_option maxRecDepth 20000 in
theorem gL_law_X7_goBack : GoodIn wsL_law (wsV RL 109 RX7 yX7_goBack wsX7_goBack) := goodIn_app (goodIn_of _ (by decide +kernel)) ggL_law_X7_goBack
set_option maxRecDepth 20000 in
theorem ggL_law_X8_goBack : GoodIn wsL_law wsX8_goBack := goodIn_r _ [721, 101, 395, 78, 576, 71, 75, 77, 557, 269, 104, 105, 5, 106, 731, 732, 733, 734, 735, 736, 737, 738, 739, 740, 741, 742, 743, 744, 745, 746, 747] (by decide +kernel) (by decide +kernel)
set_option maxRecDepth 20000 in
theorem gL_law_X8_goBack : GoodIn wsL_law (wsV RL 112 RX8 yX8_goBack wsX8_goBack) := goodIn_app (goodIn_of _ (by decide +kernel)) ggL_law_X8_goBack
