/-! THE WORDS OF WHAT THE LAW CALLS, on. -/
set_option maxRecDepth 20000 in
theorem ggL_law_X7_weight : GoodIn wsL_law wsX7_weight := goodIn_r _ [508, 16, 389, 88, 20, 399, 235, 236, 15, 237, 163, 90, 2, 91, 89, 149, 150, 151, 19, 152, 50, 153, 154, 155, 156, 157, 158, 159, 160, 161, 162, 39, 164, 165, 166, 167, 40, 168, 169, 170, 171, 400, 201, 202, 203, 509, 217, 218, 219, 721, 722, 723, 724, 725, 726, 727, 728, 729, 747, 748, 749, 750, 751, 752, 753, 754, 755, 756, 757] (by decide +kernel) (by decide +kernel)
set_option maxRecDepth 20000 in
theorem gL_law_X7_weight : GoodIn wsL_law (wsV RL 63 RX7 yX7_weight wsX7_weight) := goodIn_app (goodIn_of _ (by decide +kernel)) ggL_law_X7_weight
set_option maxRecDepth 20000 in
theorem ggL_law_X8_weight : GoodIn wsL_law wsX8_weight := goodIn_r _ [513, 101, 394, 291, 103, 71, 380, 381, 382, 5, 383, 104, 105, 106, 264, 265, 266, 267, 268, 74, 296, 297, 298, 299, 300, 301, 302, 730, 731, 732, 733, 734, 735, 736, 737, 738, 739, 740, 741, 742, 743, 744, 745, 746] (by decide +kernel) (by decide +kernel)
set_option maxRecDepth 20000 in
theorem gL_law_X8_weight : GoodIn wsL_law (wsV RL 66 RX8 yX8_weight wsX8_weight) := goodIn_app (goodIn_of _ (by decide +kernel)) ggL_law_X8_weight
set_option maxRecDepth 20000 in
theorem ggL_law_X7_drop : GoodIn wsL_law wsX7_drop := goodIn_r _ [517, 16, 389, 20, 353, 399, 235, 236, 15, 237, 163, 90, 2, 91, 149, 150, 151, 19, 152, 50, 153, 154, 155, 156, 157, 158, 159, 160, 161, 162, 39, 164, 165, 166, 167, 40, 168, 169, 170, 171, 518, 209, 210, 211, 721, 722, 723, 724, 725, 726, 727, 728, 729, 747, 748, 749, 750, 751, 752, 753, 754, 755, 756, 757] (by decide +kernel) (by decide +kernel)
set_option maxRecDepth 20000 in
theorem gL_law_X7_drop : GoodIn wsL_law (wsV RL 67 RX7 yX7_drop wsX7_drop) := goodIn_app (goodIn_of _ (by decide +kernel)) ggL_law_X7_drop
set_option maxRecDepth 20000 in
theorem ggL_law_X8_drop : GoodIn wsL_law wsX8_drop := goodIn_r _ [522, 101, 394, 71, 380, 381, 382, 5, 383, 104, 105, 106, 264, 265, 266, 267, 268, 74, 311, 312, 313, 314, 300, 301, 302, 730, 731, 732, 733, 734, 735, 736, 737, 738, 739, 740, 741, 742, 743, 744, 745, 746] (by decide +kernel) (by decide +kernel)
set_option maxRecDepth 20000 in
theorem gL_law_X8_drop : GoodIn wsL_law (wsV RL 70 RX8 yX8_drop wsX8_drop) := goodIn_app (goodIn_of _ (by decide +kernel)) ggL_law_X8_drop
set_option maxRecDepth 20000 in
theorem ggL_law_X7_drift : GoodIn wsL_law wsX7_drift := goodIn_r _ [526, 88, 34, 16, 353, 89, 90, 2, 91, 527, 528, 529, 530, 531, 532, 533, 15, 534, 535, 536, 537, 538, 539, 540, 541, 542, 543, 92, 93, 94, 95, 96, 331, 332, 333, 334, 335, 336, 337, 250, 251, 120, 121, 122, 123, 124, 125, 126, 143, 144, 145, 146, 20, 147, 148, 149, 150, 151, 19, 152, 50, 153, 154, 155, 156, 157, 158, 159, 160, 161, 162, 39, 163, 164, 165, 166, 167, 40, 168, 169, 170, 171, 172, 173, 174, 175, 176, 177, 178, 179, 180, 181, 182, 118, 119, 183, 184, 185, 186, 187, 188, 189, 190, 191, 192, 193, 194, 195, 196, 197, 198, 199, 200, 201, 202, 203, 204, 205, 206, 207, 208, 209, 210, 211, 212, 213, 214, 215, 216, 217, 218, 219, 220, 221, 222, 223, 224, 225, 43, 226, 227, 228, 229, 230, 231, 232, 233, 234, 235, 236, 237, 238, 239, 240, 241, 242, 243, 244, 245, 246, 247, 248, 249, 252, 253, 254, 721, 722, 723, 724, 725, 726, 727, 728, 729, 747, 748, 749, 750, 751, 752, 753, 754, 755, 756, 757] (by decide +kernel) (by decide +kernel)
set_option maxRecDepth 20000 in
theorem gL_law_X7_drift : GoodIn wsL_law (wsV RL 71 RX7 yX7_drift wsX7_drift) := goodIn_app (goodIn_of _ (by decide +kernel)) ggL_law_X7_drift
set_option maxRecDepth 20000 in
theorem ggL_law_X8_drift : GoodIn wsL_law wsX8_drift := goodIn_r _ [547, 101, 342, 103, 71, 104, 105, 5, 106, 548, 549, 550, 551, 72, 552, 553, 554, 555, 556, 557, 558, 559, 560, 107, 108, 109, 110, 111, 112, 343, 344, 345, 346, 347, 348, 135, 136, 137, 260, 261, 262, 263, 264, 265, 266, 267, 268, 74, 269, 270, 271, 272, 273, 274, 275, 276, 277, 278, 279, 280, 281, 282, 132, 133, 134, 283, 284, 285, 286, 287, 288, 289, 290, 291, 292, 293, 294, 295, 296, 297, 298, 299, 300, 301, 302, 303, 304, 305, 306, 307, 308, 309, 310, 311, 312, 313, 314, 315, 316, 317, 318, 319, 320, 321, 322, 323, 324, 325, 326, 730, 731, 732, 733, 734, 735, 736, 737, 738, 739, 740, 741, 742, 743, 744, 745, 746] (by decide +kernel) (by decide +kernel)
set_option maxRecDepth 20000 in
theorem gL_law_X8_drift : GoodIn wsL_law (wsV RL 74 RX8 yX8_drift wsX8_drift) := goodIn_app (goodIn_of _ (by decide +kernel)) ggL_law_X8_drift
set_option maxRecDepth 20000 in
theorem ggL_law_X7_undo : GoodIn wsL_law wsX7_undo := goodIn_r _ [564, 88, 20, 356, 565, 16, 147, 89, 90, 2, 91, 566, 567, 568, 19, 569, 153, 154, 50, 570, 541, 542, 543, 159, 160, 161, 15, 162, 39, 163, 164, 165, 166, 167, 40, 168, 169, 170, 171, 721, 722, 723, 724, 725, 726, 727, 728, 729, 755, 756, 757, 747, 748, 749, 750, 751, 752, 753, 754] (by decide +kernel) (by decide +kernel)
set_option maxRecDepth 20000 in
theorem gL_law_X7_undo : GoodIn wsL_law (wsV RL 75 RX7 yX7_undo wsX7_undo) := goodIn_app (goodIn_of _ (by decide +kernel)) ggL_law_X7_undo
set_option maxRecDepth 20000 in
theorem ggL_law_X8_undo : GoodIn wsL_law wsX8_undo := goodIn_r _ [574, 101, 342, 103, 268, 575, 71, 74, 104, 105, 5, 106, 730, 731, 732, 733, 734, 735, 736, 737, 738, 739, 740, 741, 742, 743, 744, 745, 746] (by decide +kernel) (by decide +kernel)
set_option maxRecDepth 20000 in
theorem gL_law_X8_undo : GoodIn wsL_law (wsV RL 78 RX8 yX8_undo wsX8_undo) := goodIn_app (goodIn_of _ (by decide +kernel)) ggL_law_X8_undo
set_option maxRecDepth 20000 in
theorem ggL_law_X7_sent : GoodIn wsL_law wsX7_sent := goodIn_r _ [579, 88, 31, 16, 89, 90, 2, 91, 580, 581, 582, 30, 583, 584, 585, 156, 157, 158, 586, 62, 63, 587, 402, 403, 404, 405, 406, 407, 408, 409, 410, 411, 368, 369, 15, 370, 200, 201, 202, 203, 39, 412, 121, 122, 123, 124, 125, 126, 413, 414, 415, 416, 417, 418, 419, 588, 589, 590, 591, 592, 64, 65, 66, 593, 594, 42, 43, 44, 595, 596, 597, 598, 599, 600, 601, 602, 603, 604, 605, 606, 607, 608, 609, 610, 611, 612, 613, 614, 615, 616, 617, 721, 722, 723, 724, 725, 726, 727, 728, 729, 747, 748, 749, 750, 751, 752, 753, 754, 763, 764, 765, 766, 767, 768, 769] (by decide +kernel) (by decide +kernel)
set_option maxRecDepth 20000 in
theorem gL_law_X7_sent : GoodIn wsL_law (wsV RL 79 RX7 yX7_sent wsX7_sent) := goodIn_app (goodIn_of _ (by decide +kernel)) ggL_law_X7_sent
set_option maxRecDepth 20000 in
theorem ggL_law_X8_sent : GoodIn wsL_law wsX8_sent := goodIn_r _ [621, 101, 273, 622, 103, 71, 80, 104, 105, 5, 106, 623, 624, 625, 626, 81, 82, 83, 627, 628, 629, 630, 296, 297, 298, 299, 300, 301, 302, 438, 439, 440, 441, 442, 443, 444, 445, 446, 447, 448, 449, 631, 632, 633, 634, 730, 731, 732, 733, 734, 735, 736, 737, 738, 739, 740, 741, 742, 743, 744, 745, 746] (by decide +kernel) (by decide +kernel)
set_option maxRecDepth 20000 in
theorem gL_law_X8_sent : GoodIn wsL_law (wsV RL 82 RX8 yX8_sent wsX8_sent) := goodIn_app (goodIn_of _ (by decide +kernel)) ggL_law_X8_sent
set_option maxRecDepth 20000 in
theorem ggL_law_X7_waits : GoodIn wsL_law wsX7_waits := goodIn_r _ [638, 16, 389, 88, 31, 399, 235, 236, 15, 237, 163, 90, 2, 91, 89, 580, 581, 582, 30, 583, 584, 585, 156, 157, 158, 586, 62, 63, 587, 402, 403, 404, 405, 406, 407, 408, 409, 410, 411, 368, 369, 370, 200, 201, 202, 203, 39, 412, 121, 122, 123, 124, 125, 126, 413, 414, 415, 416, 417, 418, 419, 588, 589, 590, 591, 592, 64, 65, 66, 593, 594, 42, 43, 44, 595, 596, 597, 598, 599, 600, 601, 602, 603, 604, 605, 606, 607, 608, 609, 610, 611, 612, 613, 614, 615, 616, 617, 639, 640, 641, 642, 721, 722, 723, 724, 725, 726, 727, 728, 729, 747, 748, 749, 750, 751, 752, 753, 754, 763, 764, 765, 766, 767, 768, 769] (by decide +kernel) (by decide +kernel)
set_option maxRecDepth 20000 in
theorem gL_law_X7_waits : GoodIn wsL_law (wsV RL 83 RX7 yX7_waits wsX7_waits) := goodIn_app (goodIn_of _ (by decide +kernel)) ggL_law_X7_waits
set_option maxRecDepth 20000 in
theorem ggL_law_X8_waits : GoodIn wsL_law wsX8_waits := goodIn_r _ [646, 101, 394, 273, 647, 103, 83, 380, 381, 382, 5, 383, 71, 104, 105, 106, 623, 624, 625, 626, 81, 82, 80, 627, 628, 629, 630, 296, 297, 298, 299, 300, 301, 302, 438, 439, 440, 441, 442, 443, 444, 445, 446, 447, 448, 449, 631, 632, 633, 634, 730, 731, 732, 733, 734, 735, 736, 737, 738, 739, 740, 741, 742, 743, 744, 745, 746] (by decide +kernel) (by decide +kernel)
set_option maxRecDepth 20000 in
theorem gL_law_X8_waits : GoodIn wsL_law (wsV RL 86 RX8 yX8_waits wsX8_waits) := goodIn_app (goodIn_of _ (by decide +kernel)) ggL_law_X8_waits
set_option maxRecDepth 20000 in
theorem ggL_law_X7_bestRule : GoodIn wsL_law wsX7_bestRule := goodIn_r _ [651, 88, 31, 16, 89, 90, 2, 91, 580, 581, 582, 30, 583, 584, 585, 156, 157, 158, 586, 62, 63, 587, 402, 403, 404, 405, 406, 407, 408, 409, 410, 411, 368, 369, 15, 370, 200, 201, 202, 203, 39, 412, 121, 122, 123, 124, 125, 126, 413, 414, 415, 416, 417, 418, 419, 588, 652, 653, 654, 655, 656, 657, 658, 659, 66, 615, 616, 617, 660, 590, 591, 592, 64, 65, 593, 594, 42, 43, 44, 595, 596, 597, 598, 599, 600, 601, 602, 603, 604, 605, 606, 607, 608, 609, 610, 611, 612, 613, 614, 721, 722, 723, 724, 725, 726, 727, 728, 729, 747, 748, 749, 750, 751, 752, 753, 754, 763, 764, 765, 766, 767, 768, 769] (by decide +kernel) (by decide +kernel)
set_option maxRecDepth 20000 in
theorem gL_law_X7_bestRule : GoodIn wsL_law (wsV RL 87 RX7 yX7_bestRule wsX7_bestRule) := goodIn_app (goodIn_of _ (by decide +kernel)) ggL_law_X7_bestRule
set_option maxRecDepth 20000 in
theorem ggL_law_X8_bestRule : GoodIn wsL_law wsX8_bestRule := goodIn_r _ [664, 101, 647, 103, 71, 104, 105, 5, 106, 665, 666, 667, 668, 83, 623, 624, 625, 626, 81, 82, 80, 627, 628, 629, 630, 296, 297, 298, 299, 300, 301, 302, 438, 439, 440, 441, 442, 443, 444, 445, 446, 447, 448, 449, 631, 632, 633, 634, 730, 731, 732, 733, 734, 735, 736, 737, 738, 739, 740, 741, 742, 743, 744, 745, 746] (by decide +kernel) (by decide +kernel)
set_option maxRecDepth 20000 in
theorem gL_law_X8_bestRule : GoodIn wsL_law (wsV RL 90 RX8 yX8_bestRule wsX8_bestRule) := goodIn_app (goodIn_of _ (by decide +kernel)) ggL_law_X8_bestRule
set_option maxRecDepth 20000 in
theorem ggL_law_X7_write : GoodIn wsL_law wsX7_write := goodIn_r _ [672, 16, 389, 88, 27, 355, 673, 399, 235, 236, 15, 237, 163, 90, 2, 91, 463, 464, 465, 89, 674, 675, 676, 26, 677, 361, 55, 56, 57, 58, 721, 722, 723, 724, 725, 726, 727, 728, 729, 758, 759, 760, 761, 762, 747, 748, 749, 750, 751, 752, 753, 754] (by decide +kernel) (by decide +kernel)
set_option maxRecDepth 20000 in
theorem gL_law_X7_write : GoodIn wsL_law (wsV RL 91 RX7 yX7_write wsX7_write) := goodIn_app (goodIn_of _ (by decide +kernel)) ggL_law_X7_write
set_option maxRecDepth 20000 in
theorem ggL_law_X8_write : GoodIn wsL_law wsX8_write := goodIn_r _ [681, 101, 394, 471, 274, 454, 103, 375, 682, 79, 380, 381, 382, 5, 383, 71, 104, 105, 106, 730, 731, 732, 733, 734, 735, 736, 737, 738, 739, 740, 741, 742, 743, 744, 745, 746] (by decide +kernel) (by decide +kernel)
set_option maxRecDepth 20000 in
theorem gL_law_X8_write : GoodIn wsL_law (wsV RL 95 RX8 yX8_write wsX8_write) := goodIn_app (goodIn_of _ (by decide +kernel)) ggL_law_X8_write
set_option maxRecDepth 20000 in
theorem ggL_law_X7_tear : GoodIn wsL_law wsX7_tear := goodIn_r _ [686, 27, 355, 721, 722, 723, 724, 725, 726, 727, 728, 729, 758, 759, 760, 761, 762] (by decide +kernel) (by decide +kernel)
set_option maxRecDepth 20000 in
theorem gL_law_X7_tear : GoodIn wsL_law (wsV RL 96 RX7 yX7_tear wsX7_tear) := goodIn_app (goodIn_of _ (by decide +kernel)) ggL_law_X7_tear
set_option maxRecDepth 20000 in
theorem ggL_law_X8_tear : GoodIn wsL_law wsX8_tear := goodIn_r _ [690, 101, 375, 730, 731, 732, 733, 734, 735, 736, 737, 738, 739, 740, 741, 742, 743, 744, 745, 746] (by decide +kernel) (by decide +kernel)
set_option maxRecDepth 20000 in
theorem gL_law_X8_tear : GoodIn wsL_law (wsV RL 100 RX8 yX8_tear wsX8_tear) := goodIn_app (goodIn_of _ (by decide +kernel)) ggL_law_X8_tear
set_option maxRecDepth 20000 in
theorem ggL_law_X7_seed : GoodIn wsL_law wsX7_seed := goodIn_r _ [694, 88, 16, 695, 721, 722, 723, 724, 725, 726, 727, 728, 729, 747, 748, 749, 750, 751, 752, 753, 754] (by decide +kernel) (by decide +kernel)
set_option maxRecDepth 20000 in
theorem gL_law_X7_seed : GoodIn wsL_law (wsV RL 101 RX7 yX7_seed wsX7_seed) := goodIn_app (goodIn_of _ (by decide +kernel)) ggL_law_X7_seed
set_option maxRecDepth 20000 in
theorem ggL_law_X8_seed : GoodIn wsL_law wsX8_seed := goodIn_r _ [699, 101, 103, 556, 730, 731, 732, 733, 734, 735, 736, 737, 738, 739, 740, 741, 742, 743, 744, 745, 746] (by decide +kernel) (by decide +kernel)
set_option maxRecDepth 20000 in
theorem gL_law_X8_seed : GoodIn wsL_law (wsV RL 104 RX8 yX8_seed wsX8_seed) := goodIn_app (goodIn_of _ (by decide +kernel)) ggL_law_X8_seed
set_option maxRecDepth 20000 in
theorem ggL_law_X7_keep : GoodIn wsL_law wsX7_keep := goodIn_r _ [703, 389, 21, 16, 695, 23, 20, 89, 90, 2, 91, 704, 160, 161, 15, 162, 39, 163, 164, 165, 166, 167, 40, 168, 169, 170, 171, 705, 706, 707, 19, 708, 154, 721, 722, 723, 724, 725, 726, 727, 728, 729, 747, 748, 749, 750, 751, 752, 753, 754, 755, 756, 757] (by decide +kernel) (by decide +kernel)
set_option maxRecDepth 20000 in
theorem gL_law_X7_keep : GoodIn wsL_law (wsV RL 105 RX7 yX7_keep wsX7_keep) := goodIn_app (goodIn_of _ (by decide +kernel)) ggL_law_X7_keep
set_option maxRecDepth 20000 in
theorem ggL_law_X8_keep : GoodIn wsL_law wsX8_keep := goodIn_r _ [712, 101, 394, 75, 71, 77, 556, 78, 268, 104, 105, 5, 106, 730, 731, 732, 733, 734, 735, 736, 737, 738, 739, 740, 741, 742, 743, 744, 745, 746] (by decide +kernel) (by decide +kernel)
set_option maxRecDepth 20000 in
theorem gL_law_X8_keep : GoodIn wsL_law (wsV RL 108 RX8 yX8_keep wsX8_keep) := goodIn_app (goodIn_of _ (by decide +kernel)) ggL_law_X8_keep
set_option maxRecDepth 20000 in
theorem ggL_law_X7_goBack : GoodIn wsL_law wsX7_goBack := goodIn_r _ [716, 389, 23, 565, 16, 21, 695, 20, 89, 90, 2, 91, 704, 160, 161, 15, 162, 39, 163, 164, 165, 166, 167, 40, 168, 169, 170, 171, 705, 706, 707, 19, 708, 154, 721, 722, 723, 724, 725, 726, 727, 728, 729, 747, 748, 749, 750, 751, 752, 753, 754, 755, 756, 757] (by decide +kernel) (by decide +kernel)
set_option maxRecDepth 20000 in
theorem gL_law_X7_goBack : GoodIn wsL_law (wsV RL 109 RX7 yX7_goBack wsX7_goBack) := goodIn_app (goodIn_of _ (by decide +kernel)) ggL_law_X7_goBack
set_option maxRecDepth 20000 in
theorem ggL_law_X8_goBack : GoodIn wsL_law wsX8_goBack := goodIn_r _ [720, 101, 394, 78, 575, 71, 75, 77, 556, 268, 104, 105, 5, 106, 730, 731, 732, 733, 734, 735, 736, 737, 738, 739, 740, 741, 742, 743, 744, 745, 746] (by decide +kernel) (by decide +kernel)
set_option maxRecDepth 20000 in
theorem gL_law_X8_goBack : GoodIn wsL_law (wsV RL 112 RX8 yX8_goBack wsX8_goBack) := goodIn_app (goodIn_of _ (by decide +kernel)) ggL_law_X8_goBack
