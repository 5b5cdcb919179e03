/-! THE WORDS OF WHAT THE LAW CALLS, on. -/
set_option maxRecDepth 20000 in
theorem ggL_law_X7_weight : GoodIn wsL_law wsX7_weight := goodIn_r _ [508, 16, 389, 88, 20, 399, 235, 236, 15, 237, 163, 90, 2, 91, 89, 149, 150, 151, 19, 152, 50, 153, 154, 155, 156, 157, 158, 159, 160, 161, 162, 39, 164, 165, 166, 167, 40, 168, 169, 170, 171, 400, 201, 202, 203, 509, 217, 218, 219, 716, 717, 718, 719, 720, 721, 722, 723, 724, 742, 743, 744, 745, 746, 747, 748, 749, 750, 751, 752] (by decide +kernel) (by decide +kernel)
set_option maxRecDepth 20000 in
theorem gL_law_X7_weight : GoodIn wsL_law (wsV RL 63 RX7 yX7_weight wsX7_weight) := goodIn_app (goodIn_of _ (by decide +kernel)) ggL_law_X7_weight
set_option maxRecDepth 20000 in
theorem ggL_law_X8_weight : GoodIn wsL_law wsX8_weight := goodIn_r _ [513, 101, 394, 291, 103, 71, 380, 381, 382, 5, 383, 104, 105, 106, 264, 265, 266, 267, 268, 74, 296, 297, 298, 299, 300, 301, 302, 725, 726, 727, 728, 729, 730, 731, 732, 733, 734, 735, 736, 737, 738, 739, 740, 741] (by decide +kernel) (by decide +kernel)
set_option maxRecDepth 20000 in
theorem gL_law_X8_weight : GoodIn wsL_law (wsV RL 66 RX8 yX8_weight wsX8_weight) := goodIn_app (goodIn_of _ (by decide +kernel)) ggL_law_X8_weight
set_option maxRecDepth 20000 in
theorem ggL_law_X7_drop : GoodIn wsL_law wsX7_drop := goodIn_r _ [517, 16, 389, 20, 353, 399, 235, 236, 15, 237, 163, 90, 2, 91, 149, 150, 151, 19, 152, 50, 153, 154, 155, 156, 157, 158, 159, 160, 161, 162, 39, 164, 165, 166, 167, 40, 168, 169, 170, 171, 518, 209, 210, 211, 716, 717, 718, 719, 720, 721, 722, 723, 724, 742, 743, 744, 745, 746, 747, 748, 749, 750, 751, 752] (by decide +kernel) (by decide +kernel)
set_option maxRecDepth 20000 in
theorem gL_law_X7_drop : GoodIn wsL_law (wsV RL 67 RX7 yX7_drop wsX7_drop) := goodIn_app (goodIn_of _ (by decide +kernel)) ggL_law_X7_drop
set_option maxRecDepth 20000 in
theorem ggL_law_X8_drop : GoodIn wsL_law wsX8_drop := goodIn_r _ [522, 101, 394, 71, 380, 381, 382, 5, 383, 104, 105, 106, 264, 265, 266, 267, 268, 74, 311, 312, 313, 314, 300, 301, 302, 725, 726, 727, 728, 729, 730, 731, 732, 733, 734, 735, 736, 737, 738, 739, 740, 741] (by decide +kernel) (by decide +kernel)
set_option maxRecDepth 20000 in
theorem gL_law_X8_drop : GoodIn wsL_law (wsV RL 70 RX8 yX8_drop wsX8_drop) := goodIn_app (goodIn_of _ (by decide +kernel)) ggL_law_X8_drop
set_option maxRecDepth 20000 in
theorem ggL_law_X7_drift : GoodIn wsL_law wsX7_drift := goodIn_r _ [526, 88, 34, 16, 353, 89, 90, 2, 91, 527, 528, 529, 530, 531, 532, 533, 15, 534, 535, 536, 537, 538, 539, 92, 93, 94, 95, 96, 331, 332, 333, 334, 335, 336, 337, 250, 251, 120, 121, 122, 123, 124, 125, 126, 143, 144, 145, 146, 20, 147, 148, 149, 150, 151, 19, 152, 50, 153, 154, 155, 156, 157, 158, 159, 160, 161, 162, 39, 163, 164, 165, 166, 167, 40, 168, 169, 170, 171, 172, 173, 174, 175, 176, 177, 178, 179, 180, 181, 182, 118, 119, 183, 184, 185, 186, 187, 188, 189, 190, 191, 192, 193, 194, 195, 196, 197, 198, 199, 200, 201, 202, 203, 204, 205, 206, 207, 208, 209, 210, 211, 212, 213, 214, 215, 216, 217, 218, 219, 220, 221, 222, 223, 224, 225, 43, 226, 227, 228, 229, 230, 231, 232, 233, 234, 235, 236, 237, 238, 239, 240, 241, 242, 243, 244, 245, 246, 247, 248, 249, 252, 253, 254, 716, 717, 718, 719, 720, 721, 722, 723, 724, 742, 743, 744, 745, 746, 747, 748, 749, 750, 751, 752] (by decide +kernel) (by decide +kernel)
set_option maxRecDepth 20000 in
theorem gL_law_X7_drift : GoodIn wsL_law (wsV RL 71 RX7 yX7_drift wsX7_drift) := goodIn_app (goodIn_of _ (by decide +kernel)) ggL_law_X7_drift
set_option maxRecDepth 20000 in
theorem ggL_law_X8_drift : GoodIn wsL_law wsX8_drift := goodIn_r _ [543, 101, 342, 103, 71, 104, 105, 5, 106, 544, 545, 546, 547, 72, 548, 549, 550, 551, 552, 553, 554, 555, 556, 107, 108, 109, 110, 111, 112, 343, 344, 345, 346, 347, 348, 135, 136, 137, 260, 261, 262, 263, 264, 265, 266, 267, 268, 74, 269, 270, 271, 272, 273, 274, 275, 276, 277, 278, 279, 280, 281, 282, 132, 133, 134, 283, 284, 285, 286, 287, 288, 289, 290, 291, 292, 293, 294, 295, 296, 297, 298, 299, 300, 301, 302, 303, 304, 305, 306, 307, 308, 309, 310, 311, 312, 313, 314, 315, 316, 317, 318, 319, 320, 321, 322, 323, 324, 325, 326, 725, 726, 727, 728, 729, 730, 731, 732, 733, 734, 735, 736, 737, 738, 739, 740, 741] (by decide +kernel) (by decide +kernel)
set_option maxRecDepth 20000 in
theorem gL_law_X8_drift : GoodIn wsL_law (wsV RL 74 RX8 yX8_drift wsX8_drift) := goodIn_app (goodIn_of _ (by decide +kernel)) ggL_law_X8_drift
set_option maxRecDepth 20000 in
theorem ggL_law_X7_undo : GoodIn wsL_law wsX7_undo := goodIn_r _ [560, 88, 20, 356, 561, 16, 147, 89, 90, 2, 91, 562, 563, 564, 19, 565, 153, 154, 50, 566, 567, 568, 569, 159, 160, 161, 15, 162, 39, 163, 164, 165, 166, 167, 40, 168, 169, 170, 171, 716, 717, 718, 719, 720, 721, 722, 723, 724, 750, 751, 752, 742, 743, 744, 745, 746, 747, 748, 749] (by decide +kernel) (by decide +kernel)
set_option maxRecDepth 20000 in
theorem gL_law_X7_undo : GoodIn wsL_law (wsV RL 75 RX7 yX7_undo wsX7_undo) := goodIn_app (goodIn_of _ (by decide +kernel)) ggL_law_X7_undo
set_option maxRecDepth 20000 in
theorem ggL_law_X8_undo : GoodIn wsL_law wsX8_undo := goodIn_r _ [573, 101, 342, 103, 268, 574, 71, 74, 104, 105, 5, 106, 725, 726, 727, 728, 729, 730, 731, 732, 733, 734, 735, 736, 737, 738, 739, 740, 741] (by decide +kernel) (by decide +kernel)
set_option maxRecDepth 20000 in
theorem gL_law_X8_undo : GoodIn wsL_law (wsV RL 78 RX8 yX8_undo wsX8_undo) := goodIn_app (goodIn_of _ (by decide +kernel)) ggL_law_X8_undo
set_option maxRecDepth 20000 in
theorem ggL_law_X7_sent : GoodIn wsL_law wsX7_sent := goodIn_r _ [578, 88, 31, 16, 89, 90, 2, 91, 579, 580, 581, 30, 582, 583, 584, 62, 63, 585, 402, 403, 404, 405, 406, 407, 408, 409, 410, 411, 368, 369, 15, 370, 200, 201, 202, 203, 39, 412, 121, 122, 123, 124, 125, 126, 413, 414, 415, 416, 417, 418, 419, 586, 587, 588, 589, 590, 64, 65, 66, 591, 592, 42, 43, 44, 593, 594, 595, 596, 597, 598, 599, 600, 601, 602, 603, 604, 605, 606, 607, 608, 609, 610, 611, 612, 613, 614, 157, 615, 716, 717, 718, 719, 720, 721, 722, 723, 724, 742, 743, 744, 745, 746, 747, 748, 749, 758, 759, 760, 761, 762, 763, 764] (by decide +kernel) (by decide +kernel)
set_option maxRecDepth 20000 in
theorem gL_law_X7_sent : GoodIn wsL_law (wsV RL 79 RX7 yX7_sent wsX7_sent) := goodIn_app (goodIn_of _ (by decide +kernel)) ggL_law_X7_sent
set_option maxRecDepth 20000 in
theorem ggL_law_X8_sent : GoodIn wsL_law wsX8_sent := goodIn_r _ [619, 101, 273, 620, 103, 71, 80, 104, 105, 5, 106, 621, 622, 623, 624, 81, 82, 83, 625, 626, 627, 628, 296, 297, 298, 299, 300, 301, 302, 438, 439, 440, 441, 442, 443, 444, 445, 446, 447, 448, 449, 629, 630, 631, 632, 725, 726, 727, 728, 729, 730, 731, 732, 733, 734, 735, 736, 737, 738, 739, 740, 741] (by decide +kernel) (by decide +kernel)
set_option maxRecDepth 20000 in
theorem gL_law_X8_sent : GoodIn wsL_law (wsV RL 82 RX8 yX8_sent wsX8_sent) := goodIn_app (goodIn_of _ (by decide +kernel)) ggL_law_X8_sent
set_option maxRecDepth 20000 in
theorem ggL_law_X7_waits : GoodIn wsL_law wsX7_waits := goodIn_r _ [636, 16, 389, 88, 31, 637, 399, 235, 236, 15, 237, 163, 90, 2, 91, 89, 579, 580, 581, 30, 582, 583, 584, 62, 63, 585, 402, 403, 404, 405, 406, 407, 408, 409, 410, 411, 368, 369, 370, 200, 201, 202, 203, 39, 412, 121, 122, 123, 124, 125, 126, 413, 414, 415, 416, 417, 418, 419, 586, 587, 588, 589, 590, 64, 65, 66, 591, 592, 42, 43, 44, 593, 594, 595, 596, 597, 598, 599, 600, 601, 602, 603, 604, 605, 606, 607, 608, 609, 610, 611, 612, 613, 614, 157, 615, 716, 717, 718, 719, 720, 721, 722, 723, 724, 758, 759, 760, 761, 762, 763, 764, 742, 743, 744, 745, 746, 747, 748, 749] (by decide +kernel) (by decide +kernel)
set_option maxRecDepth 20000 in
theorem gL_law_X7_waits : GoodIn wsL_law (wsV RL 83 RX7 yX7_waits wsX7_waits) := goodIn_app (goodIn_of _ (by decide +kernel)) ggL_law_X7_waits
set_option maxRecDepth 20000 in
theorem ggL_law_X8_waits : GoodIn wsL_law wsX8_waits := goodIn_r _ [641, 101, 394, 273, 642, 103, 83, 380, 381, 382, 5, 383, 71, 104, 105, 106, 621, 622, 623, 624, 81, 82, 80, 625, 626, 627, 628, 296, 297, 298, 299, 300, 301, 302, 438, 439, 440, 441, 442, 443, 444, 445, 446, 447, 448, 449, 629, 630, 631, 632, 725, 726, 727, 728, 729, 730, 731, 732, 733, 734, 735, 736, 737, 738, 739, 740, 741] (by decide +kernel) (by decide +kernel)
set_option maxRecDepth 20000 in
theorem gL_law_X8_waits : GoodIn wsL_law (wsV RL 86 RX8 yX8_waits wsX8_waits) := goodIn_app (goodIn_of _ (by decide +kernel)) ggL_law_X8_waits
set_option maxRecDepth 20000 in
theorem ggL_law_X7_bestRule : GoodIn wsL_law wsX7_bestRule := goodIn_r _ [646, 88, 31, 16, 89, 90, 2, 91, 579, 580, 581, 30, 582, 583, 584, 62, 63, 585, 402, 403, 404, 405, 406, 407, 408, 409, 410, 411, 368, 369, 15, 370, 200, 201, 202, 203, 39, 412, 121, 122, 123, 124, 125, 126, 413, 414, 415, 416, 417, 418, 419, 586, 647, 648, 649, 650, 651, 652, 653, 654, 66, 613, 614, 157, 615, 655, 588, 589, 590, 64, 65, 591, 592, 42, 43, 44, 593, 594, 595, 596, 597, 598, 599, 600, 601, 602, 603, 604, 605, 606, 607, 608, 609, 610, 611, 612, 716, 717, 718, 719, 720, 721, 722, 723, 724, 742, 743, 744, 745, 746, 747, 748, 749, 758, 759, 760, 761, 762, 763, 764] (by decide +kernel) (by decide +kernel)
set_option maxRecDepth 20000 in
theorem gL_law_X7_bestRule : GoodIn wsL_law (wsV RL 87 RX7 yX7_bestRule wsX7_bestRule) := goodIn_app (goodIn_of _ (by decide +kernel)) ggL_law_X7_bestRule
set_option maxRecDepth 20000 in
theorem ggL_law_X8_bestRule : GoodIn wsL_law wsX8_bestRule := goodIn_r _ [659, 101, 642, 103, 71, 104, 105, 5, 106, 660, 661, 662, 663, 83, 621, 622, 623, 624, 81, 82, 80, 625, 626, 627, 628, 296, 297, 298, 299, 300, 301, 302, 438, 439, 440, 441, 442, 443, 444, 445, 446, 447, 448, 449, 629, 630, 631, 632, 725, 726, 727, 728, 729, 730, 731, 732, 733, 734, 735, 736, 737, 738, 739, 740, 741] (by decide +kernel) (by decide +kernel)
set_option maxRecDepth 20000 in
theorem gL_law_X8_bestRule : GoodIn wsL_law (wsV RL 90 RX8 yX8_bestRule wsX8_bestRule) := goodIn_app (goodIn_of _ (by decide +kernel)) ggL_law_X8_bestRule
set_option maxRecDepth 20000 in
theorem ggL_law_X7_write : GoodIn wsL_law wsX7_write := goodIn_r _ [667, 16, 389, 88, 27, 355, 668, 399, 235, 236, 15, 237, 163, 90, 2, 91, 463, 464, 465, 89, 669, 670, 671, 26, 672, 361, 55, 56, 57, 58, 716, 717, 718, 719, 720, 721, 722, 723, 724, 753, 754, 755, 756, 757, 742, 743, 744, 745, 746, 747, 748, 749] (by decide +kernel) (by decide +kernel)
set_option maxRecDepth 20000 in
theorem gL_law_X7_write : GoodIn wsL_law (wsV RL 91 RX7 yX7_write wsX7_write) := goodIn_app (goodIn_of _ (by decide +kernel)) ggL_law_X7_write
set_option maxRecDepth 20000 in
theorem ggL_law_X8_write : GoodIn wsL_law wsX8_write := goodIn_r _ [676, 101, 394, 471, 274, 454, 103, 375, 677, 79, 380, 381, 382, 5, 383, 71, 104, 105, 106, 725, 726, 727, 728, 729, 730, 731, 732, 733, 734, 735, 736, 737, 738, 739, 740, 741] (by decide +kernel) (by decide +kernel)
set_option maxRecDepth 20000 in
theorem gL_law_X8_write : GoodIn wsL_law (wsV RL 95 RX8 yX8_write wsX8_write) := goodIn_app (goodIn_of _ (by decide +kernel)) ggL_law_X8_write
set_option maxRecDepth 20000 in
theorem ggL_law_X7_tear : GoodIn wsL_law wsX7_tear := goodIn_r _ [681, 27, 355, 716, 717, 718, 719, 720, 721, 722, 723, 724, 753, 754, 755, 756, 757] (by decide +kernel) (by decide +kernel)
set_option maxRecDepth 20000 in
theorem gL_law_X7_tear : GoodIn wsL_law (wsV RL 96 RX7 yX7_tear wsX7_tear) := goodIn_app (goodIn_of _ (by decide +kernel)) ggL_law_X7_tear
set_option maxRecDepth 20000 in
theorem ggL_law_X8_tear : GoodIn wsL_law wsX8_tear := goodIn_r _ [685, 101, 375, 725, 726, 727, 728, 729, 730, 731, 732, 733, 734, 735, 736, 737, 738, 739, 740, 741] (by decide +kernel) (by decide +kernel)
set_option maxRecDepth 20000 in
theorem gL_law_X8_tear : GoodIn wsL_law (wsV RL 100 RX8 yX8_tear wsX8_tear) := goodIn_app (goodIn_of _ (by decide +kernel)) ggL_law_X8_tear
set_option maxRecDepth 20000 in
theorem ggL_law_X7_seed : GoodIn wsL_law wsX7_seed := goodIn_r _ [689, 88, 16, 690, 716, 717, 718, 719, 720, 721, 722, 723, 724, 742, 743, 744, 745, 746, 747, 748, 749] (by decide +kernel) (by decide +kernel)
set_option maxRecDepth 20000 in
theorem gL_law_X7_seed : GoodIn wsL_law (wsV RL 101 RX7 yX7_seed wsX7_seed) := goodIn_app (goodIn_of _ (by decide +kernel)) ggL_law_X7_seed
set_option maxRecDepth 20000 in
theorem ggL_law_X8_seed : GoodIn wsL_law wsX8_seed := goodIn_r _ [694, 101, 103, 552, 725, 726, 727, 728, 729, 730, 731, 732, 733, 734, 735, 736, 737, 738, 739, 740, 741] (by decide +kernel) (by decide +kernel)
set_option maxRecDepth 20000 in
theorem gL_law_X8_seed : GoodIn wsL_law (wsV RL 104 RX8 yX8_seed wsX8_seed) := goodIn_app (goodIn_of _ (by decide +kernel)) ggL_law_X8_seed
set_option maxRecDepth 20000 in
theorem ggL_law_X7_keep : GoodIn wsL_law wsX7_keep := goodIn_r _ [698, 389, 21, 16, 690, 23, 20, 89, 90, 2, 91, 699, 160, 161, 15, 162, 39, 163, 164, 165, 166, 167, 40, 168, 169, 170, 171, 700, 701, 702, 19, 703, 154, 716, 717, 718, 719, 720, 721, 722, 723, 724, 742, 743, 744, 745, 746, 747, 748, 749, 750, 751, 752] (by decide +kernel) (by decide +kernel)
set_option maxRecDepth 20000 in
theorem gL_law_X7_keep : GoodIn wsL_law (wsV RL 105 RX7 yX7_keep wsX7_keep) := goodIn_app (goodIn_of _ (by decide +kernel)) ggL_law_X7_keep
set_option maxRecDepth 20000 in
theorem ggL_law_X8_keep : GoodIn wsL_law wsX8_keep := goodIn_r _ [707, 101, 394, 75, 71, 77, 552, 78, 268, 104, 105, 5, 106, 725, 726, 727, 728, 729, 730, 731, 732, 733, 734, 735, 736, 737, 738, 739, 740, 741] (by decide +kernel) (by decide +kernel)
set_option maxRecDepth 20000 in
theorem gL_law_X8_keep : GoodIn wsL_law (wsV RL 108 RX8 yX8_keep wsX8_keep) := goodIn_app (goodIn_of _ (by decide +kernel)) ggL_law_X8_keep
set_option maxRecDepth 20000 in
theorem ggL_law_X7_goBack : GoodIn wsL_law wsX7_goBack := goodIn_r _ [711, 389, 23, 561, 16, 21, 690, 20, 89, 90, 2, 91, 699, 160, 161, 15, 162, 39, 163, 164, 165, 166, 167, 40, 168, 169, 170, 171, 700, 701, 702, 19, 703, 154, 716, 717, 718, 719, 720, 721, 722, 723, 724, 742, 743, 744, 745, 746, 747, 748, 749, 750, 751, 752] (by decide +kernel) (by decide +kernel)
set_option maxRecDepth 20000 in
theorem gL_law_X7_goBack : GoodIn wsL_law (wsV RL 109 RX7 yX7_goBack wsX7_goBack) := goodIn_app (goodIn_of _ (by decide +kernel)) ggL_law_X7_goBack
set_option maxRecDepth 20000 in
theorem ggL_law_X8_goBack : GoodIn wsL_law wsX8_goBack := goodIn_r _ [715, 101, 394, 78, 574, 71, 75, 77, 552, 268, 104, 105, 5, 106, 725, 726, 727, 728, 729, 730, 731, 732, 733, 734, 735, 736, 737, 738, 739, 740, 741] (by decide +kernel) (by decide +kernel)
set_option maxRecDepth 20000 in
theorem gL_law_X8_goBack : GoodIn wsL_law (wsV RL 112 RX8 yX8_goBack wsX8_goBack) := goodIn_app (goodIn_of _ (by decide +kernel)) ggL_law_X8_goBack
