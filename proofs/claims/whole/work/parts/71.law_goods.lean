/-! THE WORDS OF WHAT THE LAW CALLS. -/
set_option maxRecDepth 20000 in
theorem ggL_law_X7_init : GoodIn wsL_law wsX7_init := goodIn_r _ [9, 10, 11, 12, 13, 14, 15, 16, 17, 18, 19, 20, 21, 22, 23, 24, 25, 26, 27, 28, 29, 30, 31, 32, 33, 34, 35, 36, 37, 38, 39, 40, 41, 42, 43, 44, 45, 46, 47, 48, 49, 50, 51, 52, 53, 54, 55, 56, 57, 58, 59, 60, 61, 62, 63, 64, 65, 66, 747, 748, 749, 750, 751, 752, 753, 754, 721, 722, 723, 724, 725, 726, 727, 728, 729, 755, 756, 757, 758, 759, 760, 761, 762, 763, 764, 765, 766, 767, 768, 769] (by decide +kernel) (by decide +kernel)
set_option maxRecDepth 20000 in
theorem gL_law_X7_init : GoodIn wsL_law (wsX7_init) := ggL_law_X7_init
set_option maxRecDepth 20000 in
theorem ggL_law_X8_init : GoodIn wsL_law wsX8_init := goodIn_r _ [69, 70, 11, 12, 32, 71, 72, 73, 74, 75, 76, 77, 22, 78, 79, 80, 81, 82, 83, 730, 731, 732, 733, 734, 735, 736, 737, 738, 739, 740, 741, 742, 743, 744, 745, 746] (by decide +kernel) (by decide +kernel)
set_option maxRecDepth 20000 in
theorem gL_law_X8_init : GoodIn wsL_law (wsX8_init) := ggL_law_X8_init
set_option maxRecDepth 20000 in
theorem ggL_law_X7_coded : GoodIn wsL_law wsX7_coded := goodIn_r _ [87, 88, 89, 90, 2, 91, 92, 93, 94, 95, 96] (by decide +kernel) (by decide +kernel)
set_option maxRecDepth 20000 in
theorem gL_law_X7_coded : GoodIn wsL_law (wsV RL 13 RX7 yX7_coded wsX7_coded) := goodIn_app (goodIn_of _ (by decide +kernel)) ggL_law_X7_coded
set_option maxRecDepth 20000 in
theorem ggL_law_X8_coded : GoodIn wsL_law wsX8_coded := goodIn_r _ [100, 101, 102, 103, 104, 105, 5, 106, 107, 108, 109, 110, 111, 112, 730, 731, 732, 733, 734, 735, 736, 737, 738, 739, 740, 741, 742, 743, 744, 745, 746] (by decide +kernel) (by decide +kernel)
set_option maxRecDepth 20000 in
theorem gL_law_X8_coded : GoodIn wsL_law (wsV RL 17 RX8 yX8_coded wsX8_coded) := goodIn_app (goodIn_of _ (by decide +kernel)) ggL_law_X8_coded
set_option maxRecDepth 20000 in
theorem ggL_law_X7_read : GoodIn wsL_law wsX7_read := goodIn_r _ [116, 88, 89, 90, 2, 91, 117, 118, 94, 119, 96, 120, 121, 122, 123, 124, 125, 126] (by decide +kernel) (by decide +kernel)
set_option maxRecDepth 20000 in
theorem gL_law_X7_read : GoodIn wsL_law (wsV RL 18 RX7 yX7_read wsX7_read) := goodIn_app (goodIn_of _ (by decide +kernel)) ggL_law_X7_read
set_option maxRecDepth 20000 in
theorem ggL_law_X8_read : GoodIn wsL_law wsX8_read := goodIn_r _ [130, 101, 131, 103, 104, 105, 5, 106, 132, 133, 134, 107, 108, 109, 110, 111, 112, 135, 136, 137, 730, 731, 732, 733, 734, 735, 736, 737, 738, 739, 740, 741, 742, 743, 744, 745, 746] (by decide +kernel) (by decide +kernel)
set_option maxRecDepth 20000 in
theorem gL_law_X8_read : GoodIn wsL_law (wsV RL 21 RX8 yX8_read wsX8_read) := goodIn_app (goodIn_of _ (by decide +kernel)) ggL_law_X8_read
set_option maxRecDepth 20000 in
theorem ggL_law_X7_octet : GoodIn wsL_law wsX7_octet := goodIn_r _ [141, 142, 88, 33, 89, 90, 2, 91, 143, 144, 145, 146, 20, 16, 147, 148, 149, 150, 151, 19, 152, 50, 153, 154, 155, 156, 157, 158, 159, 160, 161, 15, 162, 39, 163, 164, 165, 166, 167, 40, 168, 169, 170, 171, 172, 173, 174, 175, 176, 177, 178, 179, 180, 181, 182, 118, 94, 119, 96, 120, 121, 122, 123, 124, 125, 126, 183, 93, 95, 184, 185, 186, 187, 188, 189, 190, 191, 192, 193, 194, 195, 196, 197, 198, 199, 200, 201, 202, 203, 204, 205, 206, 207, 208, 209, 210, 211, 212, 213, 214, 215, 216, 217, 218, 219, 220, 221, 222, 223, 224, 225, 43, 226, 227, 228, 229, 230, 231, 232, 233, 234, 235, 236, 237, 238, 239, 240, 241, 242, 243, 244, 245, 246, 247, 248, 249, 250, 251, 252, 253, 254, 721, 722, 723, 724, 725, 726, 727, 728, 729, 747, 748, 749, 750, 751, 752, 753, 754, 755, 756, 757] (by decide +kernel) (by decide +kernel)
set_option maxRecDepth 20000 in
theorem gL_law_X7_octet : GoodIn wsL_law (wsV RL 22 RX7 yX7_octet wsX7_octet) := goodIn_app (goodIn_of _ (by decide +kernel)) ggL_law_X7_octet
set_option maxRecDepth 20000 in
theorem ggL_law_X8_octet : GoodIn wsL_law wsX8_octet := goodIn_r _ [258, 101, 131, 103, 73, 259, 72, 104, 105, 5, 106, 260, 261, 262, 263, 71, 264, 265, 266, 267, 268, 74, 269, 270, 271, 272, 273, 274, 275, 276, 277, 278, 279, 280, 281, 282, 132, 133, 134, 107, 108, 109, 110, 111, 112, 135, 136, 137, 283, 284, 285, 286, 287, 288, 289, 290, 291, 292, 293, 294, 295, 296, 297, 298, 299, 300, 301, 302, 303, 304, 305, 306, 307, 308, 309, 310, 311, 312, 313, 314, 315, 316, 317, 318, 319, 320, 321, 322, 323, 324, 325, 326, 730, 731, 732, 733, 734, 735, 736, 737, 738, 739, 740, 741, 742, 743, 744, 745, 746] (by decide +kernel) (by decide +kernel)
set_option maxRecDepth 20000 in
theorem gL_law_X8_octet : GoodIn wsL_law (wsV RL 25 RX8 yX8_octet wsX8_octet) := goodIn_app (goodIn_of _ (by decide +kernel)) ggL_law_X8_octet
set_option maxRecDepth 20000 in
theorem ggL_law_X7_packet : GoodIn wsL_law wsX7_packet := goodIn_r _ [330, 88, 34, 89, 90, 2, 91, 92, 93, 94, 95, 96, 331, 332, 333, 334, 335, 336, 337, 250, 251, 120, 121, 122, 123, 124, 125, 126, 143, 144, 145, 146, 20, 16, 147, 148, 149, 150, 151, 19, 152, 50, 153, 154, 155, 156, 157, 158, 159, 160, 161, 15, 162, 39, 163, 164, 165, 166, 167, 40, 168, 169, 170, 171, 172, 173, 174, 175, 176, 177, 178, 179, 180, 181, 182, 118, 119, 183, 184, 185, 186, 187, 188, 189, 190, 191, 192, 193, 194, 195, 196, 197, 198, 199, 200, 201, 202, 203, 204, 205, 206, 207, 208, 209, 210, 211, 212, 213, 214, 215, 216, 217, 218, 219, 220, 221, 222, 223, 224, 225, 43, 226, 227, 228, 229, 230, 231, 232, 233, 234, 235, 236, 237, 238, 239, 240, 241, 242, 243, 244, 245, 246, 247, 248, 249, 252, 253, 254, 721, 722, 723, 724, 725, 726, 727, 728, 729, 747, 748, 749, 750, 751, 752, 753, 754, 755, 756, 757] (by decide +kernel) (by decide +kernel)
set_option maxRecDepth 20000 in
theorem gL_law_X7_packet : GoodIn wsL_law (wsV RL 28 RX7 yX7_packet wsX7_packet) := goodIn_app (goodIn_of _ (by decide +kernel)) ggL_law_X7_packet
set_option maxRecDepth 20000 in
theorem ggL_law_X8_packet : GoodIn wsL_law wsX8_packet := goodIn_r _ [341, 101, 273, 274, 103, 72, 342, 104, 105, 5, 106, 107, 108, 109, 110, 111, 112, 343, 344, 345, 346, 347, 348, 135, 136, 137, 260, 261, 262, 263, 71, 264, 265, 266, 267, 268, 74, 269, 270, 271, 272, 275, 276, 277, 278, 279, 280, 281, 282, 132, 133, 134, 283, 284, 285, 286, 287, 288, 289, 290, 291, 292, 293, 294, 295, 296, 297, 298, 299, 300, 301, 302, 303, 304, 305, 306, 307, 308, 309, 310, 311, 312, 313, 314, 315, 316, 317, 318, 319, 320, 321, 322, 323, 324, 325, 326, 730, 731, 732, 733, 734, 735, 736, 737, 738, 739, 740, 741, 742, 743, 744, 745, 746] (by decide +kernel) (by decide +kernel)
set_option maxRecDepth 20000 in
theorem gL_law_X8_packet : GoodIn wsL_law (wsV RL 32 RX8 yX8_packet wsX8_packet) := goodIn_app (goodIn_of _ (by decide +kernel)) ggL_law_X8_packet
set_option maxRecDepth 20000 in
theorem ggL_law_X7_told : GoodIn wsL_law wsX7_told := goodIn_r _ [352, 16, 353, 147, 148, 354, 142, 27, 355, 20, 356, 88, 357, 358, 359, 26, 360, 361, 362, 363, 364, 365, 55, 56, 57, 58, 366, 235, 236, 15, 237, 163, 90, 2, 91, 367, 368, 369, 370, 200, 201, 202, 203, 39, 721, 722, 723, 724, 725, 726, 727, 728, 729, 747, 748, 749, 750, 751, 752, 753, 754, 758, 759, 760, 761, 762, 755, 756, 757] (by decide +kernel) (by decide +kernel)
set_option maxRecDepth 20000 in
theorem gL_law_X7_told : GoodIn wsL_law (wsV RL 33 RX7 yX7_told wsX7_told) := goodIn_app (goodIn_of _ (by decide +kernel)) ggL_law_X7_told
set_option maxRecDepth 20000 in
theorem ggL_law_X8_told : GoodIn wsL_law wsX8_told := goodIn_r _ [374, 101, 274, 103, 71, 259, 375, 268, 104, 105, 5, 106, 376, 377, 378, 379, 79, 380, 381, 382, 383, 296, 297, 298, 299, 300, 301, 302, 730, 731, 732, 733, 734, 735, 736, 737, 738, 739, 740, 741, 742, 743, 744, 745, 746] (by decide +kernel) (by decide +kernel)
set_option maxRecDepth 20000 in
theorem gL_law_X8_told : GoodIn wsL_law (wsV RL 36 RX8 yX8_told wsX8_told) := goodIn_app (goodIn_of _ (by decide +kernel)) ggL_law_X8_told
set_option maxRecDepth 20000 in
theorem ggL_law_X7_open : GoodIn wsL_law wsX7_open := goodIn_r _ [387, 16, 388, 389, 89, 90, 2, 91, 721, 722, 723, 724, 725, 726, 727, 728, 729, 747, 748, 749, 750, 751, 752, 753, 754] (by decide +kernel) (by decide +kernel)
set_option maxRecDepth 20000 in
theorem gL_law_X7_open : GoodIn wsL_law (wsV RL 37 RX7 yX7_open wsX7_open) := goodIn_app (goodIn_of _ (by decide +kernel)) ggL_law_X7_open
set_option maxRecDepth 20000 in
theorem ggL_law_X8_open : GoodIn wsL_law wsX8_open := goodIn_r _ [393, 101, 273, 71, 394, 104, 105, 5, 106, 730, 731, 732, 733, 734, 735, 736, 737, 738, 739, 740, 741, 742, 743, 744, 745, 746] (by decide +kernel) (by decide +kernel)
set_option maxRecDepth 20000 in
theorem gL_law_X8_open : GoodIn wsL_law (wsV RL 40 RX8 yX8_open wsX8_open) := goodIn_app (goodIn_of _ (by decide +kernel)) ggL_law_X8_open
set_option maxRecDepth 20000 in
theorem ggL_law_X7_page : GoodIn wsL_law wsX7_page := goodIn_r _ [398, 16, 389, 88, 399, 235, 236, 15, 237, 163, 90, 2, 91, 400, 201, 202, 203, 39, 401, 402, 403, 404, 405, 406, 407, 408, 409, 410, 411, 368, 369, 370, 200, 412, 121, 122, 123, 124, 125, 126, 413, 414, 415, 416, 417, 418, 419, 420, 421, 422, 423, 424, 253, 254, 425, 426, 427, 428, 429, 430, 431, 432, 721, 722, 723, 724, 725, 726, 727, 728, 729, 747, 748, 749, 750, 751, 752, 753, 754] (by decide +kernel) (by decide +kernel)
set_option maxRecDepth 20000 in
theorem gL_law_X7_page : GoodIn wsL_law (wsV RL 41 RX7 yX7_page wsX7_page) := goodIn_app (goodIn_of _ (by decide +kernel)) ggL_law_X7_page
set_option maxRecDepth 20000 in
theorem ggL_law_X8_page : GoodIn wsL_law wsX8_page := goodIn_r _ [436, 101, 394, 437, 103, 380, 381, 382, 5, 383, 71, 104, 105, 106, 296, 297, 298, 299, 300, 301, 302, 438, 439, 440, 441, 442, 443, 444, 445, 446, 447, 448, 449, 450, 451, 452, 453, 454, 455, 456, 457, 458, 730, 731, 732, 733, 734, 735, 736, 737, 738, 739, 740, 741, 742, 743, 744, 745, 746] (by decide +kernel) (by decide +kernel)
set_option maxRecDepth 20000 in
theorem gL_law_X8_page : GoodIn wsL_law (wsV RL 45 RX8 yX8_page wsX8_page) := goodIn_app (goodIn_of _ (by decide +kernel)) ggL_law_X8_page
set_option maxRecDepth 20000 in
theorem ggL_law_X7_letter : GoodIn wsL_law wsX7_letter := goodIn_r _ [462, 16, 389, 88, 399, 235, 236, 15, 237, 163, 90, 2, 91, 463, 464, 465, 89, 466, 368, 369, 370, 200, 201, 202, 203, 39, 721, 722, 723, 724, 725, 726, 727, 728, 729, 747, 748, 749, 750, 751, 752, 753, 754] (by decide +kernel) (by decide +kernel)
set_option maxRecDepth 20000 in
theorem gL_law_X7_letter : GoodIn wsL_law (wsV RL 46 RX7 yX7_letter wsX7_letter) := goodIn_app (goodIn_of _ (by decide +kernel)) ggL_law_X7_letter
set_option maxRecDepth 20000 in
theorem ggL_law_X8_letter : GoodIn wsL_law wsX8_letter := goodIn_r _ [470, 101, 394, 471, 274, 103, 380, 381, 382, 5, 383, 71, 104, 105, 106, 296, 297, 298, 299, 300, 301, 302, 730, 731, 732, 733, 734, 735, 736, 737, 738, 739, 740, 741, 742, 743, 744, 745, 746] (by decide +kernel) (by decide +kernel)
set_option maxRecDepth 20000 in
theorem gL_law_X8_letter : GoodIn wsL_law (wsV RL 50 RX8 yX8_letter wsX8_letter) := goodIn_app (goodIn_of _ (by decide +kernel)) ggL_law_X8_letter
set_option maxRecDepth 20000 in
theorem ggL_law_X7_link : GoodIn wsL_law wsX7_link := goodIn_r _ [475, 16, 389, 88, 399, 235, 236, 15, 237, 163, 90, 2, 91, 89, 476, 417, 418, 419, 200, 201, 202, 203, 39, 721, 722, 723, 724, 725, 726, 727, 728, 729, 747, 748, 749, 750, 751, 752, 753, 754] (by decide +kernel) (by decide +kernel)
set_option maxRecDepth 20000 in
theorem gL_law_X7_link : GoodIn wsL_law (wsV RL 51 RX7 yX7_link wsX7_link) := goodIn_app (goodIn_of _ (by decide +kernel)) ggL_law_X7_link
set_option maxRecDepth 20000 in
theorem ggL_law_X8_link : GoodIn wsL_law wsX8_link := goodIn_r _ [480, 101, 394, 273, 103, 380, 381, 382, 5, 383, 71, 104, 105, 106, 296, 297, 298, 299, 300, 301, 302, 730, 731, 732, 733, 734, 735, 736, 737, 738, 739, 740, 741, 742, 743, 744, 745, 746] (by decide +kernel) (by decide +kernel)
set_option maxRecDepth 20000 in
theorem gL_law_X8_link : GoodIn wsL_law (wsV RL 54 RX8 yX8_link wsX8_link) := goodIn_app (goodIn_of _ (by decide +kernel)) ggL_law_X8_link
set_option maxRecDepth 20000 in
theorem ggL_law_X7_far : GoodIn wsL_law wsX7_far := goodIn_r _ [484, 16, 389, 399, 235, 236, 15, 237, 163, 90, 2, 91, 485, 486, 403, 487, 488, 489, 490, 428, 491, 426, 427, 429, 430, 431, 432, 201, 202, 203, 39, 416, 417, 418, 419, 200, 721, 722, 723, 724, 725, 726, 727, 728, 729, 747, 748, 749, 750, 751, 752, 753, 754] (by decide +kernel) (by decide +kernel)
set_option maxRecDepth 20000 in
theorem gL_law_X7_far : GoodIn wsL_law (wsV RL 55 RX7 yX7_far wsX7_far) := goodIn_app (goodIn_of _ (by decide +kernel)) ggL_law_X7_far
set_option maxRecDepth 20000 in
theorem ggL_law_X8_far : GoodIn wsL_law wsX8_far := goodIn_r _ [495, 101, 394, 71, 380, 381, 382, 5, 383, 104, 105, 106, 455, 456, 457, 458, 296, 297, 298, 299, 300, 301, 302, 730, 731, 732, 733, 734, 735, 736, 737, 738, 739, 740, 741, 742, 743, 744, 745, 746] (by decide +kernel) (by decide +kernel)
set_option maxRecDepth 20000 in
theorem gL_law_X8_far : GoodIn wsL_law (wsV RL 58 RX8 yX8_far wsX8_far) := goodIn_app (goodIn_of _ (by decide +kernel)) ggL_law_X8_far
set_option maxRecDepth 20000 in
theorem ggL_law_X7_find : GoodIn wsL_law wsX7_find := goodIn_r _ [499, 16, 500, 197, 198, 15, 199, 163, 200, 201, 202, 203, 39, 721, 722, 723, 724, 725, 726, 727, 728, 729, 747, 748, 749, 750, 751, 752, 753, 754] (by decide +kernel) (by decide +kernel)
set_option maxRecDepth 20000 in
theorem gL_law_X7_find : GoodIn wsL_law (wsV RL 59 RX7 yX7_find wsX7_find) := goodIn_app (goodIn_of _ (by decide +kernel)) ggL_law_X7_find
set_option maxRecDepth 20000 in
theorem ggL_law_X8_find : GoodIn wsL_law wsX8_find := goodIn_r _ [504, 101, 292, 293, 294, 5, 295, 71, 296, 297, 298, 299, 300, 301, 302, 730, 731, 732, 733, 734, 735, 736, 737, 738, 739, 740, 741, 742, 743, 744, 745, 746] (by decide +kernel) (by decide +kernel)
set_option maxRecDepth 20000 in
theorem gL_law_X8_find : GoodIn wsL_law (wsV RL 62 RX8 yX8_find wsX8_find) := goodIn_app (goodIn_of _ (by decide +kernel)) ggL_law_X8_find
