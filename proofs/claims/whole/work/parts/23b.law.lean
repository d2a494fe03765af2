set_option maxRecDepth 20000 in
theorem gL_law_X8_init : GoodIn lw_tbl (wsX8_init) := goodIn_r _ [64, 65, 66, 67, 68, 69, 49, 292, 293, 294, 158, 159, 51, 295, 296, 204, 205, 53, 297, 239, 240, 54, 298, 272, 299, 300, 301, 274, 55, 71, 72, 73, 101, 100, 105, 109, 113, 116, 119, 123, 127, 74, 75, 50, 129, 131, 133, 76, 77, 78, 79, 88, 80, 83, 86, 161, 162, 163, 174, 177, 180, 182, 183, 184, 164, 165, 52, 185, 186, 167, 168, 169, 170, 207, 208, 209, 214, 216, 210, 218, 212, 219, 238, 220, 221, 222, 242, 243, 244, 245, 271, 247, 248, 249, 250, 251, 252, 253, 276, 277, 278, 279, 281, 291, 282, 135, 137, 139, 141, 143, 145, 147, 149, 151, 153, 155, 302, 304, 306, 308, 310, 312, 314, 316, 318, 320, 187, 189, 191, 193, 195, 197, 199, 201, 223, 225, 227, 229, 231, 233, 235, 254, 256, 258, 260, 262, 264, 266, 268, 284, 286, 288, 91, 93, 95, 97, 171] (by decide +kernel) (by decide +kernel)
set_option maxRecDepth 20000 in
theorem gL_law_X9_init : GoodIn lw_tbl (wsX9_init) := goodIn_r _ [729, 730, 66, 67, 100, 735, 736, 739, 740, 742, 746, 747, 748, 750, 751, 752, 291, 753, 754, 731, 733, 21, 56, 734, 755, 757, 759, 761, 763, 765, 767, 769, 771, 773, 775, 777, 779, 781, 783, 785, 787, 789, 791, 793] (by decide +kernel) (by decide +kernel)
set_option maxRecDepth 20000 in
theorem gL_law_X8_bells : GoodIn lw_tbl (wsV RL 13 RX8 yX8_bells wsX8_bells) := goodIn_r _ [323, 324, 325, 48, 326, 292, 102, 301, 327, 328, 329, 49, 330, 101, 109, 113, 116, 123, 119, 127, 129, 89, 131, 133, 302, 304, 306, 308, 310, 312, 314, 316, 318, 320, 135, 137, 139, 141, 143, 145, 147, 149, 151, 153, 155, 91, 93, 95, 97] (by decide +kernel) (by decide +kernel)
set_option maxRecDepth 20000 in
theorem gL_law_X9_bells : GoodIn lw_tbl (wsV RL 17 RX9 yX9_bells wsX9_bells) := goodIn_r _ [796, 797, 798, 56, 799, 735, 800, 801, 56, 802, 731, 733, 21, 734, 755, 757, 759, 761, 763, 765, 767, 769, 771, 773, 775, 777, 779, 781, 783, 785, 787, 789, 791, 793] (by decide +kernel) (by decide +kernel)
set_option maxRecDepth 20000 in
theorem gL_law_X8_change : GoodIn lw_tbl (wsV RL 18 RX8 yX8_change wsX8_change) := goodIn_r _ [331, 332, 333, 48, 334, 292, 102, 111, 107, 301, 335, 337, 0, 48, 338, 339, 340, 57, 341, 342, 343, 344, 345, 346, 347, 302, 304, 306, 308, 310, 312, 314, 316, 318, 320, 135, 137, 139, 141, 143, 145, 147, 149, 151, 153, 155] (by decide +kernel) (by decide +kernel)
set_option maxRecDepth 20000 in
theorem gL_law_X9_change : GoodIn lw_tbl (wsV RL 21 RX9 yX9_change wsX9_change) := goodIn_r _ [803, 804, 805, 56, 806, 735, 807, 809, 22, 56, 810, 800, 801, 802, 811, 813, 23, 814, 755, 757, 759, 761, 763, 765, 767, 769, 771, 773, 775, 777, 779, 781, 783, 785, 787, 789, 791, 793] (by decide +kernel) (by decide +kernel)
set_option maxRecDepth 20000 in
theorem gL_law_X8_calls : GoodIn lw_tbl (wsV RL 22 RX8 yX8_calls wsX8_calls) := goodIn_r _ [348, 349, 350, 48, 351, 292, 102, 301, 335, 337, 0, 48, 338, 339, 340, 57, 341, 342, 343, 344, 345, 346, 347, 352, 353, 354, 49, 355, 113, 116, 356, 357, 358, 359, 302, 304, 306, 308, 310, 312, 314, 316, 318, 320, 135, 137, 139, 141, 143, 145, 147, 149, 151, 153, 155] (by decide +kernel) (by decide +kernel)
set_option maxRecDepth 20000 in
theorem gL_law_X9_calls : GoodIn lw_tbl (wsV RL 26 RX9 yX9_calls wsX9_calls) := goodIn_r _ [815, 816, 817, 56, 818, 800, 801, 56, 802, 807, 809, 22, 810, 735, 811, 813, 23, 814, 819, 821, 24, 822, 755, 757, 759, 761, 763, 765, 767, 769, 771, 773, 775, 777, 779, 781, 783, 785, 787, 789, 791, 793] (by decide +kernel) (by decide +kernel)
set_option maxRecDepth 20000 in
theorem gL_law_X8_call : GoodIn lw_tbl (wsV RL 27 RX8 yX8_call wsX8_call) := goodIn_r _ [360, 361, 362, 48, 363, 292, 121, 301, 364, 365, 48, 366, 302, 304, 306, 308, 310, 312, 314, 316, 318, 320, 135, 137, 139, 141, 143, 145, 147, 149, 151, 153, 155] (by decide +kernel) (by decide +kernel)
set_option maxRecDepth 20000 in
theorem gL_law_X9_call : GoodIn lw_tbl (wsV RL 30 RX9 yX9_call wsX9_call) := goodIn_r _ [823, 824, 825, 56, 826, 800, 801, 56, 802, 819, 821, 24, 822, 735, 755, 757, 759, 761, 763, 765, 767, 769, 771, 773, 775, 777, 779, 781, 783, 785, 787, 789, 791, 793] (by decide +kernel) (by decide +kernel)
set_option maxRecDepth 20000 in
theorem gL_law_X8_leads : GoodIn lw_tbl (wsV RL 31 RX8 yX8_leads wsX8_leads) := goodIn_r _ [367, 368, 369, 48, 370, 292, 125, 301, 302, 304, 306, 308, 310, 312, 314, 316, 318, 320, 135, 137, 139, 141, 143, 145, 147, 149, 151, 153, 155] (by decide +kernel) (by decide +kernel)
set_option maxRecDepth 20000 in
theorem gL_law_X9_leads : GoodIn lw_tbl (wsV RL 34 RX9 yX9_leads wsX9_leads) := goodIn_r _ [827, 828, 829, 56, 830, 800, 801, 56, 802, 819, 821, 24, 822, 735, 755, 757, 759, 761, 763, 765, 767, 769, 771, 773, 775, 777, 779, 781, 783, 785, 787, 789, 791, 793] (by decide +kernel) (by decide +kernel)
set_option maxRecDepth 20000 in
theorem gL_law_X8_pattern : GoodIn lw_tbl (wsV RL 35 RX8 yX8_pattern wsX8_pattern) := goodIn_r _ [371, 372, 373, 48, 374, 292, 128, 302, 304, 306, 308, 310, 312, 314, 316, 318, 320, 135, 137, 139, 141, 143, 145, 147, 149, 151, 153, 155] (by decide +kernel) (by decide +kernel)
set_option maxRecDepth 20000 in
theorem gL_law_X9_pattern : GoodIn lw_tbl (wsV RL 38 RX9 yX9_pattern wsX9_pattern) := goodIn_r _ [831, 832, 833, 56, 834, 800, 801, 56, 802, 819, 821, 24, 822, 735, 755, 757, 759, 761, 763, 765, 767, 769, 771, 773, 775, 777, 779, 781, 783, 785, 787, 789, 791, 793] (by decide +kernel) (by decide +kernel)
set_option maxRecDepth 20000 in
theorem gL_law_X8_feed : GoodIn lw_tbl (wsV RL 39 RX8 yX8_feed wsX8_feed) := goodIn_r _ [375, 376, 377, 48, 378, 298, 246, 379, 380, 381, 54, 382, 245, 247, 302, 304, 306, 308, 310, 312, 314, 316, 318, 320, 254, 256, 258, 260, 262, 264, 266, 268] (by decide +kernel) (by decide +kernel)
set_option maxRecDepth 20000 in
theorem gL_law_X9_feed : GoodIn lw_tbl (wsV RL 42 RX9 yX9_feed wsX9_feed) := goodIn_r _ [835, 836, 837, 56, 838, 741, 742, 800, 801, 56, 802, 755, 757, 759, 761, 763, 765, 767, 769, 771, 773, 775, 777, 779, 781, 783, 785, 787, 789, 791, 793] (by decide +kernel) (by decide +kernel)
set_option maxRecDepth 20000 in
theorem gL_law_X8_read : GoodIn lw_tbl (wsV RL 43 RX8 yX8_read wsX8_read) := goodIn_r _ [383, 384, 385, 48, 386, 298, 246, 301, 292, 387, 388, 389, 54, 390, 248, 251, 253, 250, 249, 391, 393, 1, 394, 245, 247, 395, 397, 2, 398, 399, 401, 3, 402, 403, 405, 4, 406, 252, 407, 409, 5, 410, 411, 413, 6, 414, 415, 416, 417, 418, 420, 7, 421, 422, 423, 424, 425, 426, 427, 428, 429, 431, 8, 432, 433, 434, 435, 436, 328, 329, 49, 330, 101, 109, 113, 116, 123, 119, 127, 129, 89, 131, 133, 437, 439, 9, 440, 104, 112, 108, 441, 340, 57, 341, 342, 343, 344, 345, 346, 347, 442, 443, 444, 445, 357, 358, 359, 446, 448, 10, 449, 126, 122, 302, 304, 306, 308, 310, 312, 314, 316, 318, 320, 254, 256, 258, 260, 262, 264, 266, 268, 135, 137, 139, 141, 143, 145, 147, 149, 151, 153, 155, 91, 93, 95, 97] (by decide +kernel) (by decide +kernel)
set_option maxRecDepth 20000 in
theorem gL_law_X9_read : GoodIn lw_tbl (wsV RL 47 RX9 yX9_read wsX9_read) := goodIn_r _ [839, 840, 841, 56, 842, 743, 744, 745, 749, 741, 843, 845, 25, 56, 846, 746, 747, 748, 847, 849, 26, 850, 742, 800, 801, 802, 851, 853, 27, 854, 855, 857, 28, 858, 750, 859, 861, 29, 862, 863, 865, 30, 866, 867, 869, 31, 870, 871, 872, 873, 874, 876, 32, 877, 735, 878, 797, 798, 799, 731, 733, 21, 734, 879, 816, 817, 818, 807, 809, 22, 810, 811, 813, 23, 814, 819, 821, 24, 822, 880, 882, 33, 883, 755, 757, 759, 761, 763, 765, 767, 769, 771, 773, 775, 777, 779, 781, 783, 785, 787, 789, 791, 793] (by decide +kernel) (by decide +kernel)
set_option maxRecDepth 20000 in
theorem gL_law_X8_of : GoodIn lw_tbl (wsV RL 48 RX8 yX8_of wsX8_of) := goodIn_r _ [450, 451, 452, 48, 453, 292, 111, 107, 115, 118, 121, 454, 455, 48, 456, 364, 365, 366, 302, 304, 306, 308, 310, 312, 314, 316, 318, 320, 135, 137, 139, 141, 143, 145, 147, 149, 151, 153, 155] (by decide +kernel) (by decide +kernel)
set_option maxRecDepth 20000 in
theorem gL_law_X9_of : GoodIn lw_tbl (wsV RL 51 RX9 yX9_of wsX9_of) := goodIn_r _ [884, 885, 886, 56, 887, 735, 800, 801, 56, 802, 755, 757, 759, 761, 763, 765, 767, 769, 771, 773, 775, 777, 779, 781, 783, 785, 787, 789, 791, 793] (by decide +kernel) (by decide +kernel)
set_option maxRecDepth 20000 in
theorem gL_law_X8_told : GoodIn lw_tbl (wsV RL 52 RX8 yX8_told wsX8_told) := goodIn_r _ [457, 458, 459, 48, 460, 292, 102, 111, 125, 179, 461, 463, 11, 48, 464, 301, 295, 465, 466, 467, 51, 468, 124, 180, 120, 469, 470, 471, 472, 110, 182, 103, 106, 183, 174, 177, 186, 473, 343, 57, 344, 345, 346, 347, 474, 353, 354, 49, 355, 113, 116, 475, 476, 477, 478, 479, 480, 481, 482, 483, 484, 485, 486, 487, 488, 184, 489, 491, 12, 492, 185, 493, 494, 495, 52, 496, 170, 497, 498, 499, 500, 501, 502, 503, 504, 505, 506, 507, 508, 509, 510, 511, 512, 513, 514, 515, 516, 517, 302, 304, 306, 308, 310, 312, 314, 316, 318, 320, 135, 137, 139, 141, 143, 145, 147, 149, 151, 153, 155, 187, 189, 191, 193, 195, 197, 199, 201, 171] (by decide +kernel) (by decide +kernel)
set_option maxRecDepth 20000 in
theorem gL_law_X9_told : GoodIn lw_tbl (wsV RL 55 RX9 yX9_told wsX9_told) := goodIn_r _ [888, 889, 890, 56, 891, 735, 738, 892, 894, 34, 56, 895, 739, 740, 896, 898, 35, 899, 900, 902, 36, 903, 904, 906, 37, 907, 908, 910, 38, 911, 912, 914, 39, 915, 916, 918, 40, 919, 920, 922, 41, 923, 755, 757, 759, 761, 763, 765, 767, 769, 771, 773, 775, 777, 779, 781, 783, 785, 787, 789, 791, 793] (by decide +kernel) (by decide +kernel)
set_option maxRecDepth 20000 in
theorem gL_law_X8_at : GoodIn lw_tbl (wsV RL 56 RX8 yX8_at wsX8_at) := goodIn_r _ [518, 519, 520, 48, 521, 176, 522, 524, 13, 48, 525, 179, 461, 463, 11, 464, 301, 295, 292, 465, 466, 467, 51, 468, 124, 180, 120, 469, 470, 471, 472, 110, 182, 103, 106, 183, 174, 177, 186, 473, 343, 57, 344, 345, 346, 347, 474, 353, 354, 49, 355, 113, 116, 475, 476, 477, 478, 479, 480, 481, 482, 483, 484, 526, 528, 14, 529, 102, 530, 531, 532, 187, 189, 191, 193, 195, 197, 199, 201, 302, 304, 306, 308, 310, 312, 314, 316, 318, 320, 135, 137, 139, 141, 143, 145, 147, 149, 151, 153, 155] (by decide +kernel) (by decide +kernel)
set_option maxRecDepth 20000 in
theorem gL_law_X9_at : GoodIn lw_tbl (wsV RL 59 RX9 yX9_at wsX9_at) := goodIn_r _ [924, 925, 926, 56, 927, 738, 739, 904, 906, 37, 56, 907, 735, 896, 898, 35, 899, 740, 900, 902, 36, 903, 800, 801, 802, 928, 930, 42, 931, 755, 757, 759, 761, 763, 765, 767, 769, 771, 773, 775, 777, 779, 781, 783, 785, 787, 789, 791, 793] (by decide +kernel) (by decide +kernel)
set_option maxRecDepth 20000 in
theorem gL_law_X8_where : GoodIn lw_tbl (wsV RL 60 RX8 yX8_where wsX8_where) := goodIn_r _ [533, 534, 535, 48, 536, 176, 522, 524, 13, 48, 525, 179, 461, 463, 11, 464, 301, 295, 292, 465, 466, 467, 51, 468, 124, 180, 120, 469, 470, 471, 472, 110, 182, 103, 106, 183, 174, 177, 186, 473, 343, 57, 344, 345, 346, 347, 474, 353, 354, 49, 355, 113, 116, 475, 476, 477, 478, 479, 480, 481, 482, 483, 484, 526, 528, 14, 529, 102, 537, 538, 539, 540, 531, 532, 187, 189, 191, 193, 195, 197, 199, 201, 302, 304, 306, 308, 310, 312, 314, 316, 318, 320, 135, 137, 139, 141, 143, 145, 147, 149, 151, 153, 155] (by decide +kernel) (by decide +kernel)
set_option maxRecDepth 20000 in
theorem gL_law_X9_where : GoodIn lw_tbl (wsV RL 63 RX9 yX9_where wsX9_where) := goodIn_r _ [932, 933, 934, 56, 935, 738, 904, 906, 37, 56, 907, 735, 739, 896, 898, 35, 899, 740, 900, 902, 36, 903, 800, 801, 802, 928, 930, 42, 931, 936, 938, 43, 939, 755, 757, 759, 761, 763, 765, 767, 769, 771, 773, 775, 777, 779, 781, 783, 785, 787, 789, 791, 793] (by decide +kernel) (by decide +kernel)
set_option maxRecDepth 20000 in
theorem gL_law_X8_same : GoodIn lw_tbl (wsV RL 64 RX8 yX8_same wsX8_same) := goodIn_r _ [541, 542, 543, 48, 544, 522, 524, 13, 48, 525, 179, 461, 463, 11, 464, 301, 295, 292, 465, 466, 467, 51, 468, 124, 180, 120, 469, 470, 471, 472, 110, 182, 103, 106, 183, 174, 177, 186, 473, 343, 57, 344, 345, 346, 347, 474, 353, 354, 49, 355, 113, 116, 475, 476, 477, 478, 479, 480, 481, 482, 483, 484, 545, 546, 547, 548, 184, 489, 491, 12, 492, 185, 493, 494, 495, 52, 496, 170, 497, 498, 499, 500, 501, 502, 503, 504, 187, 189, 191, 193, 195, 197, 199, 201, 302, 304, 306, 308, 310, 312, 314, 316, 318, 320, 135, 137, 139, 141, 143, 145, 147, 149, 151, 153, 155, 171] (by decide +kernel) (by decide +kernel)
set_option maxRecDepth 20000 in
theorem gL_law_X9_same : GoodIn lw_tbl (wsV RL 67 RX9 yX9_same wsX9_same) := goodIn_r _ [940, 941, 942, 56, 943, 738, 904, 906, 37, 56, 907, 735, 739, 896, 898, 35, 899, 740, 900, 902, 36, 903, 800, 801, 802, 916, 918, 40, 919, 755, 757, 759, 761, 763, 765, 767, 769, 771, 773, 775, 777, 779, 781, 783, 785, 787, 789, 791, 793] (by decide +kernel) (by decide +kernel)
set_option maxRecDepth 20000 in
theorem gL_law_X8_good : GoodIn lw_tbl (wsV RL 68 RX8 yX8_good wsX8_good) := goodIn_r _ [549, 550, 551, 48, 552, 292, 102, 335, 337, 0, 48, 338, 339, 340, 57, 341, 342, 343, 344, 345, 346, 347, 302, 304, 306, 308, 310, 312, 314, 316, 318, 320, 135, 137, 139, 141, 143, 145, 147, 149, 151, 153, 155] (by decide +kernel) (by decide +kernel)
set_option maxRecDepth 20000 in
theorem gL_law_X9_good : GoodIn lw_tbl (wsV RL 71 RX9 yX9_good wsX9_good) := goodIn_r _ [944, 945, 946, 56, 947, 807, 809, 22, 56, 810, 735, 800, 801, 802, 811, 813, 23, 814, 755, 757, 759, 761, 763, 765, 767, 769, 771, 773, 775, 777, 779, 781, 783, 785, 787, 789, 791, 793] (by decide +kernel) (by decide +kernel)
set_option maxRecDepth 20000 in
theorem gL_law_X8_music : GoodIn lw_tbl (wsV RL 72 RX8 yX8_music wsX8_music) := goodIn_r _ [553, 554, 555, 48, 556, 557, 559, 15, 48, 560, 176, 295, 179, 292, 461, 463, 11, 464, 301, 465, 466, 467, 51, 468, 124, 180, 120, 469, 470, 471, 472, 110, 182, 103, 106, 183, 174, 177, 186, 473, 343, 57, 344, 345, 346, 347, 474, 353, 354, 49, 355, 113, 116, 475, 476, 477, 478, 479, 480, 481, 482, 483, 484, 561, 562, 563, 564, 101, 566, 565, 567, 569, 16, 570, 127, 571, 531, 532, 572, 573, 574, 575, 538, 539, 540, 187, 189, 191, 193, 195, 197, 199, 201, 302, 304, 306, 308, 310, 312, 314, 316, 318, 320, 135, 137, 139, 141, 143, 145, 147, 149, 151, 153, 155] (by decide +kernel) (by decide +kernel)
set_option maxRecDepth 20000 in
theorem gL_law_X9_music : GoodIn lw_tbl (wsV RL 75 RX9 yX9_music wsX9_music) := goodIn_r _ [948, 949, 950, 56, 951, 800, 801, 56, 802, 904, 906, 37, 907, 735, 739, 738, 896, 898, 35, 899, 740, 900, 902, 36, 903, 952, 954, 44, 955, 956, 958, 45, 959, 936, 938, 43, 939, 755, 757, 759, 761, 763, 765, 767, 769, 771, 773, 775, 777, 779, 781, 783, 785, 787, 789, 791, 793] (by decide +kernel) (by decide +kernel)
set_option maxRecDepth 20000 in
theorem gL_law_X8_least : GoodIn lw_tbl (wsV RL 76 RX8 yX8_least wsX8_least) := goodIn_r _ [576, 577, 578, 48, 579, 297, 292, 215, 217, 580, 581, 582, 53, 583, 214, 216, 221, 222, 220, 114, 117, 218, 181, 219, 175, 584, 470, 471, 51, 472, 110, 180, 182, 103, 106, 183, 174, 177, 186, 473, 343, 57, 344, 345, 346, 347, 474, 353, 354, 49, 355, 113, 116, 475, 476, 477, 585, 494, 495, 52, 496, 170, 497, 498, 499, 500, 586, 587, 588, 178, 589, 591, 17, 592, 593, 479, 480, 481, 482, 483, 484, 594, 596, 18, 597, 598, 600, 19, 601, 602, 502, 503, 504, 302, 304, 306, 308, 310, 312, 314, 316, 318, 320, 223, 225, 227, 229, 231, 233, 235, 135, 137, 139, 141, 143, 145, 147, 149, 151, 153, 155, 187, 189, 191, 193, 195, 197, 199, 201, 171] (by decide +kernel) (by decide +kernel)
set_option maxRecDepth 20000 in
theorem gL_law_X9_least : GoodIn lw_tbl (wsV RL 79 RX9 yX9_least wsX9_least) := goodIn_r _ [960, 961, 962, 56, 963, 735, 800, 801, 56, 802, 904, 906, 37, 907, 739, 738, 896, 898, 35, 899, 740, 900, 902, 36, 903, 920, 922, 41, 923, 912, 914, 39, 915, 916, 918, 40, 919, 755, 757, 759, 761, 763, 765, 767, 769, 771, 773, 775, 777, 779, 781, 783, 785, 787, 789, 791, 793] (by decide +kernel) (by decide +kernel)
set_option maxRecDepth 20000 in
theorem gL_law_X8_still : GoodIn lw_tbl (wsV RL 80 RX8 yX8_still wsX8_still) := goodIn_r _ [603, 604, 605, 48, 606, 176, 295, 179, 526, 528, 14, 48, 529, 292, 102, 461, 463, 11, 464, 301, 465, 466, 467, 51, 468, 124, 180, 120, 469, 470, 471, 472, 110, 182, 103, 106, 183, 174, 177, 186, 473, 343, 57, 344, 345, 346, 347, 474, 353, 354, 49, 355, 113, 116, 475, 476, 477, 478, 479, 480, 481, 482, 483, 484, 537, 538, 539, 540, 531, 532, 187, 189, 191, 193, 195, 197, 199, 201, 302, 304, 306, 308, 310, 312, 314, 316, 318, 320, 135, 137, 139, 141, 143, 145, 147, 149, 151, 153, 155] (by decide +kernel) (by decide +kernel)
set_option maxRecDepth 20000 in
theorem gL_law_X9_still : GoodIn lw_tbl (wsV RL 83 RX9 yX9_still wsX9_still) := goodIn_r _ [964, 965, 966, 56, 967, 738, 928, 930, 42, 56, 931, 735, 800, 801, 802, 904, 906, 37, 907, 739, 896, 898, 35, 899, 740, 900, 902, 36, 903, 936, 938, 43, 939, 755, 757, 759, 761, 763, 765, 767, 769, 771, 773, 775, 777, 779, 781, 783, 785, 787, 789, 791, 793] (by decide +kernel) (by decide +kernel)
set_option maxRecDepth 20000 in
theorem gL_law_X8_ahead : GoodIn lw_tbl (wsV RL 84 RX8 yX8_ahead wsX8_ahead) := goodIn_r _ [607, 608, 609, 48, 610, 176, 295, 179, 526, 528, 14, 48, 529, 292, 102, 461, 463, 11, 464, 301, 465, 466, 467, 51, 468, 124, 180, 120, 469, 470, 471, 472, 110, 182, 103, 106, 183, 174, 177, 186, 473, 343, 57, 344, 345, 346, 347, 474, 353, 354, 49, 355, 113, 116, 475, 476, 477, 478, 479, 480, 481, 482, 483, 484, 611, 573, 574, 575, 538, 539, 540, 531, 532, 187, 189, 191, 193, 195, 197, 199, 201, 302, 304, 306, 308, 310, 312, 314, 316, 318, 320, 135, 137, 139, 141, 143, 145, 147, 149, 151, 153, 155] (by decide +kernel) (by decide +kernel)
set_option maxRecDepth 20000 in
theorem gL_law_X9_ahead : GoodIn lw_tbl (wsV RL 87 RX9 yX9_ahead wsX9_ahead) := goodIn_r _ [968, 969, 970, 56, 971, 738, 928, 930, 42, 56, 931, 735, 800, 801, 802, 904, 906, 37, 907, 739, 896, 898, 35, 899, 740, 900, 902, 36, 903, 936, 938, 43, 939, 755, 757, 759, 761, 763, 765, 767, 769, 771, 773, 775, 777, 779, 781, 783, 785, 787, 789, 791, 793] (by decide +kernel) (by decide +kernel)
set_option maxRecDepth 20000 in
theorem gL_law_X8_see : GoodIn lw_tbl (wsV RL 88 RX8 yX8_see wsX8_see) := goodIn_r _ [612, 613, 614, 48, 615, 292, 130, 90, 526, 528, 14, 48, 529, 102, 616, 617, 618, 50, 619, 88, 80, 83, 86, 302, 304, 306, 308, 310, 312, 314, 316, 318, 320, 135, 137, 139, 141, 143, 145, 147, 149, 151, 153, 155, 91, 93, 95, 97] (by decide +kernel) (by decide +kernel)
set_option maxRecDepth 20000 in
theorem gL_law_X9_see : GoodIn lw_tbl (wsV RL 92 RX9 yX9_see wsX9_see) := goodIn_r _ [972, 973, 974, 56, 975, 735, 800, 801, 56, 802, 928, 930, 42, 931, 755, 757, 759, 761, 763, 765, 767, 769, 771, 773, 775, 777, 779, 781, 783, 785, 787, 789, 791, 793] (by decide +kernel) (by decide +kernel)
set_option maxRecDepth 20000 in
theorem gL_law_X8_fits : GoodIn lw_tbl (wsV RL 93 RX8 yX8_fits wsX8_fits) := goodIn_r _ [620, 621, 622, 48, 623, 294, 292, 111, 102, 624, 625, 626, 49, 627, 101, 109, 113, 116, 123, 105, 628, 630, 629, 58, 119, 127, 129, 131, 133, 631, 632, 633, 50, 634, 88, 80, 83, 86, 635, 617, 618, 619, 339, 340, 57, 341, 342, 343, 344, 345, 346, 347, 636, 638, 20, 48, 639, 107, 296, 130, 90, 82, 179, 176, 85, 87, 465, 466, 467, 51, 468, 124, 180, 120, 469, 470, 471, 472, 110, 182, 103, 106, 183, 174, 177, 186, 473, 474, 353, 354, 355, 475, 476, 477, 478, 479, 480, 481, 482, 483, 484, 530, 531, 532, 302, 304, 306, 308, 310, 312, 314, 316, 318, 320, 135, 137, 139, 141, 143, 145, 147, 149, 151, 153, 155, 91, 93, 95, 97, 187, 189, 191, 193, 195, 197, 199, 201] (by decide +kernel) (by decide +kernel)
set_option maxRecDepth 20000 in
theorem gL_law_X9_fits : GoodIn lw_tbl (wsV RL 96 RX9 yX9_fits wsX9_fits) := goodIn_r _ [976, 977, 978, 56, 979, 735, 800, 801, 56, 802, 811, 813, 23, 814, 904, 906, 37, 907, 739, 738, 896, 898, 35, 899, 740, 900, 902, 36, 903, 980, 982, 46, 983, 755, 757, 759, 761, 763, 765, 767, 769, 771, 773, 775, 777, 779, 781, 783, 785, 787, 789, 791, 793] (by decide +kernel) (by decide +kernel)
set_option maxRecDepth 20000 in
theorem gL_law_X8_odds : GoodIn lw_tbl (wsV RL 97 RX8 yX8_odds wsX8_odds) := goodIn_r _ [640, 641, 642, 48, 643, 647, 176, 295, 179, 526, 528, 14, 48, 529, 292, 102, 644, 645, 646, 461, 463, 11, 464, 301, 465, 466, 467, 51, 468, 124, 180, 120, 469, 470, 471, 472, 110, 182, 103, 106, 183, 174, 177, 186, 473, 343, 57, 344, 345, 346, 347, 474, 353, 354, 49, 355, 113, 116, 475, 476, 477, 478, 479, 480, 481, 482, 483, 484, 530, 531, 532, 648, 649, 650, 187, 189, 191, 193, 195, 197, 199, 201, 302, 304, 306, 308, 310, 312, 314, 316, 318, 320, 135, 137, 139, 141, 143, 145, 147, 149, 151, 153, 155] (by decide +kernel) (by decide +kernel)
set_option maxRecDepth 20000 in
theorem gL_law_X9_odds : GoodIn lw_tbl (wsV RL 101 RX9 yX9_odds wsX9_odds) := goodIn_r _ [984, 985, 986, 56, 987, 988, 738, 928, 930, 42, 56, 931, 735, 800, 801, 802, 904, 906, 37, 907, 739, 896, 898, 35, 899, 740, 900, 902, 36, 903, 936, 938, 43, 939, 989, 990, 991, 755, 757, 759, 761, 763, 765, 767, 769, 771, 773, 775, 777, 779, 781, 783, 785, 787, 789, 791, 793] (by decide +kernel) (by decide +kernel)
set_option maxRecDepth 20000 in
theorem gL_law_X8_mean : GoodIn lw_tbl (wsV RL 102 RX8 yX8_mean wsX8_mean) := goodIn_r _ [651, 652, 653, 48, 654, 647, 179, 644, 645, 48, 646, 557, 559, 15, 560, 176, 295, 292, 461, 463, 11, 464, 301, 465, 466, 467, 51, 468, 124, 180, 120, 469, 470, 471, 472, 110, 182, 103, 106, 183, 174, 177, 186, 473, 343, 57, 344, 345, 346, 347, 474, 353, 354, 49, 355, 113, 116, 475, 476, 477, 478, 479, 480, 481, 482, 483, 484, 561, 562, 563, 564, 101, 566, 565, 567, 569, 16, 570, 127, 571, 531, 532, 572, 573, 574, 575, 538, 539, 540, 648, 649, 650, 187, 189, 191, 193, 195, 197, 199, 201, 302, 304, 306, 308, 310, 312, 314, 316, 318, 320, 135, 137, 139, 141, 143, 145, 147, 149, 151, 153, 155] (by decide +kernel) (by decide +kernel)
set_option maxRecDepth 20000 in
theorem gL_law_X9_mean : GoodIn lw_tbl (wsV RL 106 RX9 yX9_mean wsX9_mean) := goodIn_r _ [992, 993, 994, 56, 995, 988, 738, 800, 801, 56, 802, 904, 906, 37, 907, 735, 739, 896, 898, 35, 899, 740, 900, 902, 36, 903, 952, 954, 44, 955, 956, 958, 45, 959, 936, 938, 43, 939, 989, 990, 991, 755, 757, 759, 761, 763, 765, 767, 769, 771, 773, 775, 777, 779, 781, 783, 785, 787, 789, 791, 793] (by decide +kernel) (by decide +kernel)
set_option maxRecDepth 20000 in
theorem gL_law_X8_event : GoodIn lw_tbl (wsV RL 107 RX8 yX8_event wsX8_event) := goodIn_r _ [655, 656, 657, 48, 658, 292, 132, 90, 364, 365, 48, 366, 616, 617, 618, 50, 619, 88, 80, 83, 86, 302, 304, 306, 308, 310, 312, 314, 316, 318, 320, 135, 137, 139, 141, 143, 145, 147, 149, 151, 153, 155, 91, 93, 95, 97] (by decide +kernel) (by decide +kernel)
set_option maxRecDepth 20000 in
theorem gL_law_X9_event : GoodIn lw_tbl (wsV RL 110 RX9 yX9_event wsX9_event) := goodIn_r _ [996, 997, 998, 56, 999, 735, 800, 801, 56, 802, 755, 757, 759, 761, 763, 765, 767, 769, 771, 773, 775, 777, 779, 781, 783, 785, 787, 789, 791, 793] (by decide +kernel) (by decide +kernel)
set_option maxRecDepth 20000 in
theorem gL_law_X8_after : GoodIn lw_tbl (wsV RL 111 RX8 yX8_after wsX8_after) := goodIn_r _ [659, 660, 661, 48, 662, 294, 292, 296, 624, 625, 626, 49, 627, 101, 109, 113, 116, 123, 105, 628, 630, 629, 58, 119, 127, 129, 131, 133, 631, 632, 633, 50, 634, 88, 80, 83, 86, 635, 617, 618, 619, 663, 664, 665, 666, 89, 84, 81, 667, 668, 59, 669, 465, 466, 467, 51, 468, 124, 180, 120, 469, 470, 471, 472, 110, 182, 103, 106, 183, 174, 177, 186, 473, 343, 57, 344, 345, 346, 347, 474, 353, 354, 355, 475, 476, 477, 478, 479, 480, 481, 482, 483, 484, 485, 486, 487, 488, 184, 489, 491, 12, 492, 185, 493, 494, 495, 52, 496, 170, 497, 498, 499, 500, 501, 502, 503, 504, 505, 506, 507, 508, 509, 510, 511, 512, 513, 302, 304, 306, 308, 310, 312, 314, 316, 318, 320, 135, 137, 139, 141, 143, 145, 147, 149, 151, 153, 155, 91, 93, 95, 97, 187, 189, 191, 193, 195, 197, 199, 201, 171] (by decide +kernel) (by decide +kernel)
set_option maxRecDepth 20000 in
theorem gL_law_X9_after : GoodIn lw_tbl (wsV RL 114 RX9 yX9_after wsX9_after) := goodIn_r _ [1000, 1001, 1002, 56, 1003, 735, 1004, 668, 59, 669, 800, 801, 56, 802, 904, 906, 37, 907, 739, 738, 896, 898, 35, 899, 740, 900, 902, 36, 903, 908, 910, 38, 911, 912, 914, 39, 915, 916, 918, 40, 919, 920, 922, 41, 923, 755, 757, 759, 761, 763, 765, 767, 769, 771, 773, 775, 777, 779, 781, 783, 785, 787, 789, 791, 793] (by decide +kernel) (by decide +kernel)
set_option maxRecDepth 20000 in
theorem gL_law_X8_book : GoodIn lw_tbl (wsV RL 115 RX8 yX8_book wsX8_book) := goodIn_r _ [670, 671, 672, 48, 673, 292, 134, 90, 526, 528, 14, 48, 529, 102, 616, 617, 618, 50, 619, 88, 80, 83, 86, 302, 304, 306, 308, 310, 312, 314, 316, 318, 320, 135, 137, 139, 141, 143, 145, 147, 149, 151, 153, 155, 91, 93, 95, 97] (by decide +kernel) (by decide +kernel)
set_option maxRecDepth 20000 in
theorem gL_law_X9_book : GoodIn lw_tbl (wsV RL 118 RX9 yX9_book wsX9_book) := goodIn_r _ [1005, 1006, 1007, 56, 1008, 735, 800, 801, 56, 802, 928, 930, 42, 931, 755, 757, 759, 761, 763, 765, 767, 769, 771, 773, 775, 777, 779, 781, 783, 785, 787, 789, 791, 793] (by decide +kernel) (by decide +kernel)
set_option maxRecDepth 20000 in
theorem gL_law_X8_looked : GoodIn lw_tbl (wsV RL 119 RX8 yX8_looked wsX8_looked) := goodIn_r _ [674, 675, 676, 48, 677, 292, 134, 90, 82, 176, 85, 522, 524, 13, 48, 525, 179, 461, 463, 11, 464, 301, 295, 465, 466, 467, 51, 468, 124, 180, 120, 469, 470, 471, 472, 110, 182, 103, 106, 183, 174, 177, 186, 473, 343, 57, 344, 345, 346, 347, 474, 353, 354, 49, 355, 113, 116, 475, 476, 477, 478, 479, 480, 481, 482, 483, 484, 530, 531, 532, 302, 304, 306, 308, 310, 312, 314, 316, 318, 320, 135, 137, 139, 141, 143, 145, 147, 149, 151, 153, 155, 91, 93, 95, 97, 187, 189, 191, 193, 195, 197, 199, 201] (by decide +kernel) (by decide +kernel)
set_option maxRecDepth 20000 in
theorem gL_law_X9_looked : GoodIn lw_tbl (wsV RL 122 RX9 yX9_looked wsX9_looked) := goodIn_r _ [1009, 1010, 1011, 56, 1012, 735, 738, 739, 904, 906, 37, 56, 907, 896, 898, 35, 899, 740, 900, 902, 36, 903, 755, 757, 759, 761, 763, 765, 767, 769, 771, 773, 775, 777, 779, 781, 783, 785, 787, 789, 791, 793] (by decide +kernel) (by decide +kernel)
set_option maxRecDepth 20000 in
theorem gL_law_X8_judge : GoodIn lw_tbl (wsV RL 123 RX8 yX8_judge wsX8_judge) := goodIn_r _ [678, 679, 680, 48, 681, 299, 280, 292, 102, 283, 176, 522, 524, 13, 48, 525, 179, 461, 463, 11, 464, 301, 295, 465, 466, 467, 51, 468, 124, 180, 120, 469, 470, 471, 472, 110, 182, 103, 106, 183, 174, 177, 186, 473, 343, 57, 344, 345, 346, 347, 474, 353, 354, 49, 355, 113, 116, 475, 476, 477, 478, 479, 480, 481, 482, 483, 484, 682, 683, 684, 685, 686, 687, 55, 688, 281, 530, 531, 532, 302, 304, 306, 308, 310, 312, 314, 316, 318, 320, 284, 286, 288, 135, 137, 139, 141, 143, 145, 147, 149, 151, 153, 155, 187, 189, 191, 193, 195, 197, 199, 201] (by decide +kernel) (by decide +kernel)
set_option maxRecDepth 20000 in
theorem gL_law_X9_judge : GoodIn lw_tbl (wsV RL 126 RX9 yX9_judge wsX9_judge) := goodIn_r _ [1013, 1014, 1015, 56, 1016, 738, 751, 735, 752, 753, 739, 904, 906, 37, 56, 907, 896, 898, 35, 899, 740, 900, 902, 36, 903, 800, 801, 802, 1017, 1018, 1019, 755, 757, 759, 761, 763, 765, 767, 769, 771, 773, 775, 777, 779, 781, 783, 785, 787, 789, 791, 793] (by decide +kernel) (by decide +kernel)
set_option maxRecDepth 20000 in
theorem gL_law_X8_image : GoodIn lw_tbl (wsV RL 127 RX8 yX8_image wsX8_image) := goodIn_r _ [689, 690, 691, 48, 692, 293, 292, 300, 111, 624, 625, 626, 49, 627, 101, 109, 113, 116, 123, 105, 628, 630, 629, 58, 119, 127, 129, 131, 133, 631, 632, 633, 50, 634, 88, 80, 83, 86, 635, 617, 618, 619, 302, 304, 306, 308, 310, 312, 314, 316, 318, 320, 135, 137, 139, 141, 143, 145, 147, 149, 151, 153, 155, 91, 93, 95, 97] (by decide +kernel) (by decide +kernel)
set_option maxRecDepth 20000 in
theorem gL_law_X9_image : GoodIn lw_tbl (wsV RL 130 RX9 yX9_image wsX9_image) := goodIn_r _ [1020, 1021, 1022, 56, 1023, 737, 736, 735, 755, 757, 759, 761, 763, 765, 767, 769, 771, 773, 775, 777, 779, 781, 783, 785, 787, 789, 791, 793] (by decide +kernel) (by decide +kernel)
set_option maxRecDepth 20000 in
theorem gL_law_X8_undo : GoodIn lw_tbl (wsV RL 131 RX8 yX8_undo wsX8_undo) := goodIn_r _ [693, 694, 695, 48, 696, 300, 292, 293, 301, 111, 624, 625, 626, 49, 627, 101, 109, 113, 116, 123, 105, 628, 630, 629, 58, 119, 127, 129, 131, 133, 631, 632, 633, 50, 634, 88, 80, 83, 86, 635, 617, 618, 619, 302, 304, 306, 308, 310, 312, 314, 316, 318, 320, 135, 137, 139, 141, 143, 145, 147, 149, 151, 153, 155, 91, 93, 95, 97] (by decide +kernel) (by decide +kernel)
set_option maxRecDepth 20000 in
theorem gL_law_X9_undo : GoodIn lw_tbl (wsV RL 134 RX9 yX9_undo wsX9_undo) := goodIn_r _ [1024, 1025, 1026, 56, 1027, 737, 735, 736, 755, 757, 759, 761, 763, 765, 767, 769, 771, 773, 775, 777, 779, 781, 783, 785, 787, 789, 791, 793] (by decide +kernel) (by decide +kernel)
set_option maxRecDepth 20000 in
theorem gL_law_X8_count : GoodIn lw_tbl (wsV RL 135 RX8 yX8_count wsX8_count) := goodIn_r _ [697, 698, 699, 48, 700, 292, 130, 90, 132, 134, 298, 246, 302, 304, 306, 308, 310, 312, 314, 316, 318, 320, 135, 137, 139, 141, 143, 145, 147, 149, 151, 153, 155, 91, 93, 95, 97, 254, 256, 258, 260, 262, 264, 266, 268] (by decide +kernel) (by decide +kernel)
set_option maxRecDepth 20000 in
theorem gL_law_X9_count : GoodIn lw_tbl (wsV RL 138 RX9 yX9_count wsX9_count) := goodIn_r _ [1028, 1029, 1030, 56, 1031, 735, 741, 800, 801, 56, 802, 755, 757, 759, 761, 763, 765, 767, 769, 771, 773, 775, 777, 779, 781, 783, 785, 787, 789, 791, 793] (by decide +kernel) (by decide +kernel)
set_option maxRecDepth 20000 in
theorem gL_law_X8_tape : GoodIn lw_tbl (wsV RL 139 RX8 yX8_tape wsX8_tape) := goodIn_r _ [701, 702, 703, 48, 704, 299, 682, 683, 48, 684, 705, 706, 707, 55, 708, 279, 281, 282, 302, 304, 306, 308, 310, 312, 314, 316, 318, 320, 284, 286, 288] (by decide +kernel) (by decide +kernel)
set_option maxRecDepth 20000 in
theorem gL_law_X9_tape : GoodIn lw_tbl (wsV RL 142 RX9 yX9_tape wsX9_tape) := goodIn_r _ [1032, 1033, 1034, 56, 1035, 751, 752, 753, 1017, 1018, 56, 1019, 800, 801, 802, 755, 757, 759, 761, 763, 765, 767, 769, 771, 773, 775, 777, 779, 781, 783, 785, 787, 789, 791, 793] (by decide +kernel) (by decide +kernel)
set_option maxRecDepth 20000 in
theorem gL_law_X8_item : GoodIn lw_tbl (wsV RL 145 RX8 yX8_item wsX8_item) := goodIn_r _ [709, 710, 711, 48, 712, 299, 280, 283, 682, 683, 48, 684, 685, 686, 687, 55, 688, 281, 713, 714, 715, 302, 304, 306, 308, 310, 312, 314, 316, 318, 320, 284, 286, 288] (by decide +kernel) (by decide +kernel)
set_option maxRecDepth 20000 in
theorem gL_law_X9_item : GoodIn lw_tbl (wsV RL 149 RX9 yX9_item wsX9_item) := goodIn_r _ [1036, 1037, 1038, 56, 1039, 751, 752, 753, 1017, 1018, 56, 1019, 800, 801, 802, 755, 757, 759, 761, 763, 765, 767, 769, 771, 773, 775, 777, 779, 781, 783, 785, 787, 789, 791, 793] (by decide +kernel) (by decide +kernel)
set_option maxRecDepth 20000 in
theorem gL_law_X8_peek : GoodIn lw_tbl (wsV RL 150 RX8 yX8_peek wsX8_peek) := goodIn_r _ [716, 717, 718, 48, 719, 299, 647, 283, 682, 683, 48, 684, 685, 686, 687, 55, 688, 281, 302, 304, 306, 308, 310, 312, 314, 316, 318, 320, 284, 286, 288] (by decide +kernel) (by decide +kernel)
set_option maxRecDepth 20000 in
theorem gL_law_X9_peek : GoodIn lw_tbl (wsV RL 154 RX9 yX9_peek wsX9_peek) := goodIn_r _ [1040, 1041, 1042, 56, 1043, 752, 753, 988, 1017, 1018, 56, 1019, 800, 801, 802, 755, 757, 759, 761, 763, 765, 767, 769, 771, 773, 775, 777, 779, 781, 783, 785, 787, 789, 791, 793] (by decide +kernel) (by decide +kernel)
set_option maxRecDepth 20000 in
theorem gL_law_X8_shift : GoodIn lw_tbl (wsV RL 155 RX8 yX8_shift wsX8_shift) := goodIn_r _ [720, 721, 722, 48, 723, 299, 280, 283, 724, 630, 629, 58, 682, 683, 48, 684, 685, 686, 687, 55, 688, 281, 302, 304, 306, 308, 310, 312, 314, 316, 318, 320, 284, 286, 288] (by decide +kernel) (by decide +kernel)
set_option maxRecDepth 20000 in
theorem gL_law_X9_shift : GoodIn lw_tbl (wsV RL 159 RX9 yX9_shift wsX9_shift) := goodIn_r _ [1044, 1045, 1046, 56, 1047, 751, 752, 754, 753, 1017, 1018, 56, 1019, 800, 801, 802, 755, 757, 759, 761, 763, 765, 767, 769, 771, 773, 775, 777, 779, 781, 783, 785, 787, 789, 791, 793] (by decide +kernel) (by decide +kernel)
set_option maxRecDepth 20000 in
theorem inT_X0 : ∀ w ∈ u_ws RX0 TX0 7, w ∈ lw_tbl := fun w h => (goodIn_r (big := lw_tbl) _ [223, 225, 227, 229, 231, 233, 235] (by decide +kernel) (by decide +kernel) w h).1
theorem inI_X0 : Cond.instantiable RX0 7 ∈ lw_tbl := List.mem_of_getElem? (i := 205) (by decide +kernel)
set_option maxRecDepth 20000 in
theorem inT_X1 : ∀ w ∈ u_ws RX1 TX1 4, w ∈ lw_tbl := fun w h => (goodIn_r (big := lw_tbl) _ [91, 93, 95, 97] (by decide +kernel) (by decide +kernel) w h).1
theorem inI_X1 : Cond.instantiable RX1 4 ∈ lw_tbl := List.mem_of_getElem? (i := 75) (by decide +kernel)
set_option maxRecDepth 20000 in
theorem inT_X3 : ∀ w ∈ u_ws RX3 TX3 1, w ∈ lw_tbl := fun w h => (goodIn_r (big := lw_tbl) _ [171] (by decide +kernel) (by decide +kernel) w h).1
theorem inI_X3 : Cond.instantiable RX3 1 ∈ lw_tbl := List.mem_of_getElem? (i := 165) (by decide +kernel)
set_option maxRecDepth 20000 in
theorem inT_X4 : ∀ w ∈ u_ws RX4 TX4 11, w ∈ lw_tbl := fun w h => (goodIn_r (big := lw_tbl) _ [135, 137, 139, 141, 143, 145, 147, 149, 151, 153, 155] (by decide +kernel) (by decide +kernel) w h).1
theorem inI_X4 : Cond.instantiable RX4 11 ∈ lw_tbl := List.mem_of_getElem? (i := 69) (by decide +kernel)
set_option maxRecDepth 20000 in
theorem inT_X5 : ∀ w ∈ u_ws RX5 TX5 8, w ∈ lw_tbl := fun w h => (goodIn_r (big := lw_tbl) _ [254, 256, 258, 260, 262, 264, 266, 268] (by decide +kernel) (by decide +kernel) w h).1
theorem inI_X5 : Cond.instantiable RX5 8 ∈ lw_tbl := List.mem_of_getElem? (i := 240) (by decide +kernel)
set_option maxRecDepth 20000 in
theorem inT_X6 : ∀ w ∈ u_ws RX6 TX6 3, w ∈ lw_tbl := fun w h => (goodIn_r (big := lw_tbl) _ [284, 286, 288] (by decide +kernel) (by decide +kernel) w h).1
theorem inI_X6 : Cond.instantiable RX6 3 ∈ lw_tbl := List.mem_of_getElem? (i := 274) (by decide +kernel)
set_option maxRecDepth 20000 in
theorem inT_X7 : ∀ w ∈ u_ws RX7 TX7 8, w ∈ lw_tbl := fun w h => (goodIn_r (big := lw_tbl) _ [187, 189, 191, 193, 195, 197, 199, 201] (by decide +kernel) (by decide +kernel) w h).1
theorem inI_X7 : Cond.instantiable RX7 8 ∈ lw_tbl := List.mem_of_getElem? (i := 159) (by decide +kernel)
set_option maxRecDepth 20000 in
theorem inT_X8 : ∀ w ∈ u_ws RX8 TX8 10, w ∈ lw_tbl := fun w h => (goodIn_r (big := lw_tbl) _ [302, 304, 306, 308, 310, 312, 314, 316, 318, 320] (by decide +kernel) (by decide +kernel) w h).1
theorem inI_X8 : Cond.instantiable RX8 10 ∈ lw_tbl := List.mem_of_getElem? (i := 61) (by decide +kernel)
set_option maxRecDepth 20000 in
theorem inT_X9 : ∀ w ∈ u_ws RX9 TX9 20, w ∈ lw_tbl := fun w h => (goodIn_r (big := lw_tbl) _ [755, 757, 759, 761, 763, 765, 767, 769, 771, 773, 775, 777, 779, 781, 783, 785, 787, 789, 791, 793] (by decide +kernel) (by decide +kernel) w h).1
theorem inI_X9 : Cond.instantiable RX9 20 ∈ lw_tbl := List.mem_of_getElem? (i := 726) (by decide +kernel)
theorem inC_X8 : Cond.classLink RL 7 RX8 ∈ lw_tbl := List.mem_of_getElem? (i := 60) (by decide +kernel)
theorem inN_X8 : Cond.initialized RX8 ∈ lw_tbl := List.mem_of_getElem? (i := 48) (by decide +kernel)
theorem inM_X8 : Cond.methodLink RL 9 yX8_init ∈ lw_tbl := List.mem_of_getElem? (i := 62) (by decide +kernel)
theorem inE_X8 : Cond.instanceMethod yX8_init ∈ lw_tbl := List.mem_of_getElem? (i := 63) (by decide +kernel)
theorem inC_X9 : Cond.classLink RL 10 RX9 ∈ lw_tbl := List.mem_of_getElem? (i := 725) (by decide +kernel)
theorem inN_X9 : Cond.initialized RX9 ∈ lw_tbl := List.mem_of_getElem? (i := 56) (by decide +kernel)
theorem inM_X9 : Cond.methodLink RL 12 yX9_init ∈ lw_tbl := List.mem_of_getElem? (i := 727) (by decide +kernel)
theorem inE_X9 : Cond.instanceMethod yX9_init ∈ lw_tbl := List.mem_of_getElem? (i := 728) (by decide +kernel)
theorem inW_1 : Cond.methodLinkNest RX8 13 yX4_init RX8 ∈ lw_tbl := List.mem_of_getElem? (i := 70) (by decide +kernel)
theorem inW_2 : Cond.methodLinkNest RX8 26 yX7_init RX8 ∈ lw_tbl := List.mem_of_getElem? (i := 160) (by decide +kernel)
theorem inW_3 : Cond.methodLinkNest RX8 36 yX0_init RX8 ∈ lw_tbl := List.mem_of_getElem? (i := 206) (by decide +kernel)
theorem inW_4 : Cond.methodLinkNest RX8 43 yX5_init RX8 ∈ lw_tbl := List.mem_of_getElem? (i := 241) (by decide +kernel)
theorem inW_5 : Cond.methodLinkNest RX8 61 yX6_init RX8 ∈ lw_tbl := List.mem_of_getElem? (i := 275) (by decide +kernel)
theorem inW_6 : Cond.methodLinkNest RX7 33 yX3_init RX8 ∈ lw_tbl := List.mem_of_getElem? (i := 166) (by decide +kernel)
theorem inW_7 : Cond.methodLinkNest RX0 20 yX7_init RX8 ∈ lw_tbl := List.mem_of_getElem? (i := 211) (by decide +kernel)
theorem inW_8 : Cond.methodLinkNest RX0 27 yX3_init RX8 ∈ lw_tbl := List.mem_of_getElem? (i := 213) (by decide +kernel)
theorem inO : Cond.arrayOver (.object "BellTouches$Tape") ∈ lw_tbl := List.mem_of_getElem? (i := 273) (by decide +kernel)
theorem inA_int : Cond.arrayClass .int ∈ lw_tbl := List.mem_of_getElem? (i := 100) (by decide +kernel)
theorem inA_long : Cond.arrayClass .long ∈ lw_tbl := List.mem_of_getElem? (i := 291) (by decide +kernel)
theorem inA_byte : Cond.arrayClass .byte ∈ lw_tbl := List.mem_of_getElem? (i := 271) (by decide +kernel)
theorem inA_boolean : Cond.arrayClass .boolean ∈ lw_tbl := List.mem_of_getElem? (i := 238) (by decide +kernel)
theorem inK : Cond.constantLong RL 143 (Int64.ofInt 4294967295) ∈ lw_tbl := List.mem_of_getElem? (i := 1048) (by decide +kernel)
