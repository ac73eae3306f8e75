set_option maxRecDepth 20000 in
theorem ggL_law_X8_init : GoodIn wsL_law wsX8_init := goodIn_r _ [9, 10, 11, 12, 13, 14, 15, 16, 17, 18, 19, 20, 21, 22, 23, 24, 25, 26, 27, 28, 29, 30, 31, 32, 33, 34, 35, 36, 37, 38, 39, 40, 41, 42, 43, 44, 45, 46, 47, 48, 49, 50, 51, 52, 53, 54, 55, 56, 57, 58, 59, 60, 61, 62, 63, 64, 65, 66, 67, 68, 69, 70, 71, 72, 73, 74, 75, 76, 77, 78, 79, 80, 81, 82, 83, 84, 85, 86, 87, 88, 89, 90, 91, 92, 93, 94, 95, 96, 97, 98, 99, 100, 101, 102, 103, 104, 2, 105, 106, 107, 108, 109, 110, 111, 112, 113, 810, 811, 771, 772, 773, 774, 775, 776, 777, 778, 779, 780, 781, 812, 813, 814, 815, 816, 817, 818, 819, 820, 821, 822, 823, 824, 825, 826, 827, 828, 829, 830, 831, 832, 833, 834, 835, 836, 837, 838, 839, 840, 841, 842] rfl (by decide +kernel)
set_option maxRecDepth 20000 in
theorem gL_law_X8_init : GoodIn wsL_law (wsX8_init) := ggL_law_X8_init
set_option maxRecDepth 20000 in
theorem ggL_law_X9_init : GoodIn wsL_law wsX9_init := goodIn_r _ [116, 117, 11, 12, 45, 118, 119, 120, 121, 122, 123, 80, 124, 125, 126, 127, 128, 129, 782, 783, 784, 785, 786, 787, 788, 789, 790, 791, 792, 793, 794, 795, 796, 797, 798, 799, 800, 801, 802, 803, 804, 805, 806, 807, 808, 809] rfl (by decide +kernel)
set_option maxRecDepth 20000 in
theorem gL_law_X9_init : GoodIn wsL_law (wsX9_init) := ggL_law_X9_init
set_option maxRecDepth 20000 in
theorem ggL_law_X8_type : GoodIn wsL_law wsX8_type := goodIn_r _ [133, 16, 134, 135, 136, 15, 137, 138, 46, 771, 772, 773, 774, 775, 776, 777, 778, 779, 780, 781, 810, 811] rfl (by decide +kernel)
set_option maxRecDepth 20000 in
theorem gL_law_X8_type : GoodIn wsL_law (wsV RL 15 RX8 yX8_type wsX8_type) := goodIn_app (goodIn_of _ (by decide +kernel)) ggL_law_X8_type
set_option maxRecDepth 20000 in
theorem ggL_law_X9_type : GoodIn wsL_law wsX9_type := goodIn_r _ [142, 143, 144, 118, 145, 146, 147, 5, 148, 782, 783, 784, 785, 786, 787, 788, 789, 790, 791, 792, 793, 794, 795, 796, 797, 798, 799, 800, 801, 802, 803, 804, 805, 806, 807, 808, 809] rfl (by decide +kernel)
set_option maxRecDepth 20000 in
theorem gL_law_X9_type : GoodIn wsL_law (wsV RL 19 RX9 yX9_type wsX9_type) := goodIn_app (goodIn_of _ (by decide +kernel)) ggL_law_X9_type
set_option maxRecDepth 20000 in
theorem ggL_law_X8_clear : GoodIn wsL_law wsX8_clear := goodIn_r _ [152, 16, 771, 772, 773, 774, 775, 776, 777, 778, 779, 780, 781, 810, 811] rfl (by decide +kernel)
set_option maxRecDepth 20000 in
theorem gL_law_X8_clear : GoodIn wsL_law (wsV RL 20 RX8 yX8_clear wsX8_clear) := goodIn_app (goodIn_of _ (by decide +kernel)) ggL_law_X8_clear
set_option maxRecDepth 20000 in
theorem ggL_law_X9_clear : GoodIn wsL_law wsX9_clear := goodIn_r _ [156, 143, 144, 782, 783, 784, 785, 786, 787, 788, 789, 790, 791, 792, 793, 794, 795, 796, 797, 798, 799, 800, 801, 802, 803, 804, 805, 806, 807, 808, 809] rfl (by decide +kernel)
set_option maxRecDepth 20000 in
theorem gL_law_X9_clear : GoodIn wsL_law (wsV RL 24 RX9 yX9_clear wsX9_clear) := goodIn_app (goodIn_of _ (by decide +kernel)) ggL_law_X9_clear
set_option maxRecDepth 20000 in
theorem ggL_law_X8_read : GoodIn wsL_law wsX8_read := goodIn_r _ [160, 20, 22, 25, 16, 161, 162, 163, 19, 164, 165, 166, 54, 167, 168, 169, 53, 170, 171, 172, 173, 174, 175, 61, 176, 177, 178, 179, 180, 15, 181, 138, 46, 182, 183, 184, 185, 186, 187, 188, 189, 190, 191, 192, 193, 194, 195, 196, 197, 198, 199, 86, 200, 201, 202, 203, 204, 205, 206, 207, 208, 209, 210, 211, 212, 213, 214, 215, 216, 217, 218, 219, 220, 221, 222, 223, 224, 225, 226, 227, 228, 229, 85, 87, 230, 231, 232, 233, 234, 235, 236, 237, 238, 239, 240, 241, 242, 243, 244, 245, 246, 247, 248, 249, 250, 251, 252, 253, 254, 255, 256, 257, 258, 259, 260, 261, 262, 263, 264, 265, 266, 267, 268, 269, 270, 271, 272, 273, 274, 275, 276, 277, 278, 279, 280, 281, 282, 283, 284, 285, 286, 287, 288, 289, 290, 291, 292, 56, 293, 294, 295, 296, 297, 298, 299, 300, 301, 302, 303, 304, 305, 306, 307, 308, 309, 310, 311, 312, 313, 314, 315, 316, 317, 318, 319, 320, 321, 322, 323, 324, 325, 24, 326, 327, 328, 329, 330, 331, 771, 772, 773, 774, 775, 776, 777, 778, 779, 780, 781, 812, 813, 814, 815, 816, 810, 811, 828, 829, 830, 831, 832, 817, 818, 819, 820, 821] rfl (by decide +kernel)
set_option maxRecDepth 20000 in
theorem gL_law_X8_read : GoodIn wsL_law (wsV RL 25 RX8 yX8_read wsX8_read) := goodIn_app (goodIn_of _ (by decide +kernel)) ggL_law_X8_read
set_option maxRecDepth 20000 in
theorem ggL_law_X9_read : GoodIn wsL_law wsX9_read := goodIn_r _ [335, 143, 336, 337, 338, 119, 339, 340, 144, 341, 342, 343, 5, 344, 345, 346, 118, 347, 348, 349, 350, 146, 147, 148, 351, 352, 353, 354, 355, 356, 357, 358, 359, 360, 361, 362, 363, 364, 121, 120, 365, 366, 367, 368, 369, 370, 371, 372, 373, 374, 375, 376, 377, 378, 379, 380, 381, 382, 383, 384, 385, 386, 387, 782, 783, 784, 785, 786, 787, 788, 789, 790, 791, 792, 793, 794, 795, 796, 797, 798, 799, 800, 801, 802, 803, 804, 805, 806, 807, 808, 809] rfl (by decide +kernel)
set_option maxRecDepth 20000 in
theorem gL_law_X9_read : GoodIn wsL_law (wsV RL 28 RX9 yX9_read wsX9_read) := goodIn_app (goodIn_of _ (by decide +kernel)) ggL_law_X9_read
set_option maxRecDepth 20000 in
theorem ggL_law_X8_saying : GoodIn wsL_law wsX8_saying := goodIn_r _ [391, 22, 392, 393, 394, 2, 395, 25, 771, 772, 773, 774, 775, 776, 777, 778, 779, 780, 781, 817, 818, 819, 820, 821] rfl (by decide +kernel)
set_option maxRecDepth 20000 in
theorem gL_law_X8_saying : GoodIn wsL_law (wsV RL 29 RX8 yX8_saying wsX8_saying) := goodIn_app (goodIn_of _ (by decide +kernel)) ggL_law_X8_saying
set_option maxRecDepth 20000 in
theorem ggL_law_X9_saying : GoodIn wsL_law wsX9_saying := goodIn_r _ [399, 143, 119, 400, 401, 402, 5, 403, 339, 146, 147, 148, 782, 783, 784, 785, 786, 787, 788, 789, 790, 791, 792, 793, 794, 795, 796, 797, 798, 799, 800, 801, 802, 803, 804, 805, 806, 807, 808, 809] rfl (by decide +kernel)
set_option maxRecDepth 20000 in
theorem gL_law_X9_saying : GoodIn wsL_law (wsV RL 33 RX9 yX9_saying wsX9_saying) := goodIn_app (goodIn_of _ (by decide +kernel)) ggL_law_X9_saying
set_option maxRecDepth 20000 in
theorem ggL_law_X8_on : GoodIn wsL_law wsX8_on := goodIn_r _ [407, 22, 392, 393, 394, 2, 395, 25, 408, 409, 410, 771, 772, 773, 774, 775, 776, 777, 778, 779, 780, 781, 817, 818, 819, 820, 821] rfl (by decide +kernel)
set_option maxRecDepth 20000 in
theorem gL_law_X8_on : GoodIn wsL_law (wsV RL 34 RX8 yX8_on wsX8_on) := goodIn_app (goodIn_of _ (by decide +kernel)) ggL_law_X8_on
set_option maxRecDepth 20000 in
theorem ggL_law_X9_on : GoodIn wsL_law wsX9_on := goodIn_r _ [414, 143, 119, 400, 401, 402, 5, 403, 339, 146, 147, 148, 415, 416, 417, 782, 783, 784, 785, 786, 787, 788, 789, 790, 791, 792, 793, 794, 795, 796, 797, 798, 799, 800, 801, 802, 803, 804, 805, 806, 807, 808, 809] rfl (by decide +kernel)
set_option maxRecDepth 20000 in
theorem gL_law_X9_on : GoodIn wsL_law (wsV RL 37 RX9 yX9_on wsX9_on) := goodIn_app (goodIn_of _ (by decide +kernel)) ggL_law_X9_on
set_option maxRecDepth 20000 in
theorem ggL_law_X8_move : GoodIn wsL_law wsX8_move := goodIn_r _ [421, 22, 392, 393, 394, 2, 395, 25, 408, 409, 410, 422, 423, 424, 425, 426, 427, 771, 772, 773, 774, 775, 776, 777, 778, 779, 780, 781, 817, 818, 819, 820, 821] rfl (by decide +kernel)
set_option maxRecDepth 20000 in
theorem gL_law_X8_move : GoodIn wsL_law (wsV RL 38 RX8 yX8_move wsX8_move) := goodIn_app (goodIn_of _ (by decide +kernel)) ggL_law_X8_move
set_option maxRecDepth 20000 in
theorem ggL_law_X9_move : GoodIn wsL_law wsX9_move := goodIn_r _ [431, 143, 119, 340, 400, 401, 402, 5, 403, 339, 146, 147, 148, 415, 416, 417, 782, 783, 784, 785, 786, 787, 788, 789, 790, 791, 792, 793, 794, 795, 796, 797, 798, 799, 800, 801, 802, 803, 804, 805, 806, 807, 808, 809] rfl (by decide +kernel)
set_option maxRecDepth 20000 in
theorem gL_law_X9_move : GoodIn wsL_law (wsV RL 42 RX9 yX9_move wsX9_move) := goodIn_app (goodIn_of _ (by decide +kernel)) ggL_law_X9_move
set_option maxRecDepth 20000 in
theorem ggL_law_X8_could : GoodIn wsL_law wsX8_could := goodIn_r _ [435, 436, 437, 438, 2, 439, 29, 22, 440, 441, 442, 443, 25, 444, 445, 446, 28, 447, 71, 75, 448, 449, 450, 451, 324, 325, 24, 326, 327, 328, 329, 330, 331, 452, 453, 454, 455, 456, 85, 86, 87, 457, 199, 200, 458, 459, 460, 461, 462, 463, 464, 73, 465, 83, 99, 91, 92, 93, 94, 466, 467, 468, 469, 470, 471, 472, 473, 474, 89, 475, 476, 477, 478, 479, 480, 481, 482, 483, 484, 485, 486, 487, 81, 90, 100, 101, 102, 103, 88, 104, 105, 488, 489, 490, 491, 492, 493, 494, 495, 496, 497, 498, 499, 500, 501, 502, 503, 504, 505, 506, 507, 508, 509, 510, 771, 772, 773, 774, 775, 776, 777, 778, 779, 780, 781, 817, 818, 819, 820, 821, 822, 823, 824, 833, 834, 835, 836, 837, 838, 839, 840, 841, 842] rfl (by decide +kernel)
set_option maxRecDepth 20000 in
theorem gL_law_X8_could : GoodIn wsL_law (wsV RL 43 RX8 yX8_could wsX8_could) := goodIn_app (goodIn_of _ (by decide +kernel)) ggL_law_X8_could
set_option maxRecDepth 20000 in
theorem ggL_law_X9_could : GoodIn wsL_law wsX9_could := goodIn_r _ [514, 143, 515, 516, 517, 5, 518, 519, 520, 521, 522, 523, 339, 119, 524, 525, 526, 527, 340, 528, 529, 126, 127, 530, 531, 532, 533, 534, 535, 536, 128, 537, 129, 124, 125, 538, 539, 540, 541, 542, 543, 544, 545, 546, 547, 548, 549, 550, 782, 783, 784, 785, 786, 787, 788, 789, 790, 791, 792, 793, 794, 795, 796, 797, 798, 799, 800, 801, 802, 803, 804, 805, 806, 807, 808, 809] rfl (by decide +kernel)
set_option maxRecDepth 20000 in
theorem gL_law_X9_could : GoodIn wsL_law (wsV RL 46 RX9 yX9_could wsX9_could) := goodIn_app (goodIn_of _ (by decide +kernel)) ggL_law_X9_could
set_option maxRecDepth 20000 in
theorem ggL_law_X8_bound : GoodIn wsL_law wsX8_bound := goodIn_r _ [554, 555, 37, 556, 557, 2, 558, 408, 409, 410, 436, 437, 438, 439, 29, 22, 440, 441, 442, 443, 25, 444, 445, 446, 28, 447, 71, 75, 448, 449, 450, 451, 324, 325, 24, 326, 327, 328, 329, 330, 331, 452, 453, 454, 455, 456, 85, 86, 87, 457, 199, 200, 458, 459, 460, 461, 462, 463, 464, 73, 465, 83, 99, 91, 92, 93, 94, 466, 467, 468, 469, 470, 471, 472, 473, 474, 89, 475, 476, 477, 478, 479, 480, 481, 482, 483, 484, 485, 486, 487, 81, 90, 100, 101, 102, 103, 88, 104, 105, 488, 489, 490, 491, 492, 493, 494, 495, 496, 497, 498, 499, 500, 501, 502, 503, 504, 505, 506, 559, 560, 561, 562, 563, 564, 565, 36, 566, 567, 568, 569, 570, 571, 572, 573, 574, 575, 576, 577, 578, 579, 580, 581, 582, 583, 584, 771, 772, 773, 774, 775, 776, 777, 778, 779, 780, 781, 817, 818, 819, 820, 821, 822, 823, 824, 833, 834, 835, 836, 837, 838, 839, 840, 841, 842, 826, 827] rfl (by decide +kernel)
set_option maxRecDepth 20000 in
theorem gL_law_X8_bound : GoodIn wsL_law (wsV RL 47 RX8 yX8_bound wsX8_bound) := goodIn_app (goodIn_of _ (by decide +kernel)) ggL_law_X8_bound
set_option maxRecDepth 20000 in
theorem ggL_law_X9_bound : GoodIn wsL_law wsX9_bound := goodIn_r _ [588, 143, 589, 590, 591, 5, 592, 593, 594, 595, 596, 597, 598, 146, 147, 148, 415, 416, 417, 515, 516, 517, 518, 519, 520, 521, 522, 523, 339, 119, 524, 525, 526, 527, 340, 528, 529, 126, 127, 530, 531, 532, 533, 534, 535, 536, 128, 537, 129, 124, 125, 538, 539, 540, 541, 542, 543, 544, 545, 546, 547, 548, 549, 550, 599, 600, 601, 602, 603, 604, 605, 606, 607, 608, 609, 610, 611, 612, 782, 783, 784, 785, 786, 787, 788, 789, 790, 791, 792, 793, 794, 795, 796, 797, 798, 799, 800, 801, 802, 803, 804, 805, 806, 807, 808, 809] rfl (by decide +kernel)
set_option maxRecDepth 20000 in
theorem gL_law_X9_bound : GoodIn wsL_law (wsV RL 51 RX9 yX9_bound wsX9_bound) := goodIn_app (goodIn_of _ (by decide +kernel)) ggL_law_X9_bound
set_option maxRecDepth 20000 in
theorem ggL_law_X8_differ : GoodIn wsL_law wsX8_differ := goodIn_r _ [616, 555, 37, 556, 557, 2, 558, 408, 409, 410, 436, 437, 438, 439, 29, 22, 440, 441, 442, 443, 25, 444, 445, 446, 28, 447, 71, 75, 448, 449, 450, 451, 324, 325, 24, 326, 327, 328, 329, 330, 331, 452, 453, 454, 455, 456, 85, 86, 87, 457, 199, 200, 458, 459, 460, 461, 462, 463, 464, 73, 465, 83, 99, 91, 92, 93, 94, 466, 467, 468, 469, 470, 471, 472, 473, 474, 89, 475, 476, 477, 478, 479, 480, 481, 482, 483, 484, 485, 486, 487, 81, 90, 100, 101, 102, 103, 88, 104, 105, 488, 489, 490, 491, 492, 493, 494, 495, 496, 497, 498, 499, 500, 501, 502, 503, 504, 505, 506, 617, 618, 619, 620, 563, 564, 565, 36, 566, 567, 568, 569, 570, 571, 572, 573, 574, 575, 576, 577, 578, 579, 580, 581, 582, 583, 584, 771, 772, 773, 774, 775, 776, 777, 778, 779, 780, 781, 817, 818, 819, 820, 821, 822, 823, 824, 833, 834, 835, 836, 837, 838, 839, 840, 841, 842, 826, 827] rfl (by decide +kernel)
set_option maxRecDepth 20000 in
theorem gL_law_X8_differ : GoodIn wsL_law (wsV RL 52 RX8 yX8_differ wsX8_differ) := goodIn_app (goodIn_of _ (by decide +kernel)) ggL_law_X8_differ
set_option maxRecDepth 20000 in
theorem ggL_law_X9_differ : GoodIn wsL_law wsX9_differ := goodIn_r _ [624, 143, 589, 590, 591, 5, 592, 593, 594, 595, 596, 597, 598, 146, 147, 148, 415, 416, 417, 515, 516, 517, 518, 519, 520, 521, 522, 523, 339, 119, 524, 525, 526, 527, 340, 528, 529, 126, 127, 530, 531, 532, 533, 534, 535, 536, 128, 537, 129, 124, 125, 538, 539, 540, 541, 542, 543, 544, 545, 546, 547, 548, 549, 550, 599, 600, 601, 602, 603, 604, 605, 606, 607, 608, 609, 610, 611, 612, 782, 783, 784, 785, 786, 787, 788, 789, 790, 791, 792, 793, 794, 795, 796, 797, 798, 799, 800, 801, 802, 803, 804, 805, 806, 807, 808, 809] rfl (by decide +kernel)
set_option maxRecDepth 20000 in
theorem gL_law_X9_differ : GoodIn wsL_law (wsV RL 55 RX9 yX9_differ wsX9_differ) := goodIn_app (goodIn_of _ (by decide +kernel)) ggL_law_X9_differ
set_option maxRecDepth 20000 in
theorem ggL_law_X8_first : GoodIn wsL_law wsX8_first := goodIn_r _ [628, 555, 37, 629, 630, 2, 631, 408, 409, 410, 436, 437, 438, 439, 29, 22, 440, 441, 442, 443, 25, 444, 445, 446, 28, 447, 71, 75, 448, 449, 450, 451, 324, 325, 24, 326, 327, 328, 329, 330, 331, 452, 453, 454, 455, 456, 85, 86, 87, 457, 199, 200, 458, 459, 460, 461, 462, 463, 464, 73, 465, 83, 99, 91, 92, 93, 94, 466, 467, 468, 469, 470, 471, 472, 473, 474, 89, 475, 476, 477, 478, 479, 480, 481, 482, 483, 484, 485, 486, 487, 81, 90, 100, 101, 102, 103, 88, 104, 105, 488, 489, 490, 491, 492, 493, 494, 495, 496, 497, 498, 499, 500, 501, 502, 503, 504, 505, 506, 632, 633, 634, 635, 563, 564, 565, 36, 566, 567, 568, 636, 637, 638, 639, 640, 574, 575, 576, 577, 578, 579, 580, 581, 582, 583, 584, 771, 772, 773, 774, 775, 776, 777, 778, 779, 780, 781, 817, 818, 819, 820, 821, 822, 823, 824, 833, 834, 835, 836, 837, 838, 839, 840, 841, 842, 826, 827] rfl (by decide +kernel)
set_option maxRecDepth 20000 in
theorem gL_law_X8_first : GoodIn wsL_law (wsV RL 56 RX8 yX8_first wsX8_first) := goodIn_app (goodIn_of _ (by decide +kernel)) ggL_law_X8_first
set_option maxRecDepth 20000 in
theorem ggL_law_X9_first : GoodIn wsL_law wsX9_first := goodIn_r _ [644, 143, 593, 529, 124, 125, 146, 147, 5, 148, 415, 416, 417, 515, 516, 517, 518, 519, 520, 521, 522, 523, 339, 119, 524, 525, 526, 527, 340, 528, 126, 127, 530, 531, 532, 533, 534, 535, 536, 128, 537, 129, 538, 539, 540, 541, 542, 543, 544, 545, 546, 547, 548, 549, 550, 607, 608, 609, 610, 611, 612, 782, 783, 784, 785, 786, 787, 788, 789, 790, 791, 792, 793, 794, 795, 796, 797, 798, 799, 800, 801, 802, 803, 804, 805, 806, 807, 808, 809] rfl (by decide +kernel)
set_option maxRecDepth 20000 in
theorem gL_law_X9_first : GoodIn wsL_law (wsV RL 60 RX9 yX9_first wsX9_first) := goodIn_app (goodIn_of _ (by decide +kernel)) ggL_law_X9_first
set_option maxRecDepth 20000 in
theorem ggL_law_X8_never : GoodIn wsL_law wsX8_never := goodIn_r _ [648, 436, 437, 438, 2, 439, 29, 22, 440, 441, 442, 443, 25, 444, 445, 446, 28, 447, 71, 75, 448, 449, 450, 451, 324, 325, 24, 326, 327, 328, 329, 330, 331, 452, 453, 454, 455, 456, 85, 86, 87, 457, 199, 200, 458, 459, 460, 461, 462, 463, 464, 73, 465, 83, 99, 91, 92, 93, 94, 466, 467, 468, 469, 470, 471, 472, 473, 474, 89, 475, 476, 477, 478, 479, 480, 481, 482, 483, 484, 485, 486, 487, 81, 90, 100, 101, 102, 103, 88, 104, 105, 488, 489, 490, 491, 492, 493, 494, 495, 496, 497, 498, 499, 500, 501, 502, 503, 504, 505, 506, 649, 650, 651, 652, 771, 772, 773, 774, 775, 776, 777, 778, 779, 780, 781, 817, 818, 819, 820, 821, 822, 823, 824, 833, 834, 835, 836, 837, 838, 839, 840, 841, 842] rfl (by decide +kernel)
set_option maxRecDepth 20000 in
theorem gL_law_X8_never : GoodIn wsL_law (wsV RL 61 RX8 yX8_never wsX8_never) := goodIn_app (goodIn_of _ (by decide +kernel)) ggL_law_X8_never
set_option maxRecDepth 20000 in
theorem ggL_law_X9_never : GoodIn wsL_law wsX9_never := goodIn_r _ [656, 143, 529, 124, 515, 516, 517, 5, 518, 519, 520, 521, 522, 523, 339, 119, 524, 525, 526, 527, 340, 528, 126, 127, 530, 531, 532, 533, 534, 535, 536, 128, 537, 129, 125, 538, 539, 540, 541, 542, 543, 544, 545, 546, 547, 548, 549, 550, 782, 783, 784, 785, 786, 787, 788, 789, 790, 791, 792, 793, 794, 795, 796, 797, 798, 799, 800, 801, 802, 803, 804, 805, 806, 807, 808, 809] rfl (by decide +kernel)
set_option maxRecDepth 20000 in
theorem gL_law_X9_never : GoodIn wsL_law (wsV RL 64 RX9 yX9_never wsX9_never) := goodIn_app (goodIn_of _ (by decide +kernel)) ggL_law_X9_never
set_option maxRecDepth 20000 in
theorem ggL_law_X8_quarrel : GoodIn wsL_law wsX8_quarrel := goodIn_r _ [660, 408, 409, 2, 410, 661, 662, 663, 664, 29, 22, 440, 441, 442, 443, 25, 665, 666, 667, 668, 497, 498, 499, 500, 501, 502, 444, 445, 446, 28, 447, 71, 75, 448, 449, 450, 451, 324, 325, 24, 326, 327, 328, 329, 330, 331, 452, 453, 454, 455, 456, 85, 86, 87, 457, 199, 200, 458, 459, 460, 461, 462, 463, 464, 73, 465, 83, 99, 91, 92, 93, 94, 466, 467, 468, 469, 470, 471, 472, 473, 474, 89, 475, 476, 477, 478, 479, 480, 481, 482, 483, 484, 485, 486, 487, 81, 90, 100, 101, 102, 103, 88, 104, 105, 488, 489, 490, 491, 492, 493, 494, 495, 496, 503, 504, 505, 506, 507, 508, 509, 510, 771, 772, 773, 774, 775, 776, 777, 778, 779, 780, 781, 817, 818, 819, 820, 821, 822, 823, 824, 833, 834, 835, 836, 837, 838, 839, 840, 841, 842] rfl (by decide +kernel)
set_option maxRecDepth 20000 in
theorem gL_law_X8_quarrel : GoodIn wsL_law (wsV RL 65 RX8 yX8_quarrel wsX8_quarrel) := goodIn_app (goodIn_of _ (by decide +kernel)) ggL_law_X8_quarrel
set_option maxRecDepth 20000 in
theorem ggL_law_X9_quarrel : GoodIn wsL_law wsX9_quarrel := goodIn_r _ [672, 143, 519, 415, 416, 5, 417, 520, 521, 522, 523, 339, 119, 530, 531, 532, 524, 525, 526, 527, 340, 528, 529, 126, 127, 533, 534, 535, 536, 128, 537, 129, 124, 125, 538, 539, 540, 541, 542, 543, 544, 545, 546, 547, 548, 549, 550, 782, 783, 784, 785, 786, 787, 788, 789, 790, 791, 792, 793, 794, 795, 796, 797, 798, 799, 800, 801, 802, 803, 804, 805, 806, 807, 808, 809] rfl (by decide +kernel)
set_option maxRecDepth 20000 in
theorem gL_law_X9_quarrel : GoodIn wsL_law (wsV RL 69 RX9 yX9_quarrel wsX9_quarrel) := goodIn_app (goodIn_of _ (by decide +kernel)) ggL_law_X9_quarrel
set_option maxRecDepth 20000 in
theorem ggL_law_X8_follows : GoodIn wsL_law wsX8_follows := goodIn_r _ [676, 29, 22, 392, 393, 394, 2, 395, 25, 440, 441, 442, 443, 444, 445, 446, 28, 447, 71, 75, 448, 449, 450, 451, 324, 325, 24, 326, 327, 328, 329, 330, 331, 452, 453, 454, 455, 456, 85, 86, 87, 457, 199, 200, 458, 459, 460, 461, 462, 463, 464, 73, 465, 83, 99, 91, 92, 93, 94, 466, 467, 468, 469, 470, 471, 472, 473, 474, 89, 475, 476, 477, 478, 479, 480, 481, 482, 483, 484, 485, 486, 487, 81, 90, 100, 101, 102, 103, 88, 104, 105, 488, 489, 490, 491, 492, 493, 494, 495, 496, 497, 498, 499, 500, 501, 502, 503, 504, 505, 506, 677, 678, 679, 680, 681, 682, 683, 684, 685, 686, 771, 772, 773, 774, 775, 776, 777, 778, 779, 780, 781, 817, 818, 819, 820, 821, 822, 823, 824, 833, 834, 835, 836, 837, 838, 839, 840, 841, 842] rfl (by decide +kernel)
set_option maxRecDepth 20000 in
theorem gL_law_X8_follows : GoodIn wsL_law (wsV RL 70 RX8 yX8_follows wsX8_follows) := goodIn_app (goodIn_of _ (by decide +kernel)) ggL_law_X8_follows
set_option maxRecDepth 20000 in
theorem ggL_law_X9_follows : GoodIn wsL_law wsX9_follows := goodIn_r _ [690, 143, 519, 529, 124, 400, 401, 402, 5, 403, 339, 146, 147, 148, 520, 521, 522, 523, 119, 524, 525, 526, 527, 340, 528, 126, 127, 530, 531, 532, 533, 534, 535, 536, 128, 537, 129, 125, 538, 539, 540, 541, 542, 543, 544, 545, 546, 547, 548, 549, 550, 782, 783, 784, 785, 786, 787, 788, 789, 790, 791, 792, 793, 794, 795, 796, 797, 798, 799, 800, 801, 802, 803, 804, 805, 806, 807, 808, 809] rfl (by decide +kernel)
set_option maxRecDepth 20000 in
theorem gL_law_X9_follows : GoodIn wsL_law (wsV RL 73 RX9 yX9_follows wsX9_follows) := goodIn_app (goodIn_of _ (by decide +kernel)) ggL_law_X9_follows
set_option maxRecDepth 20000 in
theorem ggL_law_X8_needed : GoodIn wsL_law wsX8_needed := goodIn_r _ [694, 556, 557, 2, 558, 408, 409, 410, 695, 696, 697, 698, 29, 22, 40, 41, 38, 39, 440, 441, 442, 443, 25, 444, 445, 446, 28, 447, 71, 75, 448, 449, 450, 451, 324, 325, 24, 326, 327, 328, 329, 330, 331, 452, 453, 454, 455, 456, 85, 86, 87, 457, 199, 200, 458, 459, 460, 461, 462, 463, 464, 73, 465, 83, 99, 91, 92, 93, 94, 466, 467, 468, 469, 470, 471, 472, 473, 474, 89, 475, 476, 477, 478, 479, 480, 481, 482, 483, 484, 485, 486, 487, 81, 90, 100, 101, 102, 103, 88, 104, 105, 488, 489, 490, 491, 492, 493, 494, 495, 496, 497, 498, 499, 500, 501, 502, 503, 504, 505, 506, 559, 560, 561, 562, 563, 564, 565, 36, 566, 567, 568, 569, 570, 571, 572, 573, 574, 575, 576, 665, 666, 667, 668, 699, 700, 701, 702, 771, 772, 773, 774, 775, 776, 777, 778, 779, 780, 781, 817, 818, 819, 820, 821, 822, 823, 824, 833, 834, 835, 836, 837, 838, 839, 840, 841, 842, 826, 827] rfl (by decide +kernel)
set_option maxRecDepth 20000 in
theorem gL_law_X8_needed : GoodIn wsL_law (wsV RL 74 RX8 yX8_needed wsX8_needed) := goodIn_app (goodIn_of _ (by decide +kernel)) ggL_law_X8_needed
set_option maxRecDepth 20000 in
theorem ggL_law_X9_needed : GoodIn wsL_law wsX9_needed := goodIn_r _ [706, 143, 594, 595, 596, 597, 5, 598, 146, 147, 148, 415, 416, 417, 515, 516, 517, 518, 519, 520, 521, 522, 523, 339, 119, 524, 525, 526, 527, 340, 528, 529, 126, 127, 530, 531, 532, 533, 534, 535, 536, 128, 537, 129, 124, 125, 538, 539, 540, 541, 542, 543, 544, 545, 546, 547, 548, 549, 550, 599, 600, 601, 602, 603, 604, 605, 606, 782, 783, 784, 785, 786, 787, 788, 789, 790, 791, 792, 793, 794, 795, 796, 797, 798, 799, 800, 801, 802, 803, 804, 805, 806, 807, 808, 809] rfl (by decide +kernel)
set_option maxRecDepth 20000 in
theorem gL_law_X9_needed : GoodIn wsL_law (wsV RL 77 RX9 yX9_needed wsX9_needed) := goodIn_app (goodIn_of _ (by decide +kernel)) ggL_law_X9_needed
set_option maxRecDepth 20000 in
theorem ggL_law_X8_gives : GoodIn wsL_law wsX8_gives := goodIn_r _ [710, 392, 393, 394, 2, 395, 25, 440, 441, 442, 443, 22, 711, 712, 713, 714, 29, 444, 445, 446, 28, 447, 71, 75, 448, 449, 450, 451, 324, 325, 24, 326, 327, 328, 329, 330, 331, 452, 453, 454, 455, 456, 85, 86, 87, 457, 199, 200, 458, 459, 460, 461, 462, 463, 464, 73, 465, 83, 99, 91, 92, 93, 94, 466, 467, 468, 469, 470, 471, 472, 473, 474, 89, 475, 476, 477, 478, 479, 480, 481, 482, 483, 484, 485, 486, 487, 81, 90, 100, 101, 102, 103, 88, 104, 105, 488, 489, 490, 491, 492, 493, 494, 495, 496, 497, 498, 499, 500, 501, 502, 503, 504, 505, 506, 507, 508, 509, 510, 771, 772, 773, 774, 775, 776, 777, 778, 779, 780, 781, 817, 818, 819, 820, 821, 822, 823, 824, 833, 834, 835, 836, 837, 838, 839, 840, 841, 842] rfl (by decide +kernel)
set_option maxRecDepth 20000 in
theorem gL_law_X8_gives : GoodIn wsL_law (wsV RL 78 RX8 yX8_gives wsX8_gives) := goodIn_app (goodIn_of _ (by decide +kernel)) ggL_law_X8_gives
set_option maxRecDepth 20000 in
theorem ggL_law_X9_gives : GoodIn wsL_law wsX9_gives := goodIn_r _ [718, 143, 519, 546, 400, 401, 402, 5, 403, 339, 146, 147, 148, 520, 521, 522, 523, 119, 524, 525, 526, 527, 340, 528, 529, 126, 127, 530, 531, 532, 533, 534, 535, 536, 128, 537, 129, 124, 125, 538, 539, 540, 541, 542, 543, 544, 545, 547, 548, 549, 550, 782, 783, 784, 785, 786, 787, 788, 789, 790, 791, 792, 793, 794, 795, 796, 797, 798, 799, 800, 801, 802, 803, 804, 805, 806, 807, 808, 809] rfl (by decide +kernel)
set_option maxRecDepth 20000 in
theorem gL_law_X9_gives : GoodIn wsL_law (wsV RL 81 RX9 yX9_gives wsX9_gives) := goodIn_app (goodIn_of _ (by decide +kernel)) ggL_law_X9_gives
set_option maxRecDepth 20000 in
theorem ggL_law_X8_tell : GoodIn wsL_law wsX8_tell := goodIn_r _ [722, 33, 629, 630, 2, 631, 771, 772, 773, 774, 775, 776, 777, 778, 779, 780, 781, 825] rfl (by decide +kernel)
set_option maxRecDepth 20000 in
theorem gL_law_X8_tell : GoodIn wsL_law (wsV RL 82 RX8 yX8_tell wsX8_tell) := goodIn_app (goodIn_of _ (by decide +kernel)) ggL_law_X8_tell
set_option maxRecDepth 20000 in
theorem ggL_law_X9_tell : GoodIn wsL_law wsX9_tell := goodIn_r _ [726, 143, 122, 146, 147, 5, 148, 782, 783, 784, 785, 786, 787, 788, 789, 790, 791, 792, 793, 794, 795, 796, 797, 798, 799, 800, 801, 802, 803, 804, 805, 806, 807, 808, 809] rfl (by decide +kernel)
set_option maxRecDepth 20000 in
theorem gL_law_X9_tell : GoodIn wsL_law (wsV RL 85 RX9 yX9_tell wsX9_tell) := goodIn_app (goodIn_of _ (by decide +kernel)) ggL_law_X9_tell
set_option maxRecDepth 20000 in
theorem ggL_law_X8_check : GoodIn wsL_law wsX8_check := goodIn_r _ [730, 33, 25, 22, 731, 732, 733, 32, 734, 735, 736, 737, 738, 110, 449, 2, 450, 739, 740, 741, 742, 743, 682, 683, 24, 684, 685, 476, 477, 478, 479, 329, 686, 481, 482, 483, 330, 771, 772, 773, 774, 775, 776, 777, 778, 779, 780, 781, 817, 818, 819, 820, 821, 825] rfl (by decide +kernel)
set_option maxRecDepth 20000 in
theorem gL_law_X8_check : GoodIn wsL_law (wsV RL 86 RX8 yX8_check wsX8_check) := goodIn_app (goodIn_of _ (by decide +kernel)) ggL_law_X8_check
set_option maxRecDepth 20000 in
theorem ggL_law_X9_check : GoodIn wsL_law wsX9_check := goodIn_r _ [747, 143, 339, 119, 748, 749, 750, 5, 751, 122, 782, 783, 784, 785, 786, 787, 788, 789, 790, 791, 792, 793, 794, 795, 796, 797, 798, 799, 800, 801, 802, 803, 804, 805, 806, 807, 808, 809] rfl (by decide +kernel)
set_option maxRecDepth 20000 in
theorem gL_law_X9_check : GoodIn wsL_law (wsV RL 89 RX9 yX9_check wsX9_check) := goodIn_app (goodIn_of _ (by decide +kernel)) ggL_law_X9_check
set_option maxRecDepth 20000 in
theorem ggL_law_X8_pull : GoodIn wsL_law wsX8_pull := goodIn_r _ [755, 555, 37, 33, 556, 557, 2, 558, 629, 630, 631, 408, 409, 410, 756, 564, 565, 36, 566, 567, 568, 731, 732, 733, 32, 734, 735, 736, 737, 738, 110, 449, 450, 757, 758, 574, 575, 576, 577, 578, 579, 580, 581, 582, 86, 583, 584, 104, 105, 771, 772, 773, 774, 775, 776, 777, 778, 779, 780, 781, 826, 827, 825] rfl (by decide +kernel)
set_option maxRecDepth 20000 in
theorem gL_law_X8_pull : GoodIn wsL_law (wsV RL 90 RX8 yX8_pull wsX8_pull) := goodIn_app (goodIn_of _ (by decide +kernel)) ggL_law_X8_pull
set_option maxRecDepth 20000 in
theorem ggL_law_X9_pull : GoodIn wsL_law wsX9_pull := goodIn_r _ [762, 143, 593, 122, 596, 597, 5, 598, 146, 147, 148, 415, 416, 417, 748, 749, 750, 751, 607, 608, 609, 610, 611, 612, 782, 783, 784, 785, 786, 787, 788, 789, 790, 791, 792, 793, 794, 795, 796, 797, 798, 799, 800, 801, 802, 803, 804, 805, 806, 807, 808, 809] rfl (by decide +kernel)
set_option maxRecDepth 20000 in
theorem gL_law_X9_pull : GoodIn wsL_law (wsV RL 94 RX9 yX9_pull wsX9_pull) := goodIn_app (goodIn_of _ (by decide +kernel)) ggL_law_X9_pull
set_option maxRecDepth 20000 in
theorem ggL_law_X8_count : GoodIn wsL_law wsX8_count := goodIn_r _ [766, 25, 16, 33, 440, 441, 442, 2, 443, 22, 668, 497, 498, 499, 500, 501, 502, 757, 736, 737, 32, 738, 110, 449, 450, 771, 772, 773, 774, 775, 776, 777, 778, 779, 780, 781, 810, 811, 817, 818, 819, 820, 821, 825] rfl (by decide +kernel)
set_option maxRecDepth 20000 in
theorem gL_law_X8_count : GoodIn wsL_law (wsV RL 95 RX8 yX8_count wsX8_count) := goodIn_app (goodIn_of _ (by decide +kernel)) ggL_law_X8_count
set_option maxRecDepth 20000 in
theorem ggL_law_X9_count : GoodIn wsL_law wsX9_count := goodIn_r _ [770, 143, 339, 144, 520, 521, 522, 5, 523, 119, 530, 531, 532, 748, 749, 750, 751, 122, 782, 783, 784, 785, 786, 787, 788, 789, 790, 791, 792, 793, 794, 795, 796, 797, 798, 799, 800, 801, 802, 803, 804, 805, 806, 807, 808, 809] rfl (by decide +kernel)
set_option maxRecDepth 20000 in
theorem gL_law_X9_count : GoodIn wsL_law (wsV RL 98 RX9 yX9_count wsX9_count) := goodIn_app (goodIn_of _ (by decide +kernel)) ggL_law_X9_count
theorem dL_law_0 : decode cL_law 0 = .ok (.new 7, 3) := by decide +kernel
theorem dL_law_3 : decode cL_law 3 = .ok (.dup, 1) := by decide +kernel
theorem dL_law_4 : decode cL_law 4 = .ok (.invokespecial 9, 3) := by decide +kernel
theorem dL_law_7 : decode cL_law 7 = .ok (.astore_n 1, 1) := by decide +kernel
theorem dL_law_8 : decode cL_law 8 = .ok (.new 10, 3) := by decide +kernel
theorem dL_law_11 : decode cL_law 11 = .ok (.dup, 1) := by decide +kernel
theorem dL_law_12 : decode cL_law 12 = .ok (.invokespecial 12, 3) := by decide +kernel
theorem dL_law_15 : decode cL_law 15 = .ok (.astore_n 2, 1) := by decide +kernel
theorem dL_law_16 : decode cL_law 16 = .ok (.iconst 0, 1) := by decide +kernel
theorem dL_law_17 : decode cL_law 17 = .ok (.istore_n 3, 1) := by decide +kernel
theorem dL_law_18 : decode cL_law 18 = .ok (.iload_n 3, 1) := by decide +kernel
theorem dL_law_19 : decode cL_law 19 = .ok (.aload_n 0, 1) := by decide +kernel
theorem dL_law_20 : decode cL_law 20 = .ok (.arraylength, 1) := by decide +kernel
theorem dL_law_21 : decode cL_law 21 = .ok (.iconst 5, 1) := by decide +kernel
theorem dL_law_22 : decode cL_law 22 = .ok (.isub, 1) := by decide +kernel
theorem dL_law_23 : decode cL_law 23 = .ok (.if_icmp .gt 698, 3) := by decide +kernel
theorem dL_law_26 : decode cL_law 26 = .ok (.aload_n 0, 1) := by decide +kernel
theorem dL_law_27 : decode cL_law 27 = .ok (.iload_n 3, 1) := by decide +kernel
theorem dL_law_28 : decode cL_law 28 = .ok (.iaload, 1) := by decide +kernel
theorem dL_law_29 : decode cL_law 29 = .ok (.bipush 31, 2) := by decide +kernel
theorem dL_law_31 : decode cL_law 31 = .ok (.iand, 1) := by decide +kernel
theorem dL_law_32 : decode cL_law 32 = .ok (.tableswitch 683 0 18 #[92, 155, 168, 181, 214, 247, 290, 303, 357, 411, 445, 458, 481, 504, 547, 570, 603, 616, 660], 92) := by decide +kernel
theorem dL_law_124 : decode cL_law 124 = .ok (.aload_n 1, 1) := by decide +kernel
theorem dL_law_125 : decode cL_law 125 = .ok (.aload_n 0, 1) := by decide +kernel
theorem dL_law_126 : decode cL_law 126 = .ok (.iload_n 3, 1) := by decide +kernel
theorem dL_law_127 : decode cL_law 127 = .ok (.iconst 1, 1) := by decide +kernel
theorem dL_law_128 : decode cL_law 128 = .ok (.iadd, 1) := by decide +kernel
theorem dL_law_129 : decode cL_law 129 = .ok (.iaload, 1) := by decide +kernel
theorem dL_law_130 : decode cL_law 130 = .ok (.i2l, 1) := by decide +kernel
theorem dL_law_131 : decode cL_law 131 = .ok (.bipush 32, 2) := by decide +kernel
theorem dL_law_133 : decode cL_law 133 = .ok (.lshl, 1) := by decide +kernel
theorem dL_law_134 : decode cL_law 134 = .ok (.aload_n 0, 1) := by decide +kernel
theorem dL_law_135 : decode cL_law 135 = .ok (.iload_n 3, 1) := by decide +kernel
theorem dL_law_136 : decode cL_law 136 = .ok (.iconst 2, 1) := by decide +kernel
theorem dL_law_137 : decode cL_law 137 = .ok (.iadd, 1) := by decide +kernel
theorem dL_law_138 : decode cL_law 138 = .ok (.iaload, 1) := by decide +kernel
theorem dL_law_139 : decode cL_law 139 = .ok (.i2l, 1) := by decide +kernel
theorem dL_law_140 : decode cL_law 140 = .ok (.ldc2_w 13, 3) := by decide +kernel
theorem dL_law_143 : decode cL_law 143 = .ok (.land, 1) := by decide +kernel
theorem dL_law_144 : decode cL_law 144 = .ok (.lor, 1) := by decide +kernel
theorem dL_law_145 : decode cL_law 145 = .ok (.aload_n 0, 1) := by decide +kernel
theorem dL_law_146 : decode cL_law 146 = .ok (.iload_n 3, 1) := by decide +kernel
theorem dL_law_147 : decode cL_law 147 = .ok (.iconst 3, 1) := by decide +kernel
theorem dL_law_148 : decode cL_law 148 = .ok (.iadd, 1) := by decide +kernel
theorem dL_law_149 : decode cL_law 149 = .ok (.iaload, 1) := by decide +kernel
theorem dL_law_150 : decode cL_law 150 = .ok (.invokevirtual 15, 3) := by decide +kernel
theorem dL_law_153 : decode cL_law 153 = .ok (.aload_n 2, 1) := by decide +kernel
theorem dL_law_154 : decode cL_law 154 = .ok (.aload_n 0, 1) := by decide +kernel
theorem dL_law_155 : decode cL_law 155 = .ok (.iload_n 3, 1) := by decide +kernel
theorem dL_law_156 : decode cL_law 156 = .ok (.iconst 1, 1) := by decide +kernel
theorem dL_law_157 : decode cL_law 157 = .ok (.iadd, 1) := by decide +kernel
theorem dL_law_158 : decode cL_law 158 = .ok (.iaload, 1) := by decide +kernel
theorem dL_law_159 : decode cL_law 159 = .ok (.i2l, 1) := by decide +kernel
theorem dL_law_160 : decode cL_law 160 = .ok (.bipush 32, 2) := by decide +kernel
theorem dL_law_162 : decode cL_law 162 = .ok (.lshl, 1) := by decide +kernel
theorem dL_law_163 : decode cL_law 163 = .ok (.aload_n 0, 1) := by decide +kernel
theorem dL_law_164 : decode cL_law 164 = .ok (.iload_n 3, 1) := by decide +kernel
theorem dL_law_165 : decode cL_law 165 = .ok (.iconst 2, 1) := by decide +kernel
theorem dL_law_166 : decode cL_law 166 = .ok (.iadd, 1) := by decide +kernel
theorem dL_law_167 : decode cL_law 167 = .ok (.iaload, 1) := by decide +kernel
