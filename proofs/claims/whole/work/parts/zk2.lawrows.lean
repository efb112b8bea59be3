set_option maxRecDepth 20000 in
theorem ggL_law_X6_make : GoodIn wsL_law wsX6_make := goodIn_r _ [387, 388, 228, 389, 390, 374, 20, 391, 392, 229, 230, 231, 2, 232, 233, 16, 140, 141, 142, 202, 203, 204, 205, 29, 393, 394, 395, 23, 396, 48, 49, 397, 398, 399, 400, 401, 402, 403, 19, 404, 39, 405, 406, 407, 408, 38, 409, 410, 411, 412, 413, 414, 415, 416, 417, 418, 419, 420, 421, 422, 423, 424, 425, 426, 427, 428, 429, 266, 430, 431, 432, 433, 434, 435, 436, 437, 40, 438, 439, 156, 440, 441, 442, 443, 444, 445, 446, 447, 448, 449, 450, 451, 452, 453, 454, 455, 272, 263, 44, 45, 46, 456, 457, 458, 459, 349, 350, 351, 352, 902, 903, 904, 905, 906, 848, 849, 850, 851, 852, 853, 889, 890, 891, 892, 893, 894, 895, 884, 885, 886, 887, 888] rfl (by decide +kernel)
set_option maxRecDepth 20000 in
theorem gL_law_X6_make : GoodIn wsL_law (wsV RL 70 RX6 yX6_make wsX6_make) := goodIn_app (goodIn_r _ [384, 385, 386, 2] rfl (by decide +kernel)) ggL_law_X6_make
set_option maxRecDepth 20000 in
theorem ggL_law_X7_make : GoodIn wsL_law wsX7_make := goodIn_r _ [463, 92, 82, 84, 91, 97, 464, 98, 96, 465, 432, 266, 433, 466, 429, 430, 93, 94, 95, 89, 90, 110, 301, 302, 5, 303, 358, 359, 360, 361, 467, 468, 469, 470, 471, 472, 473, 854, 855, 856, 857, 858, 859, 860, 861, 862, 863, 864, 865, 866, 867, 868, 869, 870, 871, 872, 873, 874, 875, 876, 877, 878, 879, 880, 881, 882, 883] rfl (by decide +kernel)
set_option maxRecDepth 20000 in
theorem gL_law_X7_make : GoodIn wsL_law (wsV RL 74 RX7 yX7_make wsX7_make) := goodIn_app (goodIn_r _ [460, 461, 462, 5] rfl (by decide +kernel)) ggL_law_X7_make
set_option maxRecDepth 20000 in
theorem ggL_law_X6_away : GoodIn wsL_law wsX6_away := goodIn_r _ [477, 389, 478, 229, 230, 231, 2, 232, 233, 16, 140, 141, 142, 143, 144, 145, 146, 29, 479, 269, 270, 23, 271, 272, 158, 159, 160, 161, 902, 903, 904, 905, 906, 889, 890, 891, 892, 893, 894, 895, 848, 849, 850, 851, 852, 853] rfl (by decide +kernel)
set_option maxRecDepth 20000 in
theorem gL_law_X6_away : GoodIn wsL_law (wsV RL 75 RX6 yX6_away wsX6_away) := goodIn_app (goodIn_r _ [474, 475, 476, 2] rfl (by decide +kernel)) ggL_law_X6_away
set_option maxRecDepth 20000 in
theorem ggL_law_X7_away : GoodIn wsL_law wsX7_away := goodIn_r _ [483, 89, 484, 485, 486, 5, 487, 301, 302, 303, 169, 170, 171, 172, 110, 854, 855, 856, 857, 858, 859, 860, 861, 862, 863, 864, 865, 866, 867, 868, 869, 870, 871, 872, 873, 874, 875, 876, 877, 878, 879, 880, 881, 882, 883] rfl (by decide +kernel)
set_option maxRecDepth 20000 in
theorem gL_law_X7_away : GoodIn wsL_law (wsV RL 79 RX7 yX7_away wsX7_away) := goodIn_app (goodIn_r _ [480, 481, 482, 5] rfl (by decide +kernel)) ggL_law_X7_away
set_option maxRecDepth 20000 in
theorem ggL_law_X6_sketch : GoodIn wsL_law wsX6_sketch := goodIn_r _ [491, 134, 389, 478, 229, 230, 231, 2, 232, 233, 16, 140, 141, 142, 202, 203, 204, 205, 29, 479, 269, 270, 23, 271, 272, 349, 350, 351, 352, 492, 493, 494, 495, 496, 497, 498, 499, 500, 432, 266, 433, 48, 501, 502, 503, 504, 46, 505, 506, 507, 508, 45, 902, 903, 904, 905, 906, 889, 890, 891, 892, 893, 894, 895, 848, 849, 850, 851, 852, 853] rfl (by decide +kernel)
set_option maxRecDepth 20000 in
theorem gL_law_X6_sketch : GoodIn wsL_law (wsV RL 80 RX6 yX6_sketch wsX6_sketch) := goodIn_app (goodIn_r _ [488, 489, 490, 2] rfl (by decide +kernel)) ggL_law_X6_sketch
set_option maxRecDepth 20000 in
theorem ggL_law_X7_sketch : GoodIn wsL_law wsX7_sketch := goodIn_r _ [512, 110, 89, 92, 95, 94, 484, 485, 486, 5, 487, 301, 302, 303, 358, 359, 360, 361, 854, 855, 856, 857, 858, 859, 860, 861, 862, 863, 864, 865, 866, 867, 868, 869, 870, 871, 872, 873, 874, 875, 876, 877, 878, 879, 880, 881, 882, 883] rfl (by decide +kernel)
set_option maxRecDepth 20000 in
theorem gL_law_X7_sketch : GoodIn wsL_law (wsV RL 83 RX7 yX7_sketch wsX7_sketch) := goodIn_app (goodIn_r _ [509, 510, 511, 5] rfl (by decide +kernel)) ggL_law_X7_sketch
set_option maxRecDepth 20000 in
theorem ggL_law_X6_span : GoodIn wsL_law wsX6_span := goodIn_r _ [516, 389, 478, 517, 518, 519, 229, 230, 231, 2, 232, 233, 16, 140, 141, 142, 202, 203, 204, 205, 29, 479, 269, 270, 23, 271, 272, 520, 457, 458, 459, 44, 349, 350, 351, 352, 521, 522, 523, 524, 456, 496, 497, 498, 499, 500, 432, 266, 433, 48, 902, 903, 904, 905, 906, 889, 890, 891, 892, 893, 894, 895, 848, 849, 850, 851, 852, 853] rfl (by decide +kernel)
set_option maxRecDepth 20000 in
theorem gL_law_X6_span : GoodIn wsL_law (wsV RL 84 RX6 yX6_span wsX6_span) := goodIn_app (goodIn_r _ [513, 514, 515, 2] rfl (by decide +kernel)) ggL_law_X6_span
set_option maxRecDepth 20000 in
theorem ggL_law_X7_span : GoodIn wsL_law wsX7_span := goodIn_r _ [528, 89, 110, 93, 94, 95, 484, 485, 486, 5, 487, 301, 302, 303, 358, 359, 360, 361, 529, 530, 531, 532, 533, 534, 535, 536, 537, 538, 539, 540, 92, 854, 855, 856, 857, 858, 859, 860, 861, 862, 863, 864, 865, 866, 867, 868, 869, 870, 871, 872, 873, 874, 875, 876, 877, 878, 879, 880, 881, 882, 883] rfl (by decide +kernel)
set_option maxRecDepth 20000 in
theorem gL_law_X7_span : GoodIn wsL_law (wsV RL 88 RX7 yX7_span wsX7_span) := goodIn_app (goodIn_r _ [525, 526, 527, 5] rfl (by decide +kernel)) ggL_law_X7_span
set_option maxRecDepth 20000 in
theorem ggL_law_X6_heavy : GoodIn wsL_law wsX6_heavy := goodIn_r _ [544, 389, 391, 545, 229, 230, 231, 2, 232, 233, 16, 140, 141, 142, 546, 257, 258, 238, 202, 203, 204, 205, 29, 479, 269, 270, 23, 271, 272, 349, 350, 351, 352, 902, 903, 904, 905, 906, 889, 890, 891, 892, 893, 894, 895, 848, 849, 850, 851, 852, 853] rfl (by decide +kernel)
set_option maxRecDepth 20000 in
theorem gL_law_X6_heavy : GoodIn wsL_law (wsV RL 89 RX6 yX6_heavy wsX6_heavy) := goodIn_app (goodIn_r _ [541, 542, 543, 2] rfl (by decide +kernel)) ggL_law_X6_heavy
set_option maxRecDepth 20000 in
theorem ggL_law_X7_heavy : GoodIn wsL_law wsX7_heavy := goodIn_r _ [550, 92, 110, 91, 304, 305, 5, 306, 484, 485, 486, 487, 89, 301, 302, 303, 358, 359, 360, 361, 854, 855, 856, 857, 858, 859, 860, 861, 862, 863, 864, 865, 866, 867, 868, 869, 870, 871, 872, 873, 874, 875, 876, 877, 878, 879, 880, 881, 882, 883] rfl (by decide +kernel)
set_option maxRecDepth 20000 in
theorem gL_law_X7_heavy : GoodIn wsL_law (wsV RL 92 RX7 yX7_heavy wsX7_heavy) := goodIn_app (goodIn_r _ [547, 548, 549, 5] rfl (by decide +kernel)) ggL_law_X7_heavy
set_option maxRecDepth 20000 in
theorem ggL_law_X6_split : GoodIn wsL_law wsX6_split := goodIn_r _ [554, 389, 478, 229, 230, 231, 2, 232, 233, 16, 140, 141, 142, 546, 257, 258, 238, 202, 203, 204, 205, 29, 479, 269, 270, 23, 271, 272, 555, 556, 557, 558, 44, 273, 274, 275, 276, 559, 560, 561, 562, 563, 45, 46, 456, 457, 458, 459, 496, 497, 498, 499, 500, 432, 266, 433, 48, 564, 565, 566, 567, 568, 217, 218, 219, 569, 570, 571, 572, 573, 574, 575, 576, 577, 578, 579, 580, 581, 582, 583, 584, 429, 430, 349, 350, 351, 352, 902, 903, 904, 905, 906, 889, 890, 891, 892, 893, 894, 895, 848, 849, 850, 851, 852, 853] rfl (by decide +kernel)
set_option maxRecDepth 20000 in
theorem gL_law_X6_split : GoodIn wsL_law (wsV RL 93 RX6 yX6_split wsX6_split) := goodIn_app (goodIn_r _ [551, 552, 553, 2] rfl (by decide +kernel)) ggL_law_X6_split
set_option maxRecDepth 20000 in
theorem ggL_law_X7_split : GoodIn wsL_law wsX7_split := goodIn_r _ [588, 93, 89, 110, 304, 305, 5, 306, 484, 485, 486, 487, 301, 302, 303, 358, 359, 360, 361, 315, 316, 317, 318, 589, 590, 591, 592, 94, 95, 593, 594, 595, 596, 529, 530, 531, 532, 537, 538, 539, 540, 92, 597, 598, 599, 600, 465, 432, 266, 433, 601, 602, 603, 604, 466, 429, 430, 605, 606, 575, 607, 854, 855, 856, 857, 858, 859, 860, 861, 862, 863, 864, 865, 866, 867, 868, 869, 870, 871, 872, 873, 874, 875, 876, 877, 878, 879, 880, 881, 882, 883] rfl (by decide +kernel)
set_option maxRecDepth 20000 in
theorem gL_law_X7_split : GoodIn wsL_law (wsV RL 96 RX7 yX7_split wsX7_split) := goodIn_app (goodIn_r _ [585, 586, 587, 5] rfl (by decide +kernel)) ggL_law_X7_split
set_option maxRecDepth 20000 in
theorem ggL_law_X6_melt : GoodIn wsL_law wsX6_melt := goodIn_r _ [611, 389, 478, 229, 230, 231, 2, 232, 233, 16, 140, 141, 142, 143, 144, 145, 146, 29, 479, 269, 270, 23, 271, 272, 612, 613, 614, 615, 45, 46, 44, 568, 217, 218, 219, 580, 581, 582, 583, 584, 429, 266, 430, 569, 570, 571, 572, 158, 159, 160, 161, 902, 903, 904, 905, 906, 889, 890, 891, 892, 893, 894, 895, 848, 849, 850, 851, 852, 853] rfl (by decide +kernel)
set_option maxRecDepth 20000 in
theorem gL_law_X6_melt : GoodIn wsL_law (wsV RL 97 RX6 yX6_melt wsX6_melt) := goodIn_app (goodIn_r _ [608, 609, 610, 2] rfl (by decide +kernel)) ggL_law_X6_melt
set_option maxRecDepth 20000 in
theorem ggL_law_X7_melt : GoodIn wsL_law wsX7_melt := goodIn_r _ [619, 89, 484, 485, 486, 5, 487, 301, 302, 303, 620, 621, 622, 623, 94, 95, 93, 601, 602, 603, 604, 466, 429, 266, 430, 169, 170, 171, 172, 110, 854, 855, 856, 857, 858, 859, 860, 861, 862, 863, 864, 865, 866, 867, 868, 869, 870, 871, 872, 873, 874, 875, 876, 877, 878, 879, 880, 881, 882, 883] rfl (by decide +kernel)
set_option maxRecDepth 20000 in
theorem gL_law_X7_melt : GoodIn wsL_law (wsV RL 101 RX7 yX7_melt wsX7_melt) := goodIn_app (goodIn_r _ [616, 617, 618, 5] rfl (by decide +kernel)) ggL_law_X7_melt
set_option maxRecDepth 20000 in
theorem ggL_law_X6_keep : GoodIn wsL_law wsX6_keep := goodIn_r _ [627, 389, 229, 230, 231, 2, 232, 233, 16, 140, 141, 142, 202, 203, 204, 205, 29, 479, 269, 270, 23, 271, 272, 628, 629, 630, 631, 45, 632, 633, 634, 635, 636, 522, 523, 524, 44, 456, 457, 458, 459, 496, 497, 498, 499, 500, 432, 266, 433, 48, 637, 638, 639, 640, 641, 613, 614, 615, 46, 568, 217, 218, 219, 580, 581, 582, 583, 584, 429, 430, 569, 570, 571, 572, 642, 643, 644, 645, 646, 561, 562, 563, 564, 565, 566, 567, 573, 574, 575, 576, 577, 578, 579, 349, 350, 351, 352, 902, 903, 904, 905, 906, 848, 849, 850, 851, 852, 853, 889, 890, 891, 892, 893, 894, 895] rfl (by decide +kernel)
set_option maxRecDepth 20000 in
theorem gL_law_X6_keep : GoodIn wsL_law (wsV RL 102 RX6 yX6_keep wsX6_keep) := goodIn_app (goodIn_r _ [624, 625, 626, 2] rfl (by decide +kernel)) ggL_law_X6_keep
set_option maxRecDepth 20000 in
theorem ggL_law_X7_keep : GoodIn wsL_law wsX7_keep := goodIn_r _ [650, 110, 89, 94, 484, 485, 486, 5, 487, 301, 302, 303, 358, 359, 360, 361, 533, 534, 535, 536, 93, 529, 530, 531, 532, 537, 538, 539, 540, 92, 651, 652, 653, 654, 655, 656, 657, 658, 620, 621, 622, 623, 95, 601, 602, 603, 604, 466, 429, 266, 430, 589, 590, 591, 592, 593, 594, 595, 596, 597, 598, 599, 600, 465, 432, 433, 605, 606, 575, 607, 854, 855, 856, 857, 858, 859, 860, 861, 862, 863, 864, 865, 866, 867, 868, 869, 870, 871, 872, 873, 874, 875, 876, 877, 878, 879, 880, 881, 882, 883] rfl (by decide +kernel)
set_option maxRecDepth 20000 in
theorem gL_law_X7_keep : GoodIn wsL_law (wsV RL 106 RX7 yX7_keep wsX7_keep) := goodIn_app (goodIn_r _ [647, 648, 649, 5] rfl (by decide +kernel)) ggL_law_X7_keep
set_option maxRecDepth 20000 in
theorem ggL_law_X6_together : GoodIn wsL_law wsX6_together := goodIn_r _ [662, 389, 663, 24, 478, 229, 230, 231, 2, 232, 233, 16, 140, 141, 142, 202, 203, 204, 205, 29, 479, 269, 270, 23, 271, 272, 664, 665, 666, 667, 668, 506, 507, 508, 45, 669, 502, 503, 504, 46, 670, 671, 672, 673, 500, 432, 266, 433, 48, 49, 674, 675, 676, 677, 263, 44, 568, 217, 218, 219, 678, 679, 680, 681, 682, 556, 557, 558, 273, 274, 275, 276, 646, 561, 562, 563, 456, 457, 458, 459, 496, 497, 498, 499, 564, 565, 566, 567, 569, 570, 571, 572, 573, 574, 575, 576, 577, 578, 579, 580, 581, 582, 583, 584, 429, 430, 683, 684, 685, 686, 637, 638, 639, 640, 641, 613, 614, 615, 349, 350, 351, 352, 902, 903, 904, 905, 906, 848, 849, 850, 851, 852, 853, 889, 890, 891, 892, 893, 894, 895] rfl (by decide +kernel)
set_option maxRecDepth 20000 in
theorem gL_law_X6_together : GoodIn wsL_law (wsV RL 107 RX6 yX6_together wsX6_together) := goodIn_app (goodIn_r _ [659, 660, 661, 2] rfl (by decide +kernel)) ggL_law_X6_together
set_option maxRecDepth 20000 in
theorem ggL_law_X7_together : GoodIn wsL_law wsX7_together := goodIn_r _ [690, 89, 691, 93, 99, 100, 101, 92, 91, 94, 95, 90, 110, 301, 302, 5, 303, 358, 359, 360, 361, 692, 693, 694, 695, 696, 697, 698, 699, 315, 316, 317, 318, 700, 701, 702, 703, 593, 594, 595, 596, 529, 530, 531, 532, 537, 538, 539, 540, 597, 598, 599, 600, 465, 432, 266, 433, 601, 602, 603, 604, 466, 429, 430, 605, 606, 575, 607, 651, 652, 653, 654, 655, 656, 657, 658, 620, 621, 622, 623, 854, 855, 856, 857, 858, 859, 860, 861, 862, 863, 864, 865, 866, 867, 868, 869, 870, 871, 872, 873, 874, 875, 876, 877, 878, 879, 880, 881, 882, 883] rfl (by decide +kernel)
set_option maxRecDepth 20000 in
theorem gL_law_X7_together : GoodIn wsL_law (wsV RL 110 RX7 yX7_together wsX7_together) := goodIn_app (goodIn_r _ [687, 688, 689, 5] rfl (by decide +kernel)) ggL_law_X7_together
set_option maxRecDepth 20000 in
theorem ggL_law_X6_drifts : GoodIn wsL_law wsX6_drifts := goodIn_r _ [707, 389, 708, 229, 230, 231, 2, 232, 233, 16, 140, 141, 142, 202, 203, 204, 205, 29, 479, 269, 270, 23, 271, 272, 349, 350, 351, 352, 902, 903, 904, 905, 906, 889, 890, 891, 892, 893, 894, 895, 848, 849, 850, 851, 852, 853] rfl (by decide +kernel)
set_option maxRecDepth 20000 in
theorem gL_law_X6_drifts : GoodIn wsL_law (wsV RL 111 RX6 yX6_drifts wsX6_drifts) := goodIn_app (goodIn_r _ [704, 705, 706, 2] rfl (by decide +kernel)) ggL_law_X6_drifts
set_option maxRecDepth 20000 in
theorem ggL_law_X7_drifts : GoodIn wsL_law wsX7_drifts := goodIn_r _ [712, 110, 90, 484, 485, 486, 5, 487, 89, 301, 302, 303, 358, 359, 360, 361, 854, 855, 856, 857, 858, 859, 860, 861, 862, 863, 864, 865, 866, 867, 868, 869, 870, 871, 872, 873, 874, 875, 876, 877, 878, 879, 880, 881, 882, 883] rfl (by decide +kernel)
set_option maxRecDepth 20000 in
theorem gL_law_X7_drifts : GoodIn wsL_law (wsV RL 114 RX7 yX7_drifts wsX7_drifts) := goodIn_app (goodIn_r _ [709, 710, 711, 5] rfl (by decide +kernel)) ggL_law_X7_drifts
set_option maxRecDepth 20000 in
theorem ggL_law_X6_guess : GoodIn wsL_law wsX6_guess := goodIn_r _ [716, 389, 28, 229, 230, 231, 2, 232, 233, 16, 140, 141, 142, 717, 718, 719, 546, 257, 258, 238, 202, 203, 204, 205, 29, 479, 269, 270, 23, 271, 272, 720, 721, 722, 723, 45, 670, 671, 672, 673, 500, 432, 266, 433, 48, 49, 724, 725, 726, 27, 727, 53, 54, 728, 729, 730, 731, 732, 733, 734, 735, 736, 737, 738, 739, 740, 44, 584, 429, 430, 456, 457, 458, 459, 496, 497, 498, 499, 636, 522, 523, 524, 741, 742, 743, 744, 745, 746, 747, 748, 749, 349, 350, 351, 352, 902, 903, 904, 905, 906, 848, 849, 850, 851, 852, 853, 889, 890, 891, 892, 893, 894, 895, 896, 897] rfl (by decide +kernel)
set_option maxRecDepth 20000 in
theorem gL_law_X6_guess : GoodIn wsL_law (wsV RL 115 RX6 yX6_guess wsX6_guess) := goodIn_app (goodIn_r _ [713, 714, 715, 2] rfl (by decide +kernel)) ggL_law_X6_guess
set_option maxRecDepth 20000 in
theorem ggL_law_X7_guess : GoodIn wsL_law wsX7_guess := goodIn_r _ [753, 89, 94, 754, 755, 756, 5, 757, 304, 305, 306, 484, 485, 486, 487, 301, 302, 303, 358, 359, 360, 361, 110, 696, 697, 698, 699, 92, 91, 533, 534, 535, 536, 93, 529, 530, 531, 532, 537, 538, 539, 540, 758, 759, 760, 761, 465, 432, 266, 433, 466, 429, 430, 762, 763, 764, 765, 120, 78, 854, 855, 856, 857, 858, 859, 860, 861, 862, 863, 864, 865, 866, 867, 868, 869, 870, 871, 872, 873, 874, 875, 876, 877, 878, 879, 880, 881, 882, 883] rfl (by decide +kernel)
set_option maxRecDepth 20000 in
theorem gL_law_X7_guess : GoodIn wsL_law (wsV RL 118 RX7 yX7_guess wsX7_guess) := goodIn_app (goodIn_r _ [750, 751, 752, 5] rfl (by decide +kernel)) ggL_law_X7_guess
set_option maxRecDepth 20000 in
theorem ggL_law_X6_bound : GoodIn wsL_law wsX6_bound := goodIn_r _ [769, 389, 229, 230, 231, 2, 232, 233, 16, 140, 141, 142, 717, 718, 719, 546, 257, 258, 238, 202, 203, 204, 205, 29, 479, 269, 270, 23, 271, 272, 770, 771, 772, 773, 45, 46, 500, 432, 266, 433, 670, 671, 672, 673, 48, 49, 737, 738, 739, 740, 44, 584, 429, 430, 456, 457, 458, 459, 496, 497, 498, 499, 774, 775, 776, 777, 636, 522, 523, 524, 349, 350, 351, 352, 902, 903, 904, 905, 906, 848, 849, 850, 851, 852, 853, 889, 890, 891, 892, 893, 894, 895] rfl (by decide +kernel)
set_option maxRecDepth 20000 in
theorem gL_law_X6_bound : GoodIn wsL_law (wsV RL 119 RX6 yX6_bound wsX6_bound) := goodIn_app (goodIn_r _ [766, 767, 768, 2] rfl (by decide +kernel)) ggL_law_X6_bound
set_option maxRecDepth 20000 in
theorem ggL_law_X7_bound : GoodIn wsL_law wsX7_bound := goodIn_r _ [781, 110, 754, 755, 756, 5, 757, 304, 305, 306, 484, 485, 486, 487, 89, 301, 302, 303, 358, 359, 360, 361, 782, 783, 784, 785, 94, 95, 465, 432, 266, 433, 696, 697, 698, 699, 92, 91, 758, 759, 760, 761, 93, 466, 429, 430, 529, 530, 531, 532, 537, 538, 539, 540, 533, 534, 535, 536, 854, 855, 856, 857, 858, 859, 860, 861, 862, 863, 864, 865, 866, 867, 868, 869, 870, 871, 872, 873, 874, 875, 876, 877, 878, 879, 880, 881, 882, 883] rfl (by decide +kernel)
set_option maxRecDepth 20000 in
theorem gL_law_X7_bound : GoodIn wsL_law (wsV RL 123 RX7 yX7_bound wsX7_bound) := goodIn_app (goodIn_r _ [778, 779, 780, 5] rfl (by decide +kernel)) ggL_law_X7_bound
set_option maxRecDepth 20000 in
theorem ggL_law_X6_join : GoodIn wsL_law wsX6_join := goodIn_r _ [789, 389, 28, 229, 230, 231, 2, 232, 233, 16, 140, 141, 142, 202, 203, 204, 205, 29, 479, 269, 270, 23, 271, 272, 790, 791, 792, 793, 724, 725, 726, 27, 727, 53, 54, 728, 729, 730, 731, 732, 266, 733, 734, 735, 736, 794, 795, 796, 797, 48, 49, 45, 273, 274, 275, 276, 44, 798, 799, 800, 801, 636, 522, 523, 524, 456, 457, 458, 459, 496, 497, 498, 499, 500, 432, 433, 741, 742, 743, 744, 745, 746, 747, 748, 749, 349, 350, 351, 352, 902, 903, 904, 905, 906, 848, 849, 850, 851, 852, 853, 889, 890, 891, 892, 893, 894, 895, 896, 897] rfl (by decide +kernel)
set_option maxRecDepth 20000 in
theorem gL_law_X6_join : GoodIn wsL_law (wsV RL 124 RX6 yX6_join wsX6_join) := goodIn_app (goodIn_r _ [786, 787, 788, 2] rfl (by decide +kernel)) ggL_law_X6_join
set_option maxRecDepth 20000 in
theorem ggL_law_X7_join : GoodIn wsL_law wsX7_join := goodIn_r _ [805, 89, 92, 91, 94, 301, 302, 5, 303, 358, 359, 360, 361, 110, 315, 316, 317, 318, 93, 533, 534, 535, 536, 529, 530, 531, 532, 537, 538, 539, 540, 806, 807, 808, 762, 763, 764, 765, 120, 78, 854, 855, 856, 857, 858, 859, 860, 861, 862, 863, 864, 865, 866, 867, 868, 869, 870, 871, 872, 873, 874, 875, 876, 877, 878, 879, 880, 881, 882, 883] rfl (by decide +kernel)
set_option maxRecDepth 20000 in
theorem gL_law_X7_join : GoodIn wsL_law (wsV RL 127 RX7 yX7_join wsX7_join) := goodIn_app (goodIn_r _ [802, 803, 804, 5] rfl (by decide +kernel)) ggL_law_X7_join
set_option maxRecDepth 20000 in
theorem ggL_law_X6_harm : GoodIn wsL_law wsX6_harm := goodIn_r _ [812, 389, 28, 813, 432, 266, 433, 229, 230, 231, 2, 232, 233, 16, 140, 141, 142, 717, 718, 719, 546, 257, 258, 238, 202, 203, 204, 205, 29, 479, 269, 270, 23, 271, 272, 770, 771, 772, 773, 45, 46, 500, 670, 671, 672, 673, 48, 49, 737, 738, 739, 740, 44, 584, 429, 430, 456, 457, 458, 459, 496, 497, 498, 499, 774, 775, 776, 777, 636, 522, 523, 524, 814, 725, 726, 27, 727, 53, 54, 728, 729, 730, 731, 732, 733, 734, 735, 736, 746, 747, 748, 749, 349, 350, 351, 352, 902, 903, 904, 905, 906, 848, 849, 850, 851, 852, 853, 889, 890, 891, 892, 893, 894, 895, 896, 897] rfl (by decide +kernel)
set_option maxRecDepth 20000 in
theorem gL_law_X6_harm : GoodIn wsL_law (wsV RL 128 RX6 yX6_harm wsX6_harm) := goodIn_app (goodIn_r _ [809, 810, 811, 2] rfl (by decide +kernel)) ggL_law_X6_harm
set_option maxRecDepth 20000 in
theorem ggL_law_X7_harm : GoodIn wsL_law wsX7_harm := goodIn_r _ [818, 465, 432, 266, 433, 754, 755, 756, 5, 757, 304, 305, 306, 484, 485, 486, 487, 89, 301, 302, 303, 358, 359, 360, 361, 110, 782, 783, 784, 785, 94, 95, 696, 697, 698, 699, 92, 91, 758, 759, 760, 761, 93, 466, 429, 430, 529, 530, 531, 532, 537, 538, 539, 540, 533, 534, 535, 536, 762, 763, 764, 765, 120, 78, 854, 855, 856, 857, 858, 859, 860, 861, 862, 863, 864, 865, 866, 867, 868, 869, 870, 871, 872, 873, 874, 875, 876, 877, 878, 879, 880, 881, 882, 883] rfl (by decide +kernel)
set_option maxRecDepth 20000 in
theorem gL_law_X7_harm : GoodIn wsL_law (wsV RL 132 RX7 yX7_harm wsX7_harm) := goodIn_app (goodIn_r _ [815, 816, 817, 5] rfl (by decide +kernel)) ggL_law_X7_harm
set_option maxRecDepth 20000 in
theorem ggL_law_X6_sample : GoodIn wsL_law wsX6_sample := goodIn_r _ [822, 823, 824, 229, 230, 231, 2, 232, 233, 16, 140, 141, 142, 143, 144, 145, 146, 29, 825, 826, 827, 68, 828, 281, 293, 286, 158, 159, 160, 161, 902, 903, 904, 905, 906, 848, 849, 850, 851, 852, 853, 907, 908, 909, 910] rfl (by decide +kernel)
set_option maxRecDepth 20000 in
theorem gL_law_X6_sample : GoodIn wsL_law (wsV RL 133 RX6 yX6_sample wsX6_sample) := goodIn_app (goodIn_r _ [819, 820, 821, 2] rfl (by decide +kernel)) ggL_law_X6_sample
set_option maxRecDepth 20000 in
theorem ggL_law_X7_sample : GoodIn wsL_law wsX7_sample := goodIn_r _ [832, 85, 86, 88, 301, 302, 5, 303, 169, 170, 171, 172, 110, 854, 855, 856, 857, 858, 859, 860, 861, 862, 863, 864, 865, 866, 867, 868, 869, 870, 871, 872, 873, 874, 875, 876, 877, 878, 879, 880, 881, 882, 883] rfl (by decide +kernel)
set_option maxRecDepth 20000 in
theorem gL_law_X7_sample : GoodIn wsL_law (wsV RL 136 RX7 yX7_sample wsX7_sample) := goodIn_app (goodIn_r _ [829, 830, 831, 5] rfl (by decide +kernel)) ggL_law_X7_sample
set_option maxRecDepth 20000 in
theorem ggL_law_X6_drawn : GoodIn wsL_law wsX6_drawn := goodIn_r _ [836, 837, 824, 838, 229, 230, 231, 2, 232, 233, 16, 140, 141, 142, 202, 203, 204, 205, 29, 839, 840, 841, 68, 842, 286, 281, 843, 429, 266, 430, 349, 350, 351, 352, 902, 903, 904, 905, 906, 907, 908, 909, 910, 848, 849, 850, 851, 852, 853] rfl (by decide +kernel)
set_option maxRecDepth 20000 in
theorem gL_law_X6_drawn : GoodIn wsL_law (wsV RL 137 RX6 yX6_drawn wsX6_drawn) := goodIn_app (goodIn_r _ [833, 834, 835, 2] rfl (by decide +kernel)) ggL_law_X6_drawn
set_option maxRecDepth 20000 in
theorem ggL_law_X7_drawn : GoodIn wsL_law wsX7_drawn := goodIn_r _ [847, 85, 86, 110, 87, 301, 302, 5, 303, 358, 359, 360, 361, 854, 855, 856, 857, 858, 859, 860, 861, 862, 863, 864, 865, 866, 867, 868, 869, 870, 871, 872, 873, 874, 875, 876, 877, 878, 879, 880, 881, 882, 883] rfl (by decide +kernel)
set_option maxRecDepth 20000 in
theorem gL_law_X7_drawn : GoodIn wsL_law (wsV RL 140 RX7 yX7_drawn wsX7_drawn) := goodIn_app (goodIn_r _ [844, 845, 846, 5] rfl (by decide +kernel)) ggL_law_X7_drawn
