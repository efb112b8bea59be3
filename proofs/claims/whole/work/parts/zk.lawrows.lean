set_option maxRecDepth 20000 in
theorem ggL_law_X6_init : GoodIn wsL_law wsX6_init := goodIn_r _ [9, 10, 11, 12, 13, 14, 15, 16, 17, 18, 19, 20, 21, 22, 23, 24, 25, 26, 27, 28, 29, 30, 31, 32, 33, 34, 35, 36, 37, 38, 39, 40, 41, 42, 43, 44, 45, 46, 47, 48, 49, 50, 51, 52, 53, 54, 55, 56, 57, 58, 59, 60, 61, 62, 63, 64, 65, 66, 67, 68, 69, 70, 71, 72, 73, 848, 849, 850, 851, 852, 853, 884, 885, 886, 887, 888, 889, 890, 891, 892, 893, 894, 895, 896, 897, 898, 899, 900, 901, 902, 903, 904, 905, 906, 907, 908, 909, 910] rfl (by decide +kernel)
set_option maxRecDepth 20000 in
theorem gL_law_X6_init : GoodIn wsL_law (wsX6_init) := ggL_law_X6_init
set_option maxRecDepth 20000 in
theorem ggL_law_X7_init : GoodIn wsL_law wsX7_init := goodIn_r _ [76, 77, 11, 12, 78, 37, 79, 80, 58, 81, 82, 83, 84, 85, 86, 87, 88, 89, 90, 91, 47, 92, 93, 94, 95, 96, 97, 98, 99, 100, 101, 854, 855, 856, 857, 858, 859, 860, 861, 862, 863, 864, 865, 866, 867, 868, 869, 870, 871, 872, 873, 874, 875, 876, 877, 878, 879, 880, 881, 882, 883] rfl (by decide +kernel)
set_option maxRecDepth 20000 in
theorem gL_law_X7_init : GoodIn wsL_law (wsX7_init) := ggL_law_X7_init
set_option maxRecDepth 20000 in
theorem ggL_law_X6_status : GoodIn wsL_law wsX6_status := goodIn_r _ [105, 29, 848, 849, 850, 851, 852, 853] rfl (by decide +kernel)
set_option maxRecDepth 20000 in
theorem gL_law_X6_status : GoodIn wsL_law (wsV RL 13 RX6 yX6_status wsX6_status) := goodIn_app (goodIn_r _ [102, 103, 104, 2] rfl (by decide +kernel)) ggL_law_X6_status
set_option maxRecDepth 20000 in
theorem ggL_law_X7_status : GoodIn wsL_law wsX7_status := goodIn_r _ [109, 110, 854, 855, 856, 857, 858, 859, 860, 861, 862, 863, 864, 865, 866, 867, 868, 869, 870, 871, 872, 873, 874, 875, 876, 877, 878, 879, 880, 881, 882, 883] rfl (by decide +kernel)
set_option maxRecDepth 20000 in
theorem gL_law_X7_status : GoodIn wsL_law (wsV RL 17 RX7 yX7_status wsX7_status) := goodIn_app (goodIn_r _ [106, 107, 108, 5] rfl (by decide +kernel)) ggL_law_X7_status
set_option maxRecDepth 20000 in
theorem ggL_law_X6_top : GoodIn wsL_law wsX6_top := goodIn_r _ [114, 28, 115, 848, 849, 850, 851, 852, 853, 896, 897] rfl (by decide +kernel)
set_option maxRecDepth 20000 in
theorem gL_law_X6_top : GoodIn wsL_law (wsV RL 18 RX6 yX6_top wsX6_top) := goodIn_app (goodIn_r _ [111, 112, 113, 2] rfl (by decide +kernel)) ggL_law_X6_top
set_option maxRecDepth 20000 in
theorem ggL_law_X7_top : GoodIn wsL_law wsX7_top := goodIn_r _ [119, 120, 854, 855, 856, 857, 858, 859, 860, 861, 862, 863, 864, 865, 866, 867, 868, 869, 870, 871, 872, 873, 874, 875, 876, 877, 878, 879, 880, 881, 882, 883] rfl (by decide +kernel)
set_option maxRecDepth 20000 in
theorem gL_law_X7_top : GoodIn wsL_law (wsV RL 22 RX7 yX7_top wsX7_top) := goodIn_app (goodIn_r _ [116, 117, 118, 5] rfl (by decide +kernel)) ggL_law_X7_top
set_option maxRecDepth 20000 in
theorem ggL_law_X6_bottom : GoodIn wsL_law wsX6_bottom := goodIn_r _ [124, 28, 125, 848, 849, 850, 851, 852, 853, 896, 897] rfl (by decide +kernel)
set_option maxRecDepth 20000 in
theorem gL_law_X6_bottom : GoodIn wsL_law (wsV RL 23 RX6 yX6_bottom wsX6_bottom) := goodIn_app (goodIn_r _ [121, 122, 123, 2] rfl (by decide +kernel)) ggL_law_X6_bottom
set_option maxRecDepth 20000 in
theorem ggL_law_X7_bottom : GoodIn wsL_law wsX7_bottom := goodIn_r _ [129, 78, 854, 855, 856, 857, 858, 859, 860, 861, 862, 863, 864, 865, 866, 867, 868, 869, 870, 871, 872, 873, 874, 875, 876, 877, 878, 879, 880, 881, 882, 883] rfl (by decide +kernel)
set_option maxRecDepth 20000 in
theorem gL_law_X7_bottom : GoodIn wsL_law (wsV RL 26 RX7 yX7_bottom wsX7_bottom) := goodIn_app (goodIn_r _ [126, 127, 128, 5] rfl (by decide +kernel)) ggL_law_X7_bottom
set_option maxRecDepth 20000 in
theorem ggL_law_X6_tray : GoodIn wsL_law wsX6_tray := goodIn_r _ [133, 134, 135, 136, 137, 138, 2, 139, 14, 140, 141, 142, 143, 144, 145, 146, 29, 147, 148, 149, 31, 150, 151, 152, 153, 59, 154, 155, 156, 157, 158, 159, 160, 161, 848, 849, 850, 851, 852, 853, 898, 899, 900, 901] rfl (by decide +kernel)
set_option maxRecDepth 20000 in
theorem gL_law_X6_tray : GoodIn wsL_law (wsV RL 27 RX6 yX6_tray wsX6_tray) := goodIn_app (goodIn_r _ [130, 131, 132, 2] rfl (by decide +kernel)) ggL_law_X6_tray
set_option maxRecDepth 20000 in
theorem ggL_law_X7_tray : GoodIn wsL_law wsX7_tray := goodIn_r _ [165, 79, 80, 81, 166, 167, 5, 168, 169, 170, 171, 172, 110, 854, 855, 856, 857, 858, 859, 860, 861, 862, 863, 864, 865, 866, 867, 868, 869, 870, 871, 872, 873, 874, 875, 876, 877, 878, 879, 880, 881, 882, 883] rfl (by decide +kernel)
set_option maxRecDepth 20000 in
theorem gL_law_X7_tray : GoodIn wsL_law (wsV RL 31 RX7 yX7_tray wsX7_tray) := goodIn_app (goodIn_r _ [162, 163, 164, 5] rfl (by decide +kernel)) ggL_law_X7_tray
set_option maxRecDepth 20000 in
theorem ggL_law_X6_write : GoodIn wsL_law wsX6_write := goodIn_r _ [176, 177, 178, 136, 137, 138, 2, 139, 134, 14, 140, 141, 142, 143, 144, 145, 146, 29, 179, 180, 181, 31, 182, 153, 183, 184, 185, 186, 152, 158, 159, 160, 161, 898, 899, 900, 901, 848, 849, 850, 851, 852, 853] rfl (by decide +kernel)
set_option maxRecDepth 20000 in
theorem gL_law_X6_write : GoodIn wsL_law (wsV RL 34 RX6 yX6_write wsX6_write) := goodIn_app (goodIn_r _ [173, 174, 175, 2] rfl (by decide +kernel)) ggL_law_X6_write
set_option maxRecDepth 20000 in
theorem ggL_law_X7_write : GoodIn wsL_law wsX7_write := goodIn_r _ [190, 81, 79, 191, 192, 193, 5, 194, 80, 166, 167, 168, 195, 196, 197, 169, 170, 171, 172, 110, 854, 855, 856, 857, 858, 859, 860, 861, 862, 863, 864, 865, 866, 867, 868, 869, 870, 871, 872, 873, 874, 875, 876, 877, 878, 879, 880, 881, 882, 883] rfl (by decide +kernel)
set_option maxRecDepth 20000 in
theorem gL_law_X7_write : GoodIn wsL_law (wsV RL 38 RX7 yX7_write wsX7_write) := goodIn_app (goodIn_r _ [187, 188, 189, 5] rfl (by decide +kernel)) ggL_law_X7_write
set_option maxRecDepth 20000 in
theorem ggL_law_X6_read : GoodIn wsL_law wsX6_read := goodIn_r _ [201, 177, 29, 178, 136, 137, 138, 2, 139, 134, 14, 140, 141, 142, 202, 203, 204, 205, 179, 180, 181, 31, 182, 153, 898, 899, 900, 901, 848, 849, 850, 851, 852, 853] rfl (by decide +kernel)
set_option maxRecDepth 20000 in
theorem gL_law_X6_read : GoodIn wsL_law (wsV RL 39 RX6 yX6_read wsX6_read) := goodIn_app (goodIn_r _ [198, 199, 200, 2] rfl (by decide +kernel)) ggL_law_X6_read
set_option maxRecDepth 20000 in
theorem ggL_law_X7_read : GoodIn wsL_law wsX7_read := goodIn_r _ [209, 110, 210, 81, 191, 192, 193, 5, 194, 80, 166, 167, 168, 854, 855, 856, 857, 858, 859, 860, 861, 862, 863, 864, 865, 866, 867, 868, 869, 870, 871, 872, 873, 874, 875, 876, 877, 878, 879, 880, 881, 882, 883] rfl (by decide +kernel)
set_option maxRecDepth 20000 in
theorem gL_law_X7_read : GoodIn wsL_law (wsV RL 43 RX7 yX7_read wsX7_read) := goodIn_app (goodIn_r _ [206, 207, 208, 5] rfl (by decide +kernel)) ggL_law_X7_read
set_option maxRecDepth 20000 in
theorem ggL_law_X6_pour : GoodIn wsL_law wsX6_pour := goodIn_r _ [214, 177, 215, 178, 216, 217, 218, 219, 136, 137, 138, 2, 139, 134, 14, 140, 141, 142, 143, 144, 145, 146, 29, 179, 180, 181, 31, 182, 153, 158, 159, 160, 161, 898, 899, 900, 901, 848, 849, 850, 851, 852, 853] rfl (by decide +kernel)
set_option maxRecDepth 20000 in
theorem gL_law_X6_pour : GoodIn wsL_law (wsV RL 44 RX6 yX6_pour wsX6_pour) := goodIn_app (goodIn_r _ [211, 212, 213, 2] rfl (by decide +kernel)) ggL_law_X6_pour
set_option maxRecDepth 20000 in
theorem ggL_law_X7_pour : GoodIn wsL_law wsX7_pour := goodIn_r _ [223, 80, 79, 81, 166, 167, 5, 168, 169, 170, 171, 172, 110, 854, 855, 856, 857, 858, 859, 860, 861, 862, 863, 864, 865, 866, 867, 868, 869, 870, 871, 872, 873, 874, 875, 876, 877, 878, 879, 880, 881, 882, 883] rfl (by decide +kernel)
set_option maxRecDepth 20000 in
theorem gL_law_X7_pour : GoodIn wsL_law (wsV RL 48 RX7 yX7_pour wsX7_pour) := goodIn_app (goodIn_r _ [220, 221, 222, 5] rfl (by decide +kernel)) ggL_law_X7_pour
set_option maxRecDepth 20000 in
theorem ggL_law_X6_put : GoodIn wsL_law wsX6_put := goodIn_r _ [227, 228, 229, 230, 231, 2, 232, 233, 16, 140, 141, 142, 234, 235, 236, 237, 238, 143, 144, 145, 146, 29, 239, 240, 241, 33, 242, 243, 244, 245, 246, 247, 248, 249, 250, 251, 252, 69, 253, 254, 255, 256, 63, 65, 257, 258, 259, 260, 261, 23, 262, 263, 264, 265, 266, 267, 48, 49, 45, 268, 269, 270, 271, 272, 273, 274, 275, 276, 44, 277, 278, 279, 68, 280, 281, 282, 283, 284, 285, 286, 287, 73, 288, 289, 290, 291, 292, 293, 294, 295, 296, 158, 159, 160, 161, 848, 849, 850, 851, 852, 853, 902, 903, 904, 905, 906, 889, 890, 891, 892, 893, 894, 895, 907, 908, 909, 910] rfl (by decide +kernel)
set_option maxRecDepth 20000 in
theorem gL_law_X6_put : GoodIn wsL_law (wsV RL 49 RX6 yX6_put wsX6_put) := goodIn_app (goodIn_r _ [224, 225, 226, 2] rfl (by decide +kernel)) ggL_law_X6_put
set_option maxRecDepth 20000 in
theorem ggL_law_X7_put : GoodIn wsL_law wsX7_put := goodIn_r _ [300, 301, 302, 5, 303, 304, 305, 306, 169, 170, 171, 172, 110, 307, 308, 309, 310, 84, 83, 311, 312, 313, 314, 82, 89, 90, 92, 91, 94, 315, 316, 317, 318, 93, 319, 320, 321, 322, 85, 86, 87, 88, 323, 324, 325, 326, 854, 855, 856, 857, 858, 859, 860, 861, 862, 863, 864, 865, 866, 867, 868, 869, 870, 871, 872, 873, 874, 875, 876, 877, 878, 879, 880, 881, 882, 883] rfl (by decide +kernel)
set_option maxRecDepth 20000 in
theorem gL_law_X7_put : GoodIn wsL_law (wsV RL 52 RX7 yX7_put wsX7_put) := goodIn_app (goodIn_r _ [297, 298, 299, 5] rfl (by decide +kernel)) ggL_law_X7_put
set_option maxRecDepth 20000 in
theorem ggL_law_X6_strike : GoodIn wsL_law wsX6_strike := goodIn_r _ [330, 228, 229, 230, 231, 2, 232, 233, 16, 140, 141, 142, 234, 235, 236, 237, 238, 143, 144, 145, 146, 29, 331, 332, 333, 33, 334, 63, 248, 257, 258, 335, 254, 255, 256, 247, 65, 259, 260, 261, 23, 262, 263, 264, 265, 266, 267, 48, 49, 45, 268, 269, 270, 271, 272, 273, 274, 275, 276, 44, 158, 159, 160, 161, 848, 849, 850, 851, 852, 853, 902, 903, 904, 905, 906, 889, 890, 891, 892, 893, 894, 895] rfl (by decide +kernel)
set_option maxRecDepth 20000 in
theorem gL_law_X6_strike : GoodIn wsL_law (wsV RL 53 RX6 yX6_strike wsX6_strike) := goodIn_app (goodIn_r _ [327, 328, 329, 2] rfl (by decide +kernel)) ggL_law_X6_strike
set_option maxRecDepth 20000 in
theorem ggL_law_X7_strike : GoodIn wsL_law wsX7_strike := goodIn_r _ [339, 83, 82, 301, 302, 5, 303, 304, 305, 306, 169, 170, 171, 172, 110, 311, 312, 313, 314, 84, 89, 90, 92, 91, 94, 315, 316, 317, 318, 93, 854, 855, 856, 857, 858, 859, 860, 861, 862, 863, 864, 865, 866, 867, 868, 869, 870, 871, 872, 873, 874, 875, 876, 877, 878, 879, 880, 881, 882, 883] rfl (by decide +kernel)
set_option maxRecDepth 20000 in
theorem gL_law_X7_strike : GoodIn wsL_law (wsV RL 56 RX7 yX7_strike wsX7_strike) := goodIn_app (goodIn_r _ [336, 337, 338, 5] rfl (by decide +kernel)) ggL_law_X7_strike
set_option maxRecDepth 20000 in
theorem ggL_law_X6_pack : GoodIn wsL_law wsX6_pack := goodIn_r _ [343, 177, 344, 178, 229, 230, 231, 2, 232, 233, 16, 140, 141, 142, 136, 137, 138, 139, 134, 14, 202, 203, 204, 205, 29, 345, 346, 347, 31, 348, 153, 59, 235, 236, 237, 238, 239, 240, 241, 33, 242, 243, 244, 245, 246, 247, 248, 249, 250, 251, 252, 69, 253, 254, 255, 256, 63, 65, 257, 258, 259, 260, 261, 23, 262, 263, 264, 265, 266, 267, 48, 49, 45, 268, 269, 270, 271, 272, 273, 274, 275, 276, 44, 277, 278, 279, 68, 280, 281, 282, 283, 284, 285, 286, 287, 73, 288, 289, 290, 291, 292, 293, 294, 295, 296, 349, 350, 351, 352, 898, 899, 900, 901, 848, 849, 850, 851, 852, 853, 902, 903, 904, 905, 906, 889, 890, 891, 892, 893, 894, 895, 907, 908, 909, 910] rfl (by decide +kernel)
set_option maxRecDepth 20000 in
theorem gL_law_X6_pack : GoodIn wsL_law (wsV RL 57 RX6 yX6_pack wsX6_pack) := goodIn_app (goodIn_r _ [340, 341, 342, 2] rfl (by decide +kernel)) ggL_law_X6_pack
set_option maxRecDepth 20000 in
theorem ggL_law_X7_pack : GoodIn wsL_law wsX7_pack := goodIn_r _ [356, 80, 81, 210, 357, 110, 301, 302, 5, 303, 166, 167, 168, 358, 359, 360, 361, 307, 308, 309, 310, 84, 83, 311, 312, 313, 314, 82, 89, 90, 92, 91, 94, 315, 316, 317, 318, 93, 319, 320, 321, 322, 85, 86, 87, 88, 323, 324, 325, 326, 854, 855, 856, 857, 858, 859, 860, 861, 862, 863, 864, 865, 866, 867, 868, 869, 870, 871, 872, 873, 874, 875, 876, 877, 878, 879, 880, 881, 882, 883] rfl (by decide +kernel)
set_option maxRecDepth 20000 in
theorem gL_law_X7_pack : GoodIn wsL_law (wsV RL 61 RX7 yX7_pack wsX7_pack) := goodIn_app (goodIn_r _ [353, 354, 355, 5] rfl (by decide +kernel)) ggL_law_X7_pack
set_option maxRecDepth 20000 in
theorem ggL_law_X6_truly : GoodIn wsL_law wsX6_truly := goodIn_r _ [365, 229, 230, 231, 2, 232, 233, 16, 140, 141, 142, 234, 235, 236, 237, 238, 202, 203, 204, 205, 29, 331, 332, 333, 33, 334, 63, 248, 257, 258, 349, 350, 351, 352, 848, 849, 850, 851, 852, 853, 902, 903, 904, 905, 906] rfl (by decide +kernel)
set_option maxRecDepth 20000 in
theorem gL_law_X6_truly : GoodIn wsL_law (wsV RL 62 RX6 yX6_truly wsX6_truly) := goodIn_app (goodIn_r _ [362, 363, 364, 2] rfl (by decide +kernel)) ggL_law_X6_truly
set_option maxRecDepth 20000 in
theorem ggL_law_X7_truly : GoodIn wsL_law wsX7_truly := goodIn_r _ [369, 110, 83, 82, 301, 302, 5, 303, 304, 305, 306, 358, 359, 360, 361, 854, 855, 856, 857, 858, 859, 860, 861, 862, 863, 864, 865, 866, 867, 868, 869, 870, 871, 872, 873, 874, 875, 876, 877, 878, 879, 880, 881, 882, 883] rfl (by decide +kernel)
set_option maxRecDepth 20000 in
theorem gL_law_X7_truly : GoodIn wsL_law (wsV RL 65 RX7 yX7_truly wsX7_truly) := goodIn_app (goodIn_r _ [366, 367, 368, 5] rfl (by decide +kernel)) ggL_law_X7_truly
set_option maxRecDepth 20000 in
theorem ggL_law_X6_rows : GoodIn wsL_law wsX6_rows := goodIn_r _ [373, 374, 229, 230, 231, 2, 232, 233, 16, 140, 141, 142, 202, 203, 204, 205, 29, 349, 350, 351, 352, 375, 244, 245, 33, 246, 247, 248, 376, 377, 378, 379, 63, 902, 903, 904, 905, 906, 848, 849, 850, 851, 852, 853] rfl (by decide +kernel)
set_option maxRecDepth 20000 in
theorem gL_law_X6_rows : GoodIn wsL_law (wsV RL 66 RX6 yX6_rows wsX6_rows) := goodIn_app (goodIn_r _ [370, 371, 372, 2] rfl (by decide +kernel)) ggL_law_X6_rows
set_option maxRecDepth 20000 in
theorem ggL_law_X7_rows : GoodIn wsL_law wsX7_rows := goodIn_r _ [383, 110, 82, 84, 301, 302, 5, 303, 358, 359, 360, 361, 307, 308, 309, 310, 83, 854, 855, 856, 857, 858, 859, 860, 861, 862, 863, 864, 865, 866, 867, 868, 869, 870, 871, 872, 873, 874, 875, 876, 877, 878, 879, 880, 881, 882, 883] rfl (by decide +kernel)
set_option maxRecDepth 20000 in
theorem gL_law_X7_rows : GoodIn wsL_law (wsV RL 69 RX7 yX7_rows wsX7_rows) := goodIn_app (goodIn_r _ [380, 381, 382, 5] rfl (by decide +kernel)) ggL_law_X7_rows
set_option maxRecDepth 20000 in
theorem ggL_law_X6_make : GoodIn wsL_law wsX6_make := goodIn_r _ [387, 388, 228, 389, 390, 374, 20, 391, 392, 229, 230, 231, 2, 232, 233, 16, 140, 141, 142, 202, 203, 204, 205, 29, 393, 394, 395, 23, 396, 48, 49, 397, 398, 399, 400, 401, 402, 403, 19, 404, 39, 405, 406, 407, 408, 38, 409, 410, 411, 412, 413, 414, 415, 416, 417, 418, 419, 420, 421, 422, 423, 424, 425, 426, 427, 428, 429, 266, 430, 431, 432, 433, 434, 435, 436, 437, 40, 438, 439, 156, 440, 441, 442, 443, 444, 445, 446, 447, 448, 449, 450, 451, 452, 453, 454, 455, 272, 263, 44, 45, 46, 456, 457, 458, 459, 349, 350, 351, 352, 902, 903, 904, 905, 906, 848, 849, 850, 851, 852, 853, 889, 890, 891, 892, 893, 894, 895, 884, 885, 886, 887, 888] rfl (by decide +kernel)
set_option maxRecDepth 20000 in
theorem gL_law_X6_make : GoodIn wsL_law (wsV RL 70 RX6 yX6_make wsX6_make) := goodIn_app (goodIn_r _ [384, 385, 386, 2] rfl (by decide +kernel)) ggL_law_X6_make
set_option maxRecDepth 20000 in
theorem ggL_law_X7_make : GoodIn wsL_law wsX7_make := goodIn_r _ [463, 92, 82, 84, 91, 97, 464, 98, 96, 465, 432, 266, 433, 466, 429, 430, 93, 94, 95, 89, 90, 110, 301, 302, 5, 303, 358, 359, 360, 361, 467, 468, 469, 470, 471, 472, 473, 854, 855, 856, 857, 858, 859, 860, 861, 862, 863, 864, 865, 866, 867, 868, 869, 870, 871, 872, 873, 874, 875, 876, 877, 878, 879, 880, 881, 882, 883] rfl (by decide +kernel)
set_option maxRecDepth 20000 in
theorem gL_law_X7_make : GoodIn wsL_law (wsV RL 74 RX7 yX7_make wsX7_make) := goodIn_app (goodIn_r _ [460, 461, 462, 5] rfl (by decide +kernel)) ggL_law_X7_make
set_option maxRecDepth 20000 in
theorem ggL_law_X6_away : GoodIn wsL_law wsX6_away := goodIn_r _ [477, 389, 478, 229, 230, 231, 2, 232, 233, 16, 140, 141, 142, 143, 144, 145, 146, 29, 479, 269, 270, 23, 271, 272, 158, 159, 160, 161, 902, 903, 904, 905, 906, 889, 890, 891, 892, 893, 894, 895, 848, 849, 850, 851, 852, 853] rfl (by decide +kernel)
set_option maxRecDepth 20000 in
theorem gL_law_X6_away : GoodIn wsL_law (wsV RL 75 RX6 yX6_away wsX6_away) := goodIn_app (goodIn_r _ [474, 475, 476, 2] rfl (by decide +kernel)) ggL_law_X6_away
set_option maxRecDepth 20000 in
theorem ggL_law_X7_away : GoodIn wsL_law wsX7_away := goodIn_r _ [483, 89, 484, 485, 486, 5, 487, 301, 302, 303, 169, 170, 171, 172, 110, 854, 855, 856, 857, 858, 859, 860, 861, 862, 863, 864, 865, 866, 867, 868, 869, 870, 871, 872, 873, 874, 875, 876, 877, 878, 879, 880, 881, 882, 883] rfl (by decide +kernel)
set_option maxRecDepth 20000 in
theorem gL_law_X7_away : GoodIn wsL_law (wsV RL 79 RX7 yX7_away wsX7_away) := goodIn_app (goodIn_r _ [480, 481, 482, 5] rfl (by decide +kernel)) ggL_law_X7_away
set_option maxRecDepth 20000 in
theorem ggL_law_X6_sketch : GoodIn wsL_law wsX6_sketch := goodIn_r _ [491, 134, 389, 478, 229, 230, 231, 2, 232, 233, 16, 140, 141, 142, 202, 203, 204, 205, 29, 479, 269, 270, 23, 271, 272, 349, 350, 351, 352, 492, 493, 494, 495, 496, 497, 498, 499, 500, 432, 266, 433, 48, 501, 502, 503, 504, 46, 505, 506, 507, 508, 45, 902, 903, 904, 905, 906, 889, 890, 891, 892, 893, 894, 895, 848, 849, 850, 851, 852, 853] rfl (by decide +kernel)
set_option maxRecDepth 20000 in
theorem gL_law_X6_sketch : GoodIn wsL_law (wsV RL 80 RX6 yX6_sketch wsX6_sketch) := goodIn_app (goodIn_r _ [488, 489, 490, 2] rfl (by decide +kernel)) ggL_law_X6_sketch
set_option maxRecDepth 20000 in
theorem ggL_law_X7_sketch : GoodIn wsL_law wsX7_sketch := goodIn_r _ [512, 110, 89, 92, 95, 94, 484, 485, 486, 5, 487, 301, 302, 303, 358, 359, 360, 361, 854, 855, 856, 857, 858, 859, 860, 861, 862, 863, 864, 865, 866, 867, 868, 869, 870, 871, 872, 873, 874, 875, 876, 877, 878, 879, 880, 881, 882, 883] rfl (by decide +kernel)
set_option maxRecDepth 20000 in
theorem gL_law_X7_sketch : GoodIn wsL_law (wsV RL 83 RX7 yX7_sketch wsX7_sketch) := goodIn_app (goodIn_r _ [509, 510, 511, 5] rfl (by decide +kernel)) ggL_law_X7_sketch
set_option maxRecDepth 20000 in
theorem ggL_law_X6_span : GoodIn wsL_law wsX6_span := goodIn_r _ [516, 389, 478, 517, 518, 519, 229, 230, 231, 2, 232, 233, 16, 140, 141, 142, 202, 203, 204, 205, 29, 479, 269, 270, 23, 271, 272, 520, 457, 458, 459, 44, 349, 350, 351, 352, 521, 522, 523, 524, 456, 496, 497, 498, 499, 500, 432, 266, 433, 48, 902, 903, 904, 905, 906, 889, 890, 891, 892, 893, 894, 895, 848, 849, 850, 851, 852, 853] rfl (by decide +kernel)
set_option maxRecDepth 20000 in
theorem gL_law_X6_span : GoodIn wsL_law (wsV RL 84 RX6 yX6_span wsX6_span) := goodIn_app (goodIn_r _ [513, 514, 515, 2] rfl (by decide +kernel)) ggL_law_X6_span
set_option maxRecDepth 20000 in
theorem ggL_law_X7_span : GoodIn wsL_law wsX7_span := goodIn_r _ [528, 89, 110, 93, 94, 95, 484, 485, 486, 5, 487, 301, 302, 303, 358, 359, 360, 361, 529, 530, 531, 532, 533, 534, 535, 536, 537, 538, 539, 540, 92, 854, 855, 856, 857, 858, 859, 860, 861, 862, 863, 864, 865, 866, 867, 868, 869, 870, 871, 872, 873, 874, 875, 876, 877, 878, 879, 880, 881, 882, 883] rfl (by decide +kernel)
set_option maxRecDepth 20000 in
theorem gL_law_X7_span : GoodIn wsL_law (wsV RL 88 RX7 yX7_span wsX7_span) := goodIn_app (goodIn_r _ [525, 526, 527, 5] rfl (by decide +kernel)) ggL_law_X7_span
set_option maxRecDepth 20000 in
theorem ggL_law_X6_heavy : GoodIn wsL_law wsX6_heavy := goodIn_r _ [544, 389, 391, 545, 229, 230, 231, 2, 232, 233, 16, 140, 141, 142, 546, 257, 258, 238, 202, 203, 204, 205, 29, 479, 269, 270, 23, 271, 272, 349, 350, 351, 352, 902, 903, 904, 905, 906, 889, 890, 891, 892, 893, 894, 895, 848, 849, 850, 851, 852, 853] rfl (by decide +kernel)
set_option maxRecDepth 20000 in
theorem gL_law_X6_heavy : GoodIn wsL_law (wsV RL 89 RX6 yX6_heavy wsX6_heavy) := goodIn_app (goodIn_r _ [541, 542, 543, 2] rfl (by decide +kernel)) ggL_law_X6_heavy
set_option maxRecDepth 20000 in
theorem ggL_law_X7_heavy : GoodIn wsL_law wsX7_heavy := goodIn_r _ [550, 92, 110, 91, 304, 305, 5, 306, 484, 485, 486, 487, 89, 301, 302, 303, 358, 359, 360, 361, 854, 855, 856, 857, 858, 859, 860, 861, 862, 863, 864, 865, 866, 867, 868, 869, 870, 871, 872, 873, 874, 875, 876, 877, 878, 879, 880, 881, 882, 883] rfl (by decide +kernel)
set_option maxRecDepth 20000 in
theorem gL_law_X7_heavy : GoodIn wsL_law (wsV RL 92 RX7 yX7_heavy wsX7_heavy) := goodIn_app (goodIn_r _ [547, 548, 549, 5] rfl (by decide +kernel)) ggL_law_X7_heavy
set_option maxRecDepth 20000 in
theorem ggL_law_X6_split : GoodIn wsL_law wsX6_split := goodIn_r _ [554, 389, 478, 229, 230, 231, 2, 232, 233, 16, 140, 141, 142, 546, 257, 258, 238, 202, 203, 204, 205, 29, 479, 269, 270, 23, 271, 272, 555, 556, 557, 558, 44, 273, 274, 275, 276, 559, 560, 561, 562, 563, 45, 46, 456, 457, 458, 459, 496, 497, 498, 499, 500, 432, 266, 433, 48, 564, 565, 566, 567, 568, 217, 218, 219, 569, 570, 571, 572, 573, 574, 575, 576, 577, 578, 579, 580, 581, 582, 583, 584, 429, 430, 349, 350, 351, 352, 902, 903, 904, 905, 906, 889, 890, 891, 892, 893, 894, 895, 848, 849, 850, 851, 852, 853] rfl (by decide +kernel)
set_option maxRecDepth 20000 in
theorem gL_law_X6_split : GoodIn wsL_law (wsV RL 93 RX6 yX6_split wsX6_split) := goodIn_app (goodIn_r _ [551, 552, 553, 2] rfl (by decide +kernel)) ggL_law_X6_split
set_option maxRecDepth 20000 in
theorem ggL_law_X7_split : GoodIn wsL_law wsX7_split := goodIn_r _ [588, 93, 89, 110, 304, 305, 5, 306, 484, 485, 486, 487, 301, 302, 303, 358, 359, 360, 361, 315, 316, 317, 318, 589, 590, 591, 592, 94, 95, 593, 594, 595, 596, 529, 530, 531, 532, 537, 538, 539, 540, 92, 597, 598, 599, 600, 465, 432, 266, 433, 601, 602, 603, 604, 466, 429, 430, 605, 606, 575, 607, 854, 855, 856, 857, 858, 859, 860, 861, 862, 863, 864, 865, 866, 867, 868, 869, 870, 871, 872, 873, 874, 875, 876, 877, 878, 879, 880, 881, 882, 883] rfl (by decide +kernel)
set_option maxRecDepth 20000 in
theorem gL_law_X7_split : GoodIn wsL_law (wsV RL 96 RX7 yX7_split wsX7_split) := goodIn_app (goodIn_r _ [585, 586, 587, 5] rfl (by decide +kernel)) ggL_law_X7_split
set_option maxRecDepth 20000 in
theorem ggL_law_X6_melt : GoodIn wsL_law wsX6_melt := goodIn_r _ [611, 389, 478, 229, 230, 231, 2, 232, 233, 16, 140, 141, 142, 143, 144, 145, 146, 29, 479, 269, 270, 23, 271, 272, 612, 613, 614, 615, 45, 46, 44, 568, 217, 218, 219, 580, 581, 582, 583, 584, 429, 266, 430, 569, 570, 571, 572, 158, 159, 160, 161, 902, 903, 904, 905, 906, 889, 890, 891, 892, 893, 894, 895, 848, 849, 850, 851, 852, 853] rfl (by decide +kernel)
set_option maxRecDepth 20000 in
theorem gL_law_X6_melt : GoodIn wsL_law (wsV RL 97 RX6 yX6_melt wsX6_melt) := goodIn_app (goodIn_r _ [608, 609, 610, 2] rfl (by decide +kernel)) ggL_law_X6_melt
set_option maxRecDepth 20000 in
theorem ggL_law_X7_melt : GoodIn wsL_law wsX7_melt := goodIn_r _ [619, 89, 484, 485, 486, 5, 487, 301, 302, 303, 620, 621, 622, 623, 94, 95, 93, 601, 602, 603, 604, 466, 429, 266, 430, 169, 170, 171, 172, 110, 854, 855, 856, 857, 858, 859, 860, 861, 862, 863, 864, 865, 866, 867, 868, 869, 870, 871, 872, 873, 874, 875, 876, 877, 878, 879, 880, 881, 882, 883] rfl (by decide +kernel)
set_option maxRecDepth 20000 in
theorem gL_law_X7_melt : GoodIn wsL_law (wsV RL 101 RX7 yX7_melt wsX7_melt) := goodIn_app (goodIn_r _ [616, 617, 618, 5] rfl (by decide +kernel)) ggL_law_X7_melt
set_option maxRecDepth 20000 in
theorem ggL_law_X6_keep : GoodIn wsL_law wsX6_keep := goodIn_r _ [627, 389, 229, 230, 231, 2, 232, 233, 16, 140, 141, 142, 202, 203, 204, 205, 29, 479, 269, 270, 23, 271, 272, 628, 629, 630, 631, 45, 632, 633, 634, 635, 636, 522, 523, 524, 44, 456, 457, 458, 459, 496, 497, 498, 499, 500, 432, 266, 433, 48, 637, 638, 639, 640, 641, 613, 614, 615, 46, 568, 217, 218, 219, 580, 581, 582, 583, 584, 429, 430, 569, 570, 571, 572, 642, 643, 644, 645, 646, 561, 562, 563, 564, 565, 566, 567, 573, 574, 575, 576, 577, 578, 579, 349, 350, 351, 352, 902, 903, 904, 905, 906, 848, 849, 850, 851, 852, 853, 889, 890, 891, 892, 893, 894, 895] rfl (by decide +kernel)
set_option maxRecDepth 20000 in
theorem gL_law_X6_keep : GoodIn wsL_law (wsV RL 102 RX6 yX6_keep wsX6_keep) := goodIn_app (goodIn_r _ [624, 625, 626, 2] rfl (by decide +kernel)) ggL_law_X6_keep
set_option maxRecDepth 20000 in
theorem ggL_law_X7_keep : GoodIn wsL_law wsX7_keep := goodIn_r _ [650, 110, 89, 94, 484, 485, 486, 5, 487, 301, 302, 303, 358, 359, 360, 361, 533, 534, 535, 536, 93, 529, 530, 531, 532, 537, 538, 539, 540, 92, 651, 652, 653, 654, 655, 656, 657, 658, 620, 621, 622, 623, 95, 601, 602, 603, 604, 466, 429, 266, 430, 589, 590, 591, 592, 593, 594, 595, 596, 597, 598, 599, 600, 465, 432, 433, 605, 606, 575, 607, 854, 855, 856, 857, 858, 859, 860, 861, 862, 863, 864, 865, 866, 867, 868, 869, 870, 871, 872, 873, 874, 875, 876, 877, 878, 879, 880, 881, 882, 883] rfl (by decide +kernel)
set_option maxRecDepth 20000 in
theorem gL_law_X7_keep : GoodIn wsL_law (wsV RL 106 RX7 yX7_keep wsX7_keep) := goodIn_app (goodIn_r _ [647, 648, 649, 5] rfl (by decide +kernel)) ggL_law_X7_keep
set_option maxRecDepth 20000 in
theorem ggL_law_X6_together : GoodIn wsL_law wsX6_together := goodIn_r _ [662, 389, 663, 24, 478, 229, 230, 231, 2, 232, 233, 16, 140, 141, 142, 202, 203, 204, 205, 29, 479, 269, 270, 23, 271, 272, 664, 665, 666, 667, 668, 506, 507, 508, 45, 669, 502, 503, 504, 46, 670, 671, 672, 673, 500, 432, 266, 433, 48, 49, 674, 675, 676, 677, 263, 44, 568, 217, 218, 219, 678, 679, 680, 681, 682, 556, 557, 558, 273, 274, 275, 276, 646, 561, 562, 563, 456, 457, 458, 459, 496, 497, 498, 499, 564, 565, 566, 567, 569, 570, 571, 572, 573, 574, 575, 576, 577, 578, 579, 580, 581, 582, 583, 584, 429, 430, 683, 684, 685, 686, 637, 638, 639, 640, 641, 613, 614, 615, 349, 350, 351, 352, 902, 903, 904, 905, 906, 848, 849, 850, 851, 852, 853, 889, 890, 891, 892, 893, 894, 895] rfl (by decide +kernel)
set_option maxRecDepth 20000 in
theorem gL_law_X6_together : GoodIn wsL_law (wsV RL 107 RX6 yX6_together wsX6_together) := goodIn_app (goodIn_r _ [659, 660, 661, 2] rfl (by decide +kernel)) ggL_law_X6_together
set_option maxRecDepth 20000 in
theorem ggL_law_X7_together : GoodIn wsL_law wsX7_together := goodIn_r _ [690, 89, 691, 93, 99, 100, 101, 92, 91, 94, 95, 90, 110, 301, 302, 5, 303, 358, 359, 360, 361, 692, 693, 694, 695, 696, 697, 698, 699, 315, 316, 317, 318, 700, 701, 702, 703, 593, 594, 595, 596, 529, 530, 531, 532, 537, 538, 539, 540, 597, 598, 599, 600, 465, 432, 266, 433, 601, 602, 603, 604, 466, 429, 430, 605, 606, 575, 607, 651, 652, 653, 654, 655, 656, 657, 658, 620, 621, 622, 623, 854, 855, 856, 857, 858, 859, 860, 861, 862, 863, 864, 865, 866, 867, 868, 869, 870, 871, 872, 873, 874, 875, 876, 877, 878, 879, 880, 881, 882, 883] rfl (by decide +kernel)
set_option maxRecDepth 20000 in
theorem gL_law_X7_together : GoodIn wsL_law (wsV RL 110 RX7 yX7_together wsX7_together) := goodIn_app (goodIn_r _ [687, 688, 689, 5] rfl (by decide +kernel)) ggL_law_X7_together
set_option maxRecDepth 20000 in
theorem ggL_law_X6_drifts : GoodIn wsL_law wsX6_drifts := goodIn_r _ [707, 389, 708, 229, 230, 231, 2, 232, 233, 16, 140, 141, 142, 202, 203, 204, 205, 29, 479, 269, 270, 23, 271, 272, 349, 350, 351, 352, 902, 903, 904, 905, 906, 889, 890, 891, 892, 893, 894, 895, 848, 849, 850, 851, 852, 853] rfl (by decide +kernel)
set_option maxRecDepth 20000 in
theorem gL_law_X6_drifts : GoodIn wsL_law (wsV RL 111 RX6 yX6_drifts wsX6_drifts) := goodIn_app (goodIn_r _ [704, 705, 706, 2] rfl (by decide +kernel)) ggL_law_X6_drifts
set_option maxRecDepth 20000 in
theorem ggL_law_X7_drifts : GoodIn wsL_law wsX7_drifts := goodIn_r _ [712, 110, 90, 484, 485, 486, 5, 487, 89, 301, 302, 303, 358, 359, 360, 361, 854, 855, 856, 857, 858, 859, 860, 861, 862, 863, 864, 865, 866, 867, 868, 869, 870, 871, 872, 873, 874, 875, 876, 877, 878, 879, 880, 881, 882, 883] rfl (by decide +kernel)
set_option maxRecDepth 20000 in
theorem gL_law_X7_drifts : GoodIn wsL_law (wsV RL 114 RX7 yX7_drifts wsX7_drifts) := goodIn_app (goodIn_r _ [709, 710, 711, 5] rfl (by decide +kernel)) ggL_law_X7_drifts
set_option maxRecDepth 20000 in
theorem ggL_law_X6_guess : GoodIn wsL_law wsX6_guess := goodIn_r _ [716, 389, 28, 229, 230, 231, 2, 232, 233, 16, 140, 141, 142, 717, 718, 719, 546, 257, 258, 238, 202, 203, 204, 205, 29, 479, 269, 270, 23, 271, 272, 720, 721, 722, 723, 45, 670, 671, 672, 673, 500, 432, 266, 433, 48, 49, 724, 725, 726, 27, 727, 53, 54, 728, 729, 730, 731, 732, 733, 734, 735, 736, 737, 738, 739, 740, 44, 584, 429, 430, 456, 457, 458, 459, 496, 497, 498, 499, 636, 522, 523, 524, 741, 742, 743, 744, 745, 746, 747, 748, 749, 349, 350, 351, 352, 902, 903, 904, 905, 906, 848, 849, 850, 851, 852, 853, 889, 890, 891, 892, 893, 894, 895, 896, 897] rfl (by decide +kernel)
set_option maxRecDepth 20000 in
theorem gL_law_X6_guess : GoodIn wsL_law (wsV RL 115 RX6 yX6_guess wsX6_guess) := goodIn_app (goodIn_r _ [713, 714, 715, 2] rfl (by decide +kernel)) ggL_law_X6_guess
set_option maxRecDepth 20000 in
theorem ggL_law_X7_guess : GoodIn wsL_law wsX7_guess := goodIn_r _ [753, 89, 94, 754, 755, 756, 5, 757, 304, 305, 306, 484, 485, 486, 487, 301, 302, 303, 358, 359, 360, 361, 110, 696, 697, 698, 699, 92, 91, 533, 534, 535, 536, 93, 529, 530, 531, 532, 537, 538, 539, 540, 758, 759, 760, 761, 465, 432, 266, 433, 466, 429, 430, 762, 763, 764, 765, 120, 78, 854, 855, 856, 857, 858, 859, 860, 861, 862, 863, 864, 865, 866, 867, 868, 869, 870, 871, 872, 873, 874, 875, 876, 877, 878, 879, 880, 881, 882, 883] rfl (by decide +kernel)
set_option maxRecDepth 20000 in
theorem gL_law_X7_guess : GoodIn wsL_law (wsV RL 118 RX7 yX7_guess wsX7_guess) := goodIn_app (goodIn_r _ [750, 751, 752, 5] rfl (by decide +kernel)) ggL_law_X7_guess
set_option maxRecDepth 20000 in
theorem ggL_law_X6_bound : GoodIn wsL_law wsX6_bound := goodIn_r _ [769, 389, 229, 230, 231, 2, 232, 233, 16, 140, 141, 142, 717, 718, 719, 546, 257, 258, 238, 202, 203, 204, 205, 29, 479, 269, 270, 23, 271, 272, 770, 771, 772, 773, 45, 46, 500, 432, 266, 433, 670, 671, 672, 673, 48, 49, 737, 738, 739, 740, 44, 584, 429, 430, 456, 457, 458, 459, 496, 497, 498, 499, 774, 775, 776, 777, 636, 522, 523, 524, 349, 350, 351, 352, 902, 903, 904, 905, 906, 848, 849, 850, 851, 852, 853, 889, 890, 891, 892, 893, 894, 895] rfl (by decide +kernel)
set_option maxRecDepth 20000 in
theorem gL_law_X6_bound : GoodIn wsL_law (wsV RL 119 RX6 yX6_bound wsX6_bound) := goodIn_app (goodIn_r _ [766, 767, 768, 2] rfl (by decide +kernel)) ggL_law_X6_bound
set_option maxRecDepth 20000 in
theorem ggL_law_X7_bound : GoodIn wsL_law wsX7_bound := goodIn_r _ [781, 110, 754, 755, 756, 5, 757, 304, 305, 306, 484, 485, 486, 487, 89, 301, 302, 303, 358, 359, 360, 361, 782, 783, 784, 785, 94, 95, 465, 432, 266, 433, 696, 697, 698, 699, 92, 91, 758, 759, 760, 761, 93, 466, 429, 430, 529, 530, 531, 532, 537, 538, 539, 540, 533, 534, 535, 536, 854, 855, 856, 857, 858, 859, 860, 861, 862, 863, 864, 865, 866, 867, 868, 869, 870, 871, 872, 873, 874, 875, 876, 877, 878, 879, 880, 881, 882, 883] rfl (by decide +kernel)
set_option maxRecDepth 20000 in
theorem gL_law_X7_bound : GoodIn wsL_law (wsV RL 123 RX7 yX7_bound wsX7_bound) := goodIn_app (goodIn_r _ [778, 779, 780, 5] rfl (by decide +kernel)) ggL_law_X7_bound
set_option maxRecDepth 20000 in
theorem ggL_law_X6_join : GoodIn wsL_law wsX6_join := goodIn_r _ [789, 389, 28, 229, 230, 231, 2, 232, 233, 16, 140, 141, 142, 202, 203, 204, 205, 29, 479, 269, 270, 23, 271, 272, 790, 791, 792, 793, 724, 725, 726, 27, 727, 53, 54, 728, 729, 730, 731, 732, 266, 733, 734, 735, 736, 794, 795, 796, 797, 48, 49, 45, 273, 274, 275, 276, 44, 798, 799, 800, 801, 636, 522, 523, 524, 456, 457, 458, 459, 496, 497, 498, 499, 500, 432, 433, 741, 742, 743, 744, 745, 746, 747, 748, 749, 349, 350, 351, 352, 902, 903, 904, 905, 906, 848, 849, 850, 851, 852, 853, 889, 890, 891, 892, 893, 894, 895, 896, 897] rfl (by decide +kernel)
set_option maxRecDepth 20000 in
theorem gL_law_X6_join : GoodIn wsL_law (wsV RL 124 RX6 yX6_join wsX6_join) := goodIn_app (goodIn_r _ [786, 787, 788, 2] rfl (by decide +kernel)) ggL_law_X6_join
set_option maxRecDepth 20000 in
theorem ggL_law_X7_join : GoodIn wsL_law wsX7_join := goodIn_r _ [805, 89, 92, 91, 94, 301, 302, 5, 303, 358, 359, 360, 361, 110, 315, 316, 317, 318, 93, 533, 534, 535, 536, 529, 530, 531, 532, 537, 538, 539, 540, 806, 807, 808, 762, 763, 764, 765, 120, 78, 854, 855, 856, 857, 858, 859, 860, 861, 862, 863, 864, 865, 866, 867, 868, 869, 870, 871, 872, 873, 874, 875, 876, 877, 878, 879, 880, 881, 882, 883] rfl (by decide +kernel)
set_option maxRecDepth 20000 in
theorem gL_law_X7_join : GoodIn wsL_law (wsV RL 127 RX7 yX7_join wsX7_join) := goodIn_app (goodIn_r _ [802, 803, 804, 5] rfl (by decide +kernel)) ggL_law_X7_join
set_option maxRecDepth 20000 in
theorem ggL_law_X6_harm : GoodIn wsL_law wsX6_harm := goodIn_r _ [812, 389, 28, 813, 432, 266, 433, 229, 230, 231, 2, 232, 233, 16, 140, 141, 142, 717, 718, 719, 546, 257, 258, 238, 202, 203, 204, 205, 29, 479, 269, 270, 23, 271, 272, 770, 771, 772, 773, 45, 46, 500, 670, 671, 672, 673, 48, 49, 737, 738, 739, 740, 44, 584, 429, 430, 456, 457, 458, 459, 496, 497, 498, 499, 774, 775, 776, 777, 636, 522, 523, 524, 814, 725, 726, 27, 727, 53, 54, 728, 729, 730, 731, 732, 733, 734, 735, 736, 746, 747, 748, 749, 349, 350, 351, 352, 902, 903, 904, 905, 906, 848, 849, 850, 851, 852, 853, 889, 890, 891, 892, 893, 894, 895, 896, 897] rfl (by decide +kernel)
set_option maxRecDepth 20000 in
theorem gL_law_X6_harm : GoodIn wsL_law (wsV RL 128 RX6 yX6_harm wsX6_harm) := goodIn_app (goodIn_r _ [809, 810, 811, 2] rfl (by decide +kernel)) ggL_law_X6_harm
set_option maxRecDepth 20000 in
theorem ggL_law_X7_harm : GoodIn wsL_law wsX7_harm := goodIn_r _ [818, 465, 432, 266, 433, 754, 755, 756, 5, 757, 304, 305, 306, 484, 485, 486, 487, 89, 301, 302, 303, 358, 359, 360, 361, 110, 782, 783, 784, 785, 94, 95, 696, 697, 698, 699, 92, 91, 758, 759, 760, 761, 93, 466, 429, 430, 529, 530, 531, 532, 537, 538, 539, 540, 533, 534, 535, 536, 762, 763, 764, 765, 120, 78, 854, 855, 856, 857, 858, 859, 860, 861, 862, 863, 864, 865, 866, 867, 868, 869, 870, 871, 872, 873, 874, 875, 876, 877, 878, 879, 880, 881, 882, 883] rfl (by decide +kernel)
set_option maxRecDepth 20000 in
theorem gL_law_X7_harm : GoodIn wsL_law (wsV RL 132 RX7 yX7_harm wsX7_harm) := goodIn_app (goodIn_r _ [815, 816, 817, 5] rfl (by decide +kernel)) ggL_law_X7_harm
set_option maxRecDepth 20000 in
theorem ggL_law_X6_sample : GoodIn wsL_law wsX6_sample := goodIn_r _ [822, 823, 824, 229, 230, 231, 2, 232, 233, 16, 140, 141, 142, 143, 144, 145, 146, 29, 825, 826, 827, 68, 828, 281, 293, 286, 158, 159, 160, 161, 902, 903, 904, 905, 906, 848, 849, 850, 851, 852, 853, 907, 908, 909, 910] rfl (by decide +kernel)
set_option maxRecDepth 20000 in
theorem gL_law_X6_sample : GoodIn wsL_law (wsV RL 133 RX6 yX6_sample wsX6_sample) := goodIn_app (goodIn_r _ [819, 820, 821, 2] rfl (by decide +kernel)) ggL_law_X6_sample
set_option maxRecDepth 20000 in
theorem ggL_law_X7_sample : GoodIn wsL_law wsX7_sample := goodIn_r _ [832, 85, 86, 88, 301, 302, 5, 303, 169, 170, 171, 172, 110, 854, 855, 856, 857, 858, 859, 860, 861, 862, 863, 864, 865, 866, 867, 868, 869, 870, 871, 872, 873, 874, 875, 876, 877, 878, 879, 880, 881, 882, 883] rfl (by decide +kernel)
set_option maxRecDepth 20000 in
theorem gL_law_X7_sample : GoodIn wsL_law (wsV RL 136 RX7 yX7_sample wsX7_sample) := goodIn_app (goodIn_r _ [829, 830, 831, 5] rfl (by decide +kernel)) ggL_law_X7_sample
set_option maxRecDepth 20000 in
theorem ggL_law_X6_drawn : GoodIn wsL_law wsX6_drawn := goodIn_r _ [836, 837, 824, 838, 229, 230, 231, 2, 232, 233, 16, 140, 141, 142, 202, 203, 204, 205, 29, 839, 840, 841, 68, 842, 286, 281, 843, 429, 266, 430, 349, 350, 351, 352, 902, 903, 904, 905, 906, 907, 908, 909, 910, 848, 849, 850, 851, 852, 853] rfl (by decide +kernel)
set_option maxRecDepth 20000 in
theorem gL_law_X6_drawn : GoodIn wsL_law (wsV RL 137 RX6 yX6_drawn wsX6_drawn) := goodIn_app (goodIn_r _ [833, 834, 835, 2] rfl (by decide +kernel)) ggL_law_X6_drawn
set_option maxRecDepth 20000 in
theorem ggL_law_X7_drawn : GoodIn wsL_law wsX7_drawn := goodIn_r _ [847, 85, 86, 110, 87, 301, 302, 5, 303, 358, 359, 360, 361, 854, 855, 856, 857, 858, 859, 860, 861, 862, 863, 864, 865, 866, 867, 868, 869, 870, 871, 872, 873, 874, 875, 876, 877, 878, 879, 880, 881, 882, 883] rfl (by decide +kernel)
set_option maxRecDepth 20000 in
theorem gL_law_X7_drawn : GoodIn wsL_law (wsV RL 140 RX7 yX7_drawn wsX7_drawn) := goodIn_app (goodIn_r _ [844, 845, 846, 5] rfl (by decide +kernel)) ggL_law_X7_drawn
