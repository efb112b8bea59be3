set_option maxRecDepth 20000 in
theorem ggL_law_X6_init : GoodIn wsL_law wsX6_init := goodIn_r _ [9, 10, 11, 12, 13, 14, 15, 16, 17, 18, 19, 20, 21, 22, 23, 24, 25, 26, 27, 28, 29, 30, 31, 32, 33, 34, 35, 36, 37, 38, 39, 40, 41, 42, 43, 44, 45, 46, 47, 48, 49, 50, 51, 52, 53, 54, 55, 56, 57, 58, 59, 60, 61, 62, 63, 64, 65, 66, 67, 68, 69, 70, 71, 72, 73, 848, 849, 850, 851, 852, 853, 884, 885, 886, 887, 888, 889, 890, 891, 892, 893, 894, 895, 896, 897, 898, 899, 900, 901, 902, 903, 904, 905, 906, 907, 908, 909, 910] rfl (by decide +kernel)
set_option maxRecDepth 20000 in
theorem gL_law_X6_init : GoodIn wsL_law (wsX6_init) := ggL_law_X6_init
set_option maxRecDepth 20000 in
theorem ggL_law_X7_init : GoodIn wsL_law wsX7_init := goodIn_r _ [76, 77, 11, 12, 78, 37, 79, 80, 58, 81, 82, 83, 84, 85, 86, 87, 88, 89, 90, 91, 47, 92, 93, 94, 95, 96, 97, 98, 99, 100, 101, 854, 855, 856, 857, 858, 859, 860, 861, 862, 863, 864, 865, 866, 867, 868, 869, 870, 871, 872, 873, 874, 875, 876, 877, 878, 879, 880, 881, 882, 883] rfl (by decide +kernel)
set_option maxRecDepth 20000 in
theorem gL_law_X7_init : GoodIn wsL_law (wsX7_init) := ggL_law_X7_init
set_option maxRecDepth 20000 in
theorem ggL_law_X6_status : GoodIn wsL_law wsX6_status := goodIn_r _ [105, 29, 848, 849, 850, 851, 852, 853] rfl (by decide +kernel)
set_option maxRecDepth 20000 in
theorem gL_law_X6_status : GoodIn wsL_law (wsV RL 13 RX6 yX6_status wsX6_status) := goodIn_app (goodIn_r _ [102, 103, 104, 2] rfl (by decide +kernel)) ggL_law_X6_status
set_option maxRecDepth 20000 in
theorem ggL_law_X7_status : GoodIn wsL_law wsX7_status := goodIn_r _ [109, 110, 854, 855, 856, 857, 858, 859, 860, 861, 862, 863, 864, 865, 866, 867, 868, 869, 870, 871, 872, 873, 874, 875, 876, 877, 878, 879, 880, 881, 882, 883] rfl (by decide +kernel)
set_option maxRecDepth 20000 in
theorem gL_law_X7_status : GoodIn wsL_law (wsV RL 17 RX7 yX7_status wsX7_status) := goodIn_app (goodIn_r _ [106, 107, 108, 5] rfl (by decide +kernel)) ggL_law_X7_status
set_option maxRecDepth 20000 in
theorem ggL_law_X6_top : GoodIn wsL_law wsX6_top := goodIn_r _ [114, 28, 115, 848, 849, 850, 851, 852, 853, 896, 897] rfl (by decide +kernel)
set_option maxRecDepth 20000 in
theorem gL_law_X6_top : GoodIn wsL_law (wsV RL 18 RX6 yX6_top wsX6_top) := goodIn_app (goodIn_r _ [111, 112, 113, 2] rfl (by decide +kernel)) ggL_law_X6_top
set_option maxRecDepth 20000 in
theorem ggL_law_X7_top : GoodIn wsL_law wsX7_top := goodIn_r _ [119, 120, 854, 855, 856, 857, 858, 859, 860, 861, 862, 863, 864, 865, 866, 867, 868, 869, 870, 871, 872, 873, 874, 875, 876, 877, 878, 879, 880, 881, 882, 883] rfl (by decide +kernel)
set_option maxRecDepth 20000 in
theorem gL_law_X7_top : GoodIn wsL_law (wsV RL 22 RX7 yX7_top wsX7_top) := goodIn_app (goodIn_r _ [116, 117, 118, 5] rfl (by decide +kernel)) ggL_law_X7_top
set_option maxRecDepth 20000 in
theorem ggL_law_X6_bottom : GoodIn wsL_law wsX6_bottom := goodIn_r _ [124, 28, 125, 848, 849, 850, 851, 852, 853, 896, 897] rfl (by decide +kernel)
set_option maxRecDepth 20000 in
theorem gL_law_X6_bottom : GoodIn wsL_law (wsV RL 23 RX6 yX6_bottom wsX6_bottom) := goodIn_app (goodIn_r _ [121, 122, 123, 2] rfl (by decide +kernel)) ggL_law_X6_bottom
set_option maxRecDepth 20000 in
theorem ggL_law_X7_bottom : GoodIn wsL_law wsX7_bottom := goodIn_r _ [129, 78, 854, 855, 856, 857, 858, 859, 860, 861, 862, 863, 864, 865, 866, 867, 868, 869, 870, 871, 872, 873, 874, 875, 876, 877, 878, 879, 880, 881, 882, 883] rfl (by decide +kernel)
set_option maxRecDepth 20000 in
theorem gL_law_X7_bottom : GoodIn wsL_law (wsV RL 26 RX7 yX7_bottom wsX7_bottom) := goodIn_app (goodIn_r _ [126, 127, 128, 5] rfl (by decide +kernel)) ggL_law_X7_bottom
set_option maxRecDepth 20000 in
theorem ggL_law_X6_tray : GoodIn wsL_law wsX6_tray := goodIn_r _ [133, 134, 135, 136, 137, 138, 2, 139, 14, 140, 141, 142, 143, 144, 145, 146, 29, 147, 148, 149, 31, 150, 151, 152, 153, 59, 154, 155, 156, 157, 158, 159, 160, 161, 848, 849, 850, 851, 852, 853, 898, 899, 900, 901] rfl (by decide +kernel)
set_option maxRecDepth 20000 in
theorem gL_law_X6_tray : GoodIn wsL_law (wsV RL 27 RX6 yX6_tray wsX6_tray) := goodIn_app (goodIn_r _ [130, 131, 132, 2] rfl (by decide +kernel)) ggL_law_X6_tray
set_option maxRecDepth 20000 in
theorem ggL_law_X7_tray : GoodIn wsL_law wsX7_tray := goodIn_r _ [165, 79, 80, 81, 166, 167, 5, 168, 169, 170, 171, 172, 110, 854, 855, 856, 857, 858, 859, 860, 861, 862, 863, 864, 865, 866, 867, 868, 869, 870, 871, 872, 873, 874, 875, 876, 877, 878, 879, 880, 881, 882, 883] rfl (by decide +kernel)
set_option maxRecDepth 20000 in
theorem gL_law_X7_tray : GoodIn wsL_law (wsV RL 31 RX7 yX7_tray wsX7_tray) := goodIn_app (goodIn_r _ [162, 163, 164, 5] rfl (by decide +kernel)) ggL_law_X7_tray
set_option maxRecDepth 20000 in
theorem ggL_law_X6_write : GoodIn wsL_law wsX6_write := goodIn_r _ [176, 177, 178, 136, 137, 138, 2, 139, 134, 14, 140, 141, 142, 143, 144, 145, 146, 29, 179, 180, 181, 31, 182, 153, 183, 184, 185, 186, 152, 158, 159, 160, 161, 898, 899, 900, 901, 848, 849, 850, 851, 852, 853] rfl (by decide +kernel)
set_option maxRecDepth 20000 in
theorem gL_law_X6_write : GoodIn wsL_law (wsV RL 34 RX6 yX6_write wsX6_write) := goodIn_app (goodIn_r _ [173, 174, 175, 2] rfl (by decide +kernel)) ggL_law_X6_write
set_option maxRecDepth 20000 in
theorem ggL_law_X7_write : GoodIn wsL_law wsX7_write := goodIn_r _ [190, 81, 79, 191, 192, 193, 5, 194, 80, 166, 167, 168, 195, 196, 197, 169, 170, 171, 172, 110, 854, 855, 856, 857, 858, 859, 860, 861, 862, 863, 864, 865, 866, 867, 868, 869, 870, 871, 872, 873, 874, 875, 876, 877, 878, 879, 880, 881, 882, 883] rfl (by decide +kernel)
set_option maxRecDepth 20000 in
theorem gL_law_X7_write : GoodIn wsL_law (wsV RL 38 RX7 yX7_write wsX7_write) := goodIn_app (goodIn_r _ [187, 188, 189, 5] rfl (by decide +kernel)) ggL_law_X7_write
set_option maxRecDepth 20000 in
theorem ggL_law_X6_read : GoodIn wsL_law wsX6_read := goodIn_r _ [201, 177, 29, 178, 136, 137, 138, 2, 139, 134, 14, 140, 141, 142, 202, 203, 204, 205, 179, 180, 181, 31, 182, 153, 898, 899, 900, 901, 848, 849, 850, 851, 852, 853] rfl (by decide +kernel)
set_option maxRecDepth 20000 in
theorem gL_law_X6_read : GoodIn wsL_law (wsV RL 39 RX6 yX6_read wsX6_read) := goodIn_app (goodIn_r _ [198, 199, 200, 2] rfl (by decide +kernel)) ggL_law_X6_read
set_option maxRecDepth 20000 in
theorem ggL_law_X7_read : GoodIn wsL_law wsX7_read := goodIn_r _ [209, 110, 210, 81, 191, 192, 193, 5, 194, 80, 166, 167, 168, 854, 855, 856, 857, 858, 859, 860, 861, 862, 863, 864, 865, 866, 867, 868, 869, 870, 871, 872, 873, 874, 875, 876, 877, 878, 879, 880, 881, 882, 883] rfl (by decide +kernel)
set_option maxRecDepth 20000 in
theorem gL_law_X7_read : GoodIn wsL_law (wsV RL 43 RX7 yX7_read wsX7_read) := goodIn_app (goodIn_r _ [206, 207, 208, 5] rfl (by decide +kernel)) ggL_law_X7_read
set_option maxRecDepth 20000 in
theorem ggL_law_X6_pour : GoodIn wsL_law wsX6_pour := goodIn_r _ [214, 177, 215, 178, 216, 217, 218, 219, 136, 137, 138, 2, 139, 134, 14, 140, 141, 142, 143, 144, 145, 146, 29, 179, 180, 181, 31, 182, 153, 158, 159, 160, 161, 898, 899, 900, 901, 848, 849, 850, 851, 852, 853] rfl (by decide +kernel)
set_option maxRecDepth 20000 in
theorem gL_law_X6_pour : GoodIn wsL_law (wsV RL 44 RX6 yX6_pour wsX6_pour) := goodIn_app (goodIn_r _ [211, 212, 213, 2] rfl (by decide +kernel)) ggL_law_X6_pour
set_option maxRecDepth 20000 in
theorem ggL_law_X7_pour : GoodIn wsL_law wsX7_pour := goodIn_r _ [223, 80, 79, 81, 166, 167, 5, 168, 169, 170, 171, 172, 110, 854, 855, 856, 857, 858, 859, 860, 861, 862, 863, 864, 865, 866, 867, 868, 869, 870, 871, 872, 873, 874, 875, 876, 877, 878, 879, 880, 881, 882, 883] rfl (by decide +kernel)
set_option maxRecDepth 20000 in
theorem gL_law_X7_pour : GoodIn wsL_law (wsV RL 48 RX7 yX7_pour wsX7_pour) := goodIn_app (goodIn_r _ [220, 221, 222, 5] rfl (by decide +kernel)) ggL_law_X7_pour
set_option maxRecDepth 20000 in
theorem ggL_law_X6_put : GoodIn wsL_law wsX6_put := goodIn_r _ [227, 228, 229, 230, 231, 2, 232, 233, 16, 140, 141, 142, 234, 235, 236, 237, 238, 143, 144, 145, 146, 29, 239, 240, 241, 33, 242, 243, 244, 245, 246, 247, 248, 249, 250, 251, 252, 69, 253, 254, 255, 256, 63, 65, 257, 258, 259, 260, 261, 23, 262, 263, 264, 265, 266, 267, 48, 49, 45, 268, 269, 270, 271, 272, 273, 274, 275, 276, 44, 277, 278, 279, 68, 280, 281, 282, 283, 284, 285, 286, 287, 73, 288, 289, 290, 291, 292, 293, 294, 295, 296, 158, 159, 160, 161, 848, 849, 850, 851, 852, 853, 902, 903, 904, 905, 906, 889, 890, 891, 892, 893, 894, 895, 907, 908, 909, 910] rfl (by decide +kernel)
set_option maxRecDepth 20000 in
theorem gL_law_X6_put : GoodIn wsL_law (wsV RL 49 RX6 yX6_put wsX6_put) := goodIn_app (goodIn_r _ [224, 225, 226, 2] rfl (by decide +kernel)) ggL_law_X6_put
set_option maxRecDepth 20000 in
theorem ggL_law_X7_put : GoodIn wsL_law wsX7_put := goodIn_r _ [300, 301, 302, 5, 303, 304, 305, 306, 169, 170, 171, 172, 110, 307, 308, 309, 310, 84, 83, 311, 312, 313, 314, 82, 89, 90, 92, 91, 94, 315, 316, 317, 318, 93, 319, 320, 321, 322, 85, 86, 87, 88, 323, 324, 325, 326, 854, 855, 856, 857, 858, 859, 860, 861, 862, 863, 864, 865, 866, 867, 868, 869, 870, 871, 872, 873, 874, 875, 876, 877, 878, 879, 880, 881, 882, 883] rfl (by decide +kernel)
set_option maxRecDepth 20000 in
theorem gL_law_X7_put : GoodIn wsL_law (wsV RL 52 RX7 yX7_put wsX7_put) := goodIn_app (goodIn_r _ [297, 298, 299, 5] rfl (by decide +kernel)) ggL_law_X7_put
set_option maxRecDepth 20000 in
theorem ggL_law_X6_strike : GoodIn wsL_law wsX6_strike := goodIn_r _ [330, 228, 229, 230, 231, 2, 232, 233, 16, 140, 141, 142, 234, 235, 236, 237, 238, 143, 144, 145, 146, 29, 331, 332, 333, 33, 334, 63, 248, 257, 258, 335, 254, 255, 256, 247, 65, 259, 260, 261, 23, 262, 263, 264, 265, 266, 267, 48, 49, 45, 268, 269, 270, 271, 272, 273, 274, 275, 276, 44, 158, 159, 160, 161, 848, 849, 850, 851, 852, 853, 902, 903, 904, 905, 906, 889, 890, 891, 892, 893, 894, 895] rfl (by decide +kernel)
set_option maxRecDepth 20000 in
theorem gL_law_X6_strike : GoodIn wsL_law (wsV RL 53 RX6 yX6_strike wsX6_strike) := goodIn_app (goodIn_r _ [327, 328, 329, 2] rfl (by decide +kernel)) ggL_law_X6_strike
set_option maxRecDepth 20000 in
theorem ggL_law_X7_strike : GoodIn wsL_law wsX7_strike := goodIn_r _ [339, 83, 82, 301, 302, 5, 303, 304, 305, 306, 169, 170, 171, 172, 110, 311, 312, 313, 314, 84, 89, 90, 92, 91, 94, 315, 316, 317, 318, 93, 854, 855, 856, 857, 858, 859, 860, 861, 862, 863, 864, 865, 866, 867, 868, 869, 870, 871, 872, 873, 874, 875, 876, 877, 878, 879, 880, 881, 882, 883] rfl (by decide +kernel)
set_option maxRecDepth 20000 in
theorem gL_law_X7_strike : GoodIn wsL_law (wsV RL 56 RX7 yX7_strike wsX7_strike) := goodIn_app (goodIn_r _ [336, 337, 338, 5] rfl (by decide +kernel)) ggL_law_X7_strike
set_option maxRecDepth 20000 in
theorem ggL_law_X6_pack : GoodIn wsL_law wsX6_pack := goodIn_r _ [343, 177, 344, 178, 229, 230, 231, 2, 232, 233, 16, 140, 141, 142, 136, 137, 138, 139, 134, 14, 202, 203, 204, 205, 29, 345, 346, 347, 31, 348, 153, 59, 235, 236, 237, 238, 239, 240, 241, 33, 242, 243, 244, 245, 246, 247, 248, 249, 250, 251, 252, 69, 253, 254, 255, 256, 63, 65, 257, 258, 259, 260, 261, 23, 262, 263, 264, 265, 266, 267, 48, 49, 45, 268, 269, 270, 271, 272, 273, 274, 275, 276, 44, 277, 278, 279, 68, 280, 281, 282, 283, 284, 285, 286, 287, 73, 288, 289, 290, 291, 292, 293, 294, 295, 296, 349, 350, 351, 352, 898, 899, 900, 901, 848, 849, 850, 851, 852, 853, 902, 903, 904, 905, 906, 889, 890, 891, 892, 893, 894, 895, 907, 908, 909, 910] rfl (by decide +kernel)
set_option maxRecDepth 20000 in
theorem gL_law_X6_pack : GoodIn wsL_law (wsV RL 57 RX6 yX6_pack wsX6_pack) := goodIn_app (goodIn_r _ [340, 341, 342, 2] rfl (by decide +kernel)) ggL_law_X6_pack
set_option maxRecDepth 20000 in
theorem ggL_law_X7_pack : GoodIn wsL_law wsX7_pack := goodIn_r _ [356, 80, 81, 210, 357, 110, 301, 302, 5, 303, 166, 167, 168, 358, 359, 360, 361, 307, 308, 309, 310, 84, 83, 311, 312, 313, 314, 82, 89, 90, 92, 91, 94, 315, 316, 317, 318, 93, 319, 320, 321, 322, 85, 86, 87, 88, 323, 324, 325, 326, 854, 855, 856, 857, 858, 859, 860, 861, 862, 863, 864, 865, 866, 867, 868, 869, 870, 871, 872, 873, 874, 875, 876, 877, 878, 879, 880, 881, 882, 883] rfl (by decide +kernel)
set_option maxRecDepth 20000 in
theorem gL_law_X7_pack : GoodIn wsL_law (wsV RL 61 RX7 yX7_pack wsX7_pack) := goodIn_app (goodIn_r _ [353, 354, 355, 5] rfl (by decide +kernel)) ggL_law_X7_pack
set_option maxRecDepth 20000 in
theorem ggL_law_X6_truly : GoodIn wsL_law wsX6_truly := goodIn_r _ [365, 229, 230, 231, 2, 232, 233, 16, 140, 141, 142, 234, 235, 236, 237, 238, 202, 203, 204, 205, 29, 331, 332, 333, 33, 334, 63, 248, 257, 258, 349, 350, 351, 352, 848, 849, 850, 851, 852, 853, 902, 903, 904, 905, 906] rfl (by decide +kernel)
set_option maxRecDepth 20000 in
theorem gL_law_X6_truly : GoodIn wsL_law (wsV RL 62 RX6 yX6_truly wsX6_truly) := goodIn_app (goodIn_r _ [362, 363, 364, 2] rfl (by decide +kernel)) ggL_law_X6_truly
set_option maxRecDepth 20000 in
theorem ggL_law_X7_truly : GoodIn wsL_law wsX7_truly := goodIn_r _ [369, 110, 83, 82, 301, 302, 5, 303, 304, 305, 306, 358, 359, 360, 361, 854, 855, 856, 857, 858, 859, 860, 861, 862, 863, 864, 865, 866, 867, 868, 869, 870, 871, 872, 873, 874, 875, 876, 877, 878, 879, 880, 881, 882, 883] rfl (by decide +kernel)
set_option maxRecDepth 20000 in
theorem gL_law_X7_truly : GoodIn wsL_law (wsV RL 65 RX7 yX7_truly wsX7_truly) := goodIn_app (goodIn_r _ [366, 367, 368, 5] rfl (by decide +kernel)) ggL_law_X7_truly
set_option maxRecDepth 20000 in
theorem ggL_law_X6_rows : GoodIn wsL_law wsX6_rows := goodIn_r _ [373, 374, 229, 230, 231, 2, 232, 233, 16, 140, 141, 142, 202, 203, 204, 205, 29, 349, 350, 351, 352, 375, 244, 245, 33, 246, 247, 248, 376, 377, 378, 379, 63, 902, 903, 904, 905, 906, 848, 849, 850, 851, 852, 853] rfl (by decide +kernel)
set_option maxRecDepth 20000 in
theorem gL_law_X6_rows : GoodIn wsL_law (wsV RL 66 RX6 yX6_rows wsX6_rows) := goodIn_app (goodIn_r _ [370, 371, 372, 2] rfl (by decide +kernel)) ggL_law_X6_rows
set_option maxRecDepth 20000 in
theorem ggL_law_X7_rows : GoodIn wsL_law wsX7_rows := goodIn_r _ [383, 110, 82, 84, 301, 302, 5, 303, 358, 359, 360, 361, 307, 308, 309, 310, 83, 854, 855, 856, 857, 858, 859, 860, 861, 862, 863, 864, 865, 866, 867, 868, 869, 870, 871, 872, 873, 874, 875, 876, 877, 878, 879, 880, 881, 882, 883] rfl (by decide +kernel)
set_option maxRecDepth 20000 in
theorem gL_law_X7_rows : GoodIn wsL_law (wsV RL 69 RX7 yX7_rows wsX7_rows) := goodIn_app (goodIn_r _ [380, 381, 382, 5] rfl (by decide +kernel)) ggL_law_X7_rows
