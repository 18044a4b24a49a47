set_option maxRecDepth 20000 in
theorem ggL_law_X7_init : GoodIn wsL_law wsX7_init := goodIn_r _ [8, 9, 10, 11, 12, 13, 14, 15, 16, 17, 18, 19, 20, 21, 22, 23, 24, 25, 26, 27, 28, 29, 30, 31, 32, 33, 34, 35, 36, 37, 38, 39, 40, 41, 42, 43, 44, 45, 46, 47, 48, 49, 50, 51, 52, 53, 54, 55, 56, 57, 58, 59, 60, 61, 62, 63, 64, 65, 66, 67, 68, 69, 70, 71, 72, 73, 74, 75, 76, 77, 78, 79, 80, 81, 82, 83, 84, 85, 86, 87, 88, 89, 90, 91, 92, 93, 94, 95, 96, 97, 98, 99, 100, 101, 102, 103, 104, 105, 106, 107, 108, 109, 905, 906, 868, 869, 870, 871, 872, 873, 874, 875, 907, 908, 909, 910, 911, 912, 913, 914, 915, 916, 917, 918, 919, 920, 921, 922, 923, 924, 925, 926, 927, 928, 929, 930, 931, 932, 933, 934, 935, 936, 937, 938, 939, 940, 941, 942, 943, 944, 945, 946, 947, 948, 949, 950, 951] (by decide +kernel) (by decide +kernel)
set_option maxRecDepth 20000 in
theorem gL_law_X7_init : GoodIn wsL_law (wsX7_init) := ggL_law_X7_init
set_option maxRecDepth 20000 in
theorem ggL_law_X8_init : GoodIn wsL_law wsX8_init := goodIn_r _ [112, 113, 10, 11, 45, 114, 115, 116, 117, 118, 119, 120, 121, 122, 123, 124, 125, 126, 127, 128, 129, 130, 131, 132, 133, 134, 135, 136, 137, 138, 876, 877, 878, 879, 880, 881, 882, 883, 884, 885, 886, 887, 888, 889, 890, 891, 892, 893, 894, 895, 896, 897, 898, 899, 900, 901, 902, 903, 904] (by decide +kernel) (by decide +kernel)
set_option maxRecDepth 20000 in
theorem gL_law_X8_init : GoodIn wsL_law (wsX8_init) := ggL_law_X8_init
set_option maxRecDepth 20000 in
theorem ggL_law_X7_type : GoodIn wsL_law wsX7_type := goodIn_r _ [142, 15, 143, 144, 145, 2, 146, 147, 148, 149, 150, 151, 152, 14, 153, 47, 46, 154, 155, 156, 157, 158, 159, 160, 161, 162, 19, 23, 163, 164, 165, 18, 166, 58, 167, 57, 52, 53, 168, 169, 170, 171, 172, 173, 174, 175, 176, 177, 178, 179, 180, 181, 22, 182, 75, 183, 74, 184, 73, 66, 185, 186, 187, 188, 189, 190, 65, 868, 869, 870, 871, 872, 873, 874, 875, 905, 906, 907, 908, 909, 910, 911, 912, 913, 914, 915, 916, 917, 918, 919, 920, 921, 922, 923, 924, 925, 926] (by decide +kernel) (by decide +kernel)
set_option maxRecDepth 20000 in
theorem gL_law_X7_type : GoodIn wsL_law (wsV RL 13 RX7 yX7_type wsX7_type) := goodIn_app (goodIn_of _ (by decide +kernel)) ggL_law_X7_type
set_option maxRecDepth 20000 in
theorem ggL_law_X8_type : GoodIn wsL_law wsX8_type := goodIn_r _ [194, 114, 115, 195, 196, 5, 197, 876, 877, 878, 879, 880, 881, 882, 883, 884, 885, 886, 887, 888, 889, 890, 891, 892, 893, 894, 895, 896, 897, 898, 899, 900, 901, 902, 903, 904] (by decide +kernel) (by decide +kernel)
set_option maxRecDepth 20000 in
theorem gL_law_X8_type : GoodIn wsL_law (wsV RL 17 RX8 yX8_type wsX8_type) := goodIn_app (goodIn_of _ (by decide +kernel)) ggL_law_X8_type
set_option maxRecDepth 20000 in
theorem ggL_law_X7_wipe : GoodIn wsL_law wsX7_wipe := goodIn_r _ [201, 15, 143, 144, 145, 2, 146, 147, 148, 149, 159, 160, 161, 162, 19, 23, 163, 164, 165, 18, 166, 58, 167, 57, 52, 53, 168, 169, 170, 14, 171, 47, 46, 172, 173, 174, 175, 176, 177, 178, 179, 180, 181, 22, 182, 75, 183, 74, 184, 73, 66, 185, 186, 187, 188, 189, 190, 65, 868, 869, 870, 871, 872, 873, 874, 875, 905, 906, 907, 908, 909, 910, 911, 912, 913, 914, 915, 916, 917, 918, 919, 920, 921, 922, 923, 924, 925, 926] (by decide +kernel) (by decide +kernel)
set_option maxRecDepth 20000 in
theorem gL_law_X7_wipe : GoodIn wsL_law (wsV RL 18 RX7 yX7_wipe wsX7_wipe) := goodIn_app (goodIn_of _ (by decide +kernel)) ggL_law_X7_wipe
set_option maxRecDepth 20000 in
theorem ggL_law_X8_wipe : GoodIn wsL_law wsX8_wipe := goodIn_r _ [205, 114, 195, 196, 5, 197, 876, 877, 878, 879, 880, 881, 882, 883, 884, 885, 886, 887, 888, 889, 890, 891, 892, 893, 894, 895, 896, 897, 898, 899, 900, 901, 902, 903, 904] (by decide +kernel) (by decide +kernel)
set_option maxRecDepth 20000 in
theorem gL_law_X8_wipe : GoodIn wsL_law (wsV RL 22 RX8 yX8_wipe wsX8_wipe) := goodIn_app (goodIn_of _ (by decide +kernel)) ggL_law_X8_wipe
set_option maxRecDepth 20000 in
theorem ggL_law_X7_fault : GoodIn wsL_law wsX7_fault := goodIn_r _ [209, 19, 210, 23, 211, 144, 145, 2, 146, 147, 148, 149, 868, 869, 870, 871, 872, 873, 874, 875, 907, 908, 909, 910, 911, 912, 913, 914, 915, 916, 917, 918, 919, 920, 921, 922, 923, 924, 925, 926] (by decide +kernel) (by decide +kernel)
set_option maxRecDepth 20000 in
theorem gL_law_X7_fault : GoodIn wsL_law (wsV RL 23 RX7 yX7_fault wsX7_fault) := goodIn_app (goodIn_of _ (by decide +kernel)) ggL_law_X7_fault
set_option maxRecDepth 20000 in
theorem ggL_law_X8_fault : GoodIn wsL_law wsX8_fault := goodIn_r _ [215, 195, 196, 5, 197, 216, 217, 218, 219, 220, 221, 222, 223, 224, 114, 116, 117, 225, 226, 227, 228, 115, 229, 230, 231, 232, 233, 118, 876, 877, 878, 879, 880, 881, 882, 883, 884, 885, 886, 887, 888, 889, 890, 891, 892, 893, 894, 895, 896, 897, 898, 899, 900, 901, 902, 903, 904] (by decide +kernel) (by decide +kernel)
set_option maxRecDepth 20000 in
theorem gL_law_X8_fault : GoodIn wsL_law (wsV RL 26 RX8 yX8_fault wsX8_fault) := goodIn_app (goodIn_of _ (by decide +kernel)) ggL_law_X8_fault
set_option maxRecDepth 20000 in
theorem ggL_law_X7_person : GoodIn wsL_law wsX7_person := goodIn_r _ [237, 19, 238, 239, 240, 241, 242, 2, 243, 244, 147, 148, 149, 868, 869, 870, 871, 872, 873, 874, 875, 907, 908, 909, 910, 911, 912, 913, 914, 915] (by decide +kernel) (by decide +kernel)
set_option maxRecDepth 20000 in
theorem gL_law_X7_person : GoodIn wsL_law (wsV RL 27 RX7 yX7_person wsX7_person) := goodIn_app (goodIn_of _ (by decide +kernel)) ggL_law_X7_person
set_option maxRecDepth 20000 in
theorem ggL_law_X8_person : GoodIn wsL_law wsX8_person := goodIn_r _ [248, 116, 117, 249, 250, 251, 5, 252, 224, 253, 254, 255, 256, 216, 217, 218, 219, 220, 221, 222, 223, 114, 225, 226, 227, 228, 115, 195, 196, 197, 229, 230, 231, 232, 233, 118, 876, 877, 878, 879, 880, 881, 882, 883, 884, 885, 886, 887, 888, 889, 890, 891, 892, 893, 894, 895, 896, 897, 898, 899, 900, 901, 902, 903, 904] (by decide +kernel) (by decide +kernel)
set_option maxRecDepth 20000 in
theorem gL_law_X8_person : GoodIn wsL_law (wsV RL 30 RX8 yX8_person wsX8_person) := goodIn_app (goodIn_of _ (by decide +kernel)) ggL_law_X8_person
set_option maxRecDepth 20000 in
theorem ggL_law_X7_sits : GoodIn wsL_law wsX7_sits := goodIn_r _ [260, 23, 261, 262, 263, 2, 264, 265, 147, 148, 149, 240, 241, 242, 243, 19, 244, 266, 267, 268, 22, 269, 65, 868, 869, 870, 871, 872, 873, 874, 875, 916, 917, 918, 919, 920, 921, 922, 923, 924, 925, 926, 907, 908, 909, 910, 911, 912, 913, 914, 915] (by decide +kernel) (by decide +kernel)
set_option maxRecDepth 20000 in
theorem gL_law_X7_sits : GoodIn wsL_law (wsV RL 31 RX7 yX7_sits wsX7_sits) := goodIn_app (goodIn_of _ (by decide +kernel)) ggL_law_X7_sits
set_option maxRecDepth 20000 in
theorem ggL_law_X8_sits : GoodIn wsL_law wsX8_sits := goodIn_r _ [273, 118, 274, 275, 276, 5, 277, 233, 253, 254, 255, 256, 216, 217, 218, 219, 220, 221, 222, 223, 224, 114, 116, 117, 225, 226, 227, 228, 115, 195, 196, 197, 229, 230, 231, 232, 249, 250, 251, 252, 876, 877, 878, 879, 880, 881, 882, 883, 884, 885, 886, 887, 888, 889, 890, 891, 892, 893, 894, 895, 896, 897, 898, 899, 900, 901, 902, 903, 904] (by decide +kernel) (by decide +kernel)
set_option maxRecDepth 20000 in
theorem gL_law_X8_sits : GoodIn wsL_law (wsV RL 34 RX8 yX8_sits wsX8_sits) := goodIn_app (goodIn_of _ (by decide +kernel)) ggL_law_X8_sits
set_option maxRecDepth 20000 in
theorem ggL_law_X7_home : GoodIn wsL_law wsX7_home := goodIn_r _ [281, 19, 282, 147, 148, 2, 149, 868, 869, 870, 871, 872, 873, 874, 875, 907, 908, 909, 910, 911, 912, 913, 914, 915] (by decide +kernel) (by decide +kernel)
set_option maxRecDepth 20000 in
theorem gL_law_X7_home : GoodIn wsL_law (wsV RL 35 RX7 yX7_home wsX7_home) := goodIn_app (goodIn_of _ (by decide +kernel)) ggL_law_X7_home
set_option maxRecDepth 20000 in
theorem ggL_law_X8_home : GoodIn wsL_law wsX8_home := goodIn_r _ [286, 119, 287, 288, 5, 289, 195, 196, 197, 876, 877, 878, 879, 880, 881, 882, 883, 884, 885, 886, 887, 888, 889, 890, 891, 892, 893, 894, 895, 896, 897, 898, 899, 900, 901, 902, 903, 904] (by decide +kernel) (by decide +kernel)
set_option maxRecDepth 20000 in
theorem gL_law_X8_home : GoodIn wsL_law (wsV RL 38 RX8 yX8_home wsX8_home) := goodIn_app (goodIn_of _ (by decide +kernel)) ggL_law_X8_home
set_option maxRecDepth 20000 in
theorem ggL_law_X7_worth : GoodIn wsL_law wsX7_worth := goodIn_r _ [293, 19, 294, 147, 148, 2, 149, 868, 869, 870, 871, 872, 873, 874, 875, 907, 908, 909, 910, 911, 912, 913, 914, 915] (by decide +kernel) (by decide +kernel)
set_option maxRecDepth 20000 in
theorem gL_law_X7_worth : GoodIn wsL_law (wsV RL 39 RX7 yX7_worth wsX7_worth) := goodIn_app (goodIn_of _ (by decide +kernel)) ggL_law_X7_worth
set_option maxRecDepth 20000 in
theorem ggL_law_X8_worth : GoodIn wsL_law wsX8_worth := goodIn_r _ [298, 120, 287, 288, 5, 289, 195, 196, 197, 876, 877, 878, 879, 880, 881, 882, 883, 884, 885, 886, 887, 888, 889, 890, 891, 892, 893, 894, 895, 896, 897, 898, 899, 900, 901, 902, 903, 904] (by decide +kernel) (by decide +kernel)
set_option maxRecDepth 20000 in
theorem gL_law_X8_worth : GoodIn wsL_law (wsV RL 42 RX8 yX8_worth wsX8_worth) := goodIn_app (goodIn_of _ (by decide +kernel)) ggL_law_X8_worth
set_option maxRecDepth 20000 in
theorem ggL_law_X7_read : GoodIn wsL_law wsX7_read := goodIn_r _ [302, 37, 303, 304, 305, 306, 307, 308, 309, 19, 282, 310, 311, 2, 312, 147, 148, 149, 313, 314, 315, 316, 40, 868, 869, 870, 871, 872, 873, 874, 875, 948, 949, 950, 951, 907, 908, 909, 910, 911, 912, 913, 914, 915] (by decide +kernel) (by decide +kernel)
set_option maxRecDepth 20000 in
theorem gL_law_X7_read : GoodIn wsL_law (wsV RL 43 RX7 yX7_read wsX7_read) := goodIn_app (goodIn_of _ (by decide +kernel)) ggL_law_X7_read
set_option maxRecDepth 20000 in
theorem ggL_law_X8_read : GoodIn wsL_law wsX8_read := goodIn_r _ [320, 134, 136, 137, 119, 321, 322, 5, 323, 195, 196, 197, 324, 325, 326, 327, 328, 876, 877, 878, 879, 880, 881, 882, 883, 884, 885, 886, 887, 888, 889, 890, 891, 892, 893, 894, 895, 896, 897, 898, 899, 900, 901, 902, 903, 904] (by decide +kernel) (by decide +kernel)
set_option maxRecDepth 20000 in
theorem gL_law_X8_read : GoodIn wsL_law (wsV RL 46 RX8 yX8_read wsX8_read) := goodIn_app (goodIn_of _ (by decide +kernel)) ggL_law_X8_read
set_option maxRecDepth 20000 in
theorem ggL_law_X7_set : GoodIn wsL_law wsX7_set := goodIn_r _ [332, 19, 333, 334, 147, 148, 2, 149, 868, 869, 870, 871, 872, 873, 874, 875, 907, 908, 909, 910, 911, 912, 913, 914, 915] (by decide +kernel) (by decide +kernel)
set_option maxRecDepth 20000 in
theorem gL_law_X7_set : GoodIn wsL_law (wsV RL 47 RX7 yX7_set wsX7_set) := goodIn_app (goodIn_of _ (by decide +kernel)) ggL_law_X7_set
set_option maxRecDepth 20000 in
theorem ggL_law_X8_set : GoodIn wsL_law wsX8_set := goodIn_r _ [338, 121, 195, 196, 5, 197, 876, 877, 878, 879, 880, 881, 882, 883, 884, 885, 886, 887, 888, 889, 890, 891, 892, 893, 894, 895, 896, 897, 898, 899, 900, 901, 902, 903, 904] (by decide +kernel) (by decide +kernel)
set_option maxRecDepth 20000 in
theorem gL_law_X8_set : GoodIn wsL_law (wsV RL 50 RX8 yX8_set wsX8_set) := goodIn_app (goodIn_of _ (by decide +kernel)) ggL_law_X8_set
set_option maxRecDepth 20000 in
theorem ggL_law_X7_state : GoodIn wsL_law wsX7_state := goodIn_r _ [342, 23, 265, 240, 241, 242, 2, 243, 19, 244, 147, 148, 149, 343, 344, 345, 22, 346, 75, 67, 347, 348, 349, 18, 350, 351, 352, 353, 354, 52, 54, 355, 356, 307, 357, 358, 359, 360, 361, 68, 69, 70, 362, 363, 364, 365, 183, 366, 367, 306, 308, 368, 71, 72, 369, 370, 371, 372, 66, 373, 374, 375, 376, 57, 56, 59, 53, 377, 378, 379, 380, 60, 381, 267, 268, 269, 65, 382, 383, 384, 385, 868, 869, 870, 871, 872, 873, 874, 875, 916, 917, 918, 919, 920, 921, 922, 923, 924, 925, 926, 907, 908, 909, 910, 911, 912, 913, 914, 915] (by decide +kernel) (by decide +kernel)
set_option maxRecDepth 20000 in
theorem gL_law_X7_state : GoodIn wsL_law (wsV RL 51 RX7 yX7_state wsX7_state) := goodIn_app (goodIn_of _ (by decide +kernel)) ggL_law_X7_state
set_option maxRecDepth 20000 in
theorem ggL_law_X8_state : GoodIn wsL_law wsX8_state := goodIn_r _ [389, 249, 250, 251, 5, 252, 224, 253, 254, 255, 256, 216, 217, 218, 219, 220, 221, 222, 223, 114, 116, 117, 225, 226, 227, 228, 115, 195, 196, 197, 229, 230, 231, 232, 233, 118, 390, 391, 392, 393, 394, 395, 396, 397, 122, 126, 127, 128, 398, 399, 400, 401, 402, 124, 125, 123, 403, 404, 405, 406, 119, 407, 408, 409, 410, 411, 412, 413, 414, 121, 415, 416, 417, 418, 876, 877, 878, 879, 880, 881, 882, 883, 884, 885, 886, 887, 888, 889, 890, 891, 892, 893, 894, 895, 896, 897, 898, 899, 900, 901, 902, 903, 904] (by decide +kernel) (by decide +kernel)
set_option maxRecDepth 20000 in
theorem gL_law_X8_state : GoodIn wsL_law (wsV RL 55 RX8 yX8_state wsX8_state) := goodIn_app (goodIn_of _ (by decide +kernel)) ggL_law_X8_state
set_option maxRecDepth 20000 in
theorem ggL_law_X7_all : GoodIn wsL_law wsX7_all := goodIn_r _ [422, 23, 265, 19, 147, 148, 2, 149, 343, 344, 345, 22, 346, 75, 67, 347, 348, 349, 18, 350, 351, 352, 353, 354, 52, 54, 355, 356, 307, 357, 358, 359, 360, 361, 68, 69, 70, 362, 363, 364, 365, 183, 366, 367, 306, 308, 368, 71, 72, 369, 370, 371, 372, 66, 373, 374, 375, 376, 57, 56, 59, 53, 377, 378, 379, 380, 60, 381, 267, 268, 269, 65, 382, 383, 384, 385, 423, 424, 425, 426, 868, 869, 870, 871, 872, 873, 874, 875, 916, 917, 918, 919, 920, 921, 922, 923, 924, 925, 926, 907, 908, 909, 910, 911, 912, 913, 914, 915] (by decide +kernel) (by decide +kernel)
set_option maxRecDepth 20000 in
theorem gL_law_X7_all : GoodIn wsL_law (wsV RL 56 RX7 yX7_all wsX7_all) := goodIn_app (goodIn_of _ (by decide +kernel)) ggL_law_X7_all
set_option maxRecDepth 20000 in
theorem ggL_law_X8_all : GoodIn wsL_law wsX8_all := goodIn_r _ [430, 390, 391, 392, 5, 393, 233, 253, 254, 255, 256, 216, 217, 218, 219, 220, 221, 222, 223, 224, 114, 116, 117, 225, 226, 227, 228, 115, 195, 196, 197, 229, 230, 231, 232, 118, 431, 432, 433, 434, 394, 395, 396, 397, 122, 126, 127, 128, 398, 399, 400, 401, 402, 124, 125, 123, 403, 404, 405, 406, 119, 407, 408, 409, 410, 411, 412, 413, 414, 121, 415, 416, 417, 418, 876, 877, 878, 879, 880, 881, 882, 883, 884, 885, 886, 887, 888, 889, 890, 891, 892, 893, 894, 895, 896, 897, 898, 899, 900, 901, 902, 903, 904] (by decide +kernel) (by decide +kernel)
set_option maxRecDepth 20000 in
theorem gL_law_X8_all : GoodIn wsL_law (wsV RL 59 RX8 yX8_all wsX8_all) := goodIn_app (goodIn_of _ (by decide +kernel)) ggL_law_X8_all
set_option maxRecDepth 20000 in
theorem ggL_law_X7_payer : GoodIn wsL_law wsX7_payer := goodIn_r _ [438, 23, 19, 439, 261, 262, 263, 2, 264, 265, 147, 148, 149, 343, 344, 345, 22, 346, 75, 67, 347, 348, 349, 18, 350, 351, 352, 353, 354, 52, 54, 355, 356, 307, 357, 358, 359, 360, 361, 68, 69, 70, 362, 363, 364, 365, 183, 366, 367, 306, 308, 368, 71, 72, 369, 370, 371, 372, 66, 373, 374, 375, 376, 57, 56, 59, 53, 377, 378, 379, 380, 60, 381, 267, 268, 269, 65, 440, 441, 868, 869, 870, 871, 872, 873, 874, 875, 916, 917, 918, 919, 920, 921, 922, 923, 924, 925, 926, 907, 908, 909, 910, 911, 912, 913, 914, 915] (by decide +kernel) (by decide +kernel)
set_option maxRecDepth 20000 in
theorem gL_law_X7_payer : GoodIn wsL_law (wsV RL 60 RX7 yX7_payer wsX7_payer) := goodIn_app (goodIn_of _ (by decide +kernel)) ggL_law_X7_payer
set_option maxRecDepth 20000 in
theorem ggL_law_X8_payer : GoodIn wsL_law wsX8_payer := goodIn_r _ [445, 274, 275, 276, 5, 277, 233, 253, 254, 255, 256, 216, 217, 218, 219, 220, 221, 222, 223, 224, 114, 116, 117, 225, 226, 227, 228, 115, 195, 196, 197, 229, 230, 231, 232, 118, 287, 288, 289, 446, 447, 448, 449, 124, 121, 123, 398, 399, 400, 401, 402, 126, 127, 128, 122, 125, 403, 404, 405, 406, 119, 407, 408, 409, 410, 411, 412, 413, 414, 415, 416, 417, 418, 876, 877, 878, 879, 880, 881, 882, 883, 884, 885, 886, 887, 888, 889, 890, 891, 892, 893, 894, 895, 896, 897, 898, 899, 900, 901, 902, 903, 904] (by decide +kernel) (by decide +kernel)
set_option maxRecDepth 20000 in
theorem gL_law_X8_payer : GoodIn wsL_law (wsV RL 63 RX8 yX8_payer wsX8_payer) := goodIn_app (goodIn_of _ (by decide +kernel)) ggL_law_X8_payer
set_option maxRecDepth 20000 in
theorem ggL_law_X7_beggars : GoodIn wsL_law wsX7_beggars := goodIn_r _ [453, 23, 265, 19, 244, 454, 455, 343, 344, 345, 22, 346, 75, 67, 347, 348, 349, 18, 350, 351, 352, 353, 354, 52, 54, 355, 356, 307, 357, 358, 359, 360, 361, 68, 69, 70, 362, 363, 364, 365, 183, 366, 367, 306, 308, 368, 71, 72, 369, 370, 371, 372, 66, 373, 374, 375, 376, 57, 56, 59, 53, 377, 378, 379, 380, 60, 381, 267, 268, 269, 65, 868, 869, 870, 871, 872, 873, 874, 875, 916, 917, 918, 919, 920, 921, 922, 923, 924, 925, 926, 907, 908, 909, 910, 911, 912, 913, 914, 915] (by decide +kernel) (by decide +kernel)
set_option maxRecDepth 20000 in
theorem gL_law_X7_beggars : GoodIn wsL_law (wsV RL 64 RX7 yX7_beggars wsX7_beggars) := goodIn_app (goodIn_of _ (by decide +kernel)) ggL_law_X7_beggars
set_option maxRecDepth 20000 in
theorem ggL_law_X8_beggars : GoodIn wsL_law wsX8_beggars := goodIn_r _ [459, 460, 461, 462, 5, 463, 233, 224, 127, 126, 253, 254, 255, 256, 216, 217, 218, 219, 220, 221, 222, 223, 114, 116, 117, 225, 226, 227, 228, 115, 195, 196, 197, 229, 230, 231, 232, 118, 398, 399, 400, 401, 402, 128, 124, 122, 125, 123, 403, 404, 405, 406, 119, 407, 408, 409, 410, 411, 412, 413, 414, 121, 415, 416, 417, 418, 876, 877, 878, 879, 880, 881, 882, 883, 884, 885, 886, 887, 888, 889, 890, 891, 892, 893, 894, 895, 896, 897, 898, 899, 900, 901, 902, 903, 904] (by decide +kernel) (by decide +kernel)
set_option maxRecDepth 20000 in
theorem gL_law_X8_beggars : GoodIn wsL_law (wsV RL 68 RX8 yX8_beggars wsX8_beggars) := goodIn_app (goodIn_of _ (by decide +kernel)) ggL_law_X8_beggars
set_option maxRecDepth 20000 in
theorem ggL_law_X7_best : GoodIn wsL_law wsX7_best := goodIn_r _ [467, 468, 27, 261, 262, 263, 2, 264, 23, 265, 147, 148, 149, 240, 241, 242, 243, 19, 244, 469, 470, 471, 26, 472, 473, 474, 475, 83, 80, 84, 476, 477, 478, 348, 349, 18, 350, 351, 352, 353, 354, 52, 54, 355, 356, 307, 357, 479, 370, 371, 22, 372, 66, 480, 481, 482, 483, 56, 484, 306, 308, 485, 374, 375, 376, 57, 59, 53, 377, 378, 379, 380, 60, 486, 487, 488, 489, 868, 869, 870, 871, 872, 873, 874, 875, 916, 917, 918, 919, 920, 921, 922, 923, 924, 925, 926, 907, 908, 909, 910, 911, 912, 913, 914, 915, 927, 928, 929, 930, 931, 932, 933, 934, 935, 936] (by decide +kernel) (by decide +kernel)
set_option maxRecDepth 20000 in
theorem gL_law_X7_best : GoodIn wsL_law (wsV RL 69 RX7 yX7_best wsX7_best) := goodIn_app (goodIn_of _ (by decide +kernel)) ggL_law_X7_best
set_option maxRecDepth 20000 in
theorem ggL_law_X8_best : GoodIn wsL_law wsX8_best := goodIn_r _ [493, 494, 274, 275, 276, 5, 277, 233, 253, 254, 255, 256, 216, 217, 218, 219, 220, 221, 222, 223, 224, 114, 116, 117, 225, 226, 227, 228, 115, 195, 196, 197, 229, 230, 231, 232, 118, 249, 250, 251, 252, 495, 496, 497, 498, 123, 122, 120, 124, 403, 404, 405, 406, 119, 407, 408, 409, 410, 411, 412, 413, 414, 125, 121, 415, 416, 417, 418, 876, 877, 878, 879, 880, 881, 882, 883, 884, 885, 886, 887, 888, 889, 890, 891, 892, 893, 894, 895, 896, 897, 898, 899, 900, 901, 902, 903, 904] (by decide +kernel) (by decide +kernel)
set_option maxRecDepth 20000 in
theorem gL_law_X8_best : GoodIn wsL_law (wsV RL 72 RX8 yX8_best wsX8_best) := goodIn_app (goodIn_of _ (by decide +kernel)) ggL_law_X8_best
set_option maxRecDepth 20000 in
theorem ggL_law_X7_rest : GoodIn wsL_law wsX7_rest := goodIn_r _ [502, 27, 503, 240, 241, 242, 2, 243, 19, 244, 147, 148, 149, 504, 505, 506, 26, 507, 508, 509, 83, 510, 511, 512, 513, 514, 80, 81, 477, 515, 516, 306, 307, 308, 478, 348, 349, 18, 350, 351, 352, 353, 354, 52, 54, 355, 356, 357, 517, 374, 375, 376, 57, 56, 59, 53, 377, 378, 379, 380, 60, 518, 519, 520, 521, 82, 522, 523, 524, 525, 526, 527, 528, 529, 530, 531, 532, 533, 868, 869, 870, 871, 872, 873, 874, 875, 927, 928, 929, 930, 931, 932, 933, 934, 935, 936, 907, 908, 909, 910, 911, 912, 913, 914, 915] (by decide +kernel) (by decide +kernel)
set_option maxRecDepth 20000 in
theorem gL_law_X7_rest : GoodIn wsL_law (wsV RL 73 RX7 yX7_rest wsX7_rest) := goodIn_app (goodIn_of _ (by decide +kernel)) ggL_law_X7_rest
