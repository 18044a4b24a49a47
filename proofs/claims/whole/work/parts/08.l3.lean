set_option maxRecDepth 20000 in
theorem ggL_law_X8_rest : GoodIn wsL_law wsX8_rest := goodIn_r _ [537, 249, 250, 251, 5, 252, 224, 253, 254, 255, 256, 216, 217, 218, 219, 220, 221, 222, 223, 114, 116, 117, 225, 226, 227, 228, 115, 195, 196, 197, 229, 230, 231, 232, 233, 118, 538, 539, 540, 541, 123, 129, 120, 124, 403, 404, 405, 406, 122, 119, 411, 412, 413, 414, 125, 121, 415, 416, 417, 418, 876, 877, 878, 879, 880, 881, 882, 883, 884, 885, 886, 887, 888, 889, 890, 891, 892, 893, 894, 895, 896, 897, 898, 899, 900, 901, 902, 903, 904] (by decide +kernel) (by decide +kernel)
set_option maxRecDepth 20000 in
theorem gL_law_X8_rest : GoodIn wsL_law (wsV RL 76 RX8 yX8_rest wsX8_rest) := goodIn_app (goodIn_of _ (by decide +kernel)) ggL_law_X8_rest
set_option maxRecDepth 20000 in
theorem ggL_law_X7_down : GoodIn wsL_law wsX7_down := goodIn_r _ [545, 31, 240, 241, 242, 2, 243, 19, 244, 147, 148, 149, 546, 547, 548, 30, 549, 91, 550, 551, 552, 89, 90, 553, 348, 349, 18, 350, 351, 352, 353, 354, 52, 54, 355, 356, 307, 357, 554, 555, 556, 557, 558, 559, 560, 561, 562, 563, 564, 565, 566, 567, 568, 569, 570, 571, 306, 308, 572, 374, 375, 376, 57, 56, 59, 53, 377, 378, 379, 380, 60, 573, 574, 575, 576, 577, 578, 579, 580, 581, 582, 583, 584, 868, 869, 870, 871, 872, 873, 874, 875, 907, 908, 909, 910, 911, 912, 913, 914, 915, 937, 938, 939, 940] (by decide +kernel) (by decide +kernel)
set_option maxRecDepth 20000 in
theorem gL_law_X7_down : GoodIn wsL_law (wsV RL 77 RX7 yX7_down wsX7_down) := goodIn_app (goodIn_of _ (by decide +kernel)) ggL_law_X7_down
set_option maxRecDepth 20000 in
theorem ggL_law_X8_down : GoodIn wsL_law wsX8_down := goodIn_r _ [588, 249, 250, 251, 5, 252, 224, 253, 254, 255, 256, 216, 217, 218, 219, 220, 221, 222, 223, 114, 116, 117, 225, 226, 227, 228, 115, 195, 196, 197, 229, 230, 231, 232, 233, 118, 589, 590, 591, 592, 403, 404, 405, 406, 122, 119, 593, 594, 595, 596, 597, 598, 599, 600, 123, 601, 602, 603, 604, 124, 411, 412, 413, 414, 125, 121, 415, 416, 417, 418, 876, 877, 878, 879, 880, 881, 882, 883, 884, 885, 886, 887, 888, 889, 890, 891, 892, 893, 894, 895, 896, 897, 898, 899, 900, 901, 902, 903, 904] (by decide +kernel) (by decide +kernel)
set_option maxRecDepth 20000 in
theorem gL_law_X8_down : GoodIn wsL_law (wsV RL 80 RX8 yX8_down wsX8_down) := goodIn_app (goodIn_of _ (by decide +kernel)) ggL_law_X8_down
set_option maxRecDepth 20000 in
theorem ggL_law_X7_alike : GoodIn wsL_law wsX7_alike := goodIn_r _ [608, 31, 546, 547, 548, 30, 549, 91, 550, 551, 552, 89, 90, 553, 348, 349, 18, 350, 351, 352, 353, 354, 52, 54, 355, 356, 307, 357, 554, 555, 556, 557, 558, 559, 560, 561, 562, 563, 564, 565, 566, 567, 568, 569, 570, 571, 306, 308, 572, 374, 375, 376, 57, 56, 59, 53, 377, 378, 379, 380, 60, 609, 610, 611, 612, 577, 578, 579, 580, 581, 582, 583, 584, 868, 869, 870, 871, 872, 873, 874, 875, 937, 938, 939, 940, 907, 908, 909, 910, 911, 912, 913, 914, 915] (by decide +kernel) (by decide +kernel)
set_option maxRecDepth 20000 in
theorem gL_law_X7_alike : GoodIn wsL_law (wsV RL 81 RX7 yX7_alike wsX7_alike) := goodIn_app (goodIn_of _ (by decide +kernel)) ggL_law_X7_alike
set_option maxRecDepth 20000 in
theorem ggL_law_X8_alike : GoodIn wsL_law wsX8_alike := goodIn_r _ [616, 589, 590, 591, 5, 592, 224, 253, 254, 255, 256, 216, 217, 218, 219, 220, 221, 222, 223, 114, 116, 117, 225, 226, 227, 228, 115, 195, 196, 197, 229, 230, 231, 232, 233, 118, 403, 404, 405, 406, 122, 119, 593, 594, 595, 596, 597, 598, 599, 600, 123, 601, 602, 603, 604, 124, 411, 412, 413, 414, 125, 121, 415, 416, 417, 418, 876, 877, 878, 879, 880, 881, 882, 883, 884, 885, 886, 887, 888, 889, 890, 891, 892, 893, 894, 895, 896, 897, 898, 899, 900, 901, 902, 903, 904] (by decide +kernel) (by decide +kernel)
set_option maxRecDepth 20000 in
theorem gL_law_X8_alike : GoodIn wsL_law (wsV RL 84 RX8 yX8_alike wsX8_alike) := goodIn_app (goodIn_of _ (by decide +kernel)) ggL_law_X8_alike
set_option maxRecDepth 20000 in
theorem ggL_law_X7_dark : GoodIn wsL_law wsX7_dark := goodIn_r _ [620, 23, 35, 261, 262, 263, 2, 264, 265, 147, 148, 149, 240, 241, 242, 243, 19, 244, 266, 267, 268, 22, 269, 65, 440, 370, 371, 372, 66, 621, 622, 623, 34, 624, 101, 96, 625, 348, 349, 18, 350, 351, 352, 353, 354, 52, 54, 355, 356, 307, 357, 626, 481, 482, 483, 56, 484, 306, 308, 485, 374, 375, 376, 57, 59, 53, 377, 378, 379, 380, 60, 868, 869, 870, 871, 872, 873, 874, 875, 916, 917, 918, 919, 920, 921, 922, 923, 924, 925, 926, 907, 908, 909, 910, 911, 912, 913, 914, 915, 941, 942, 943, 944, 945, 946, 947] (by decide +kernel) (by decide +kernel)
set_option maxRecDepth 20000 in
theorem gL_law_X7_dark : GoodIn wsL_law (wsV RL 85 RX7 yX7_dark wsX7_dark) := goodIn_app (goodIn_of _ (by decide +kernel)) ggL_law_X7_dark
set_option maxRecDepth 20000 in
theorem ggL_law_X8_dark : GoodIn wsL_law wsX8_dark := goodIn_r _ [630, 274, 275, 276, 5, 277, 233, 253, 254, 255, 256, 216, 217, 218, 219, 220, 221, 222, 223, 224, 114, 116, 117, 225, 226, 227, 228, 115, 195, 196, 197, 229, 230, 231, 232, 118, 249, 250, 251, 252, 631, 632, 633, 634, 123, 124, 122, 403, 404, 405, 406, 119, 407, 408, 409, 410, 411, 412, 413, 414, 125, 121, 415, 416, 417, 418, 876, 877, 878, 879, 880, 881, 882, 883, 884, 885, 886, 887, 888, 889, 890, 891, 892, 893, 894, 895, 896, 897, 898, 899, 900, 901, 902, 903, 904] (by decide +kernel) (by decide +kernel)
set_option maxRecDepth 20000 in
theorem gL_law_X8_dark : GoodIn wsL_law (wsV RL 88 RX8 yX8_dark wsX8_dark) := goodIn_app (goodIn_of _ (by decide +kernel)) ggL_law_X8_dark
set_option maxRecDepth 20000 in
theorem ggL_law_X7_seen : GoodIn wsL_law wsX7_seen := goodIn_r _ [638, 35, 639, 147, 148, 2, 149, 640, 641, 642, 34, 643, 100, 97, 98, 99, 868, 869, 870, 871, 872, 873, 874, 875, 941, 942, 943, 944, 945, 946, 947] (by decide +kernel) (by decide +kernel)
set_option maxRecDepth 20000 in
theorem gL_law_X7_seen : GoodIn wsL_law (wsV RL 89 RX7 yX7_seen wsX7_seen) := goodIn_app (goodIn_of _ (by decide +kernel)) ggL_law_X7_seen
set_option maxRecDepth 20000 in
theorem ggL_law_X8_seen : GoodIn wsL_law wsX8_seen := goodIn_r _ [647, 648, 130, 131, 132, 195, 196, 5, 197, 287, 288, 289, 876, 877, 878, 879, 880, 881, 882, 883, 884, 885, 886, 887, 888, 889, 890, 891, 892, 893, 894, 895, 896, 897, 898, 899, 900, 901, 902, 903, 904] (by decide +kernel) (by decide +kernel)
set_option maxRecDepth 20000 in
theorem gL_law_X8_seen : GoodIn wsL_law (wsV RL 92 RX8 yX8_seen wsX8_seen) := goodIn_app (goodIn_of _ (by decide +kernel)) ggL_law_X8_seen
set_option maxRecDepth 20000 in
theorem ggL_law_X7_forget : GoodIn wsL_law wsX7_forget := goodIn_r _ [652, 35, 639, 868, 869, 870, 871, 872, 873, 874, 875, 941, 942, 943, 944, 945, 946, 947] (by decide +kernel) (by decide +kernel)
set_option maxRecDepth 20000 in
theorem gL_law_X7_forget : GoodIn wsL_law (wsV RL 93 RX7 yX7_forget wsX7_forget) := goodIn_app (goodIn_of _ (by decide +kernel)) ggL_law_X7_forget
set_option maxRecDepth 20000 in
theorem ggL_law_X8_forget : GoodIn wsL_law wsX8_forget := goodIn_r _ [656, 648, 876, 877, 878, 879, 880, 881, 882, 883, 884, 885, 886, 887, 888, 889, 890, 891, 892, 893, 894, 895, 896, 897, 898, 899, 900, 901, 902, 903, 904] (by decide +kernel) (by decide +kernel)
set_option maxRecDepth 20000 in
theorem gL_law_X8_forget : GoodIn wsL_law (wsV RL 96 RX8 yX8_forget wsX8_forget) := goodIn_app (goodIn_of _ (by decide +kernel)) ggL_law_X8_forget
set_option maxRecDepth 20000 in
theorem ggL_law_X7_unlike : GoodIn wsL_law wsX7_unlike := goodIn_r _ [660, 23, 265, 35, 343, 344, 345, 22, 346, 75, 67, 347, 348, 349, 18, 350, 351, 352, 353, 354, 52, 54, 355, 356, 307, 357, 358, 359, 360, 361, 68, 69, 70, 362, 363, 364, 365, 183, 366, 367, 306, 308, 368, 71, 72, 369, 370, 371, 372, 66, 373, 374, 375, 376, 57, 56, 59, 53, 377, 378, 379, 380, 60, 381, 267, 268, 269, 65, 661, 662, 663, 34, 664, 100, 97, 102, 665, 98, 101, 666, 99, 667, 668, 669, 670, 671, 868, 869, 870, 871, 872, 873, 874, 875, 916, 917, 918, 919, 920, 921, 922, 923, 924, 925, 926, 907, 908, 909, 910, 911, 912, 913, 914, 915, 941, 942, 943, 944, 945, 946, 947] (by decide +kernel) (by decide +kernel)
set_option maxRecDepth 20000 in
theorem gL_law_X7_unlike : GoodIn wsL_law (wsV RL 97 RX7 yX7_unlike wsX7_unlike) := goodIn_app (goodIn_of _ (by decide +kernel)) ggL_law_X7_unlike
set_option maxRecDepth 20000 in
theorem ggL_law_X8_unlike : GoodIn wsL_law wsX8_unlike := goodIn_r _ [675, 676, 677, 678, 5, 679, 648, 253, 254, 255, 256, 216, 217, 218, 219, 220, 221, 222, 223, 224, 114, 116, 117, 225, 226, 227, 228, 115, 195, 196, 197, 229, 230, 231, 232, 233, 118, 680, 681, 682, 683, 130, 131, 124, 132, 398, 399, 400, 401, 402, 126, 127, 128, 122, 125, 123, 403, 404, 405, 406, 119, 407, 408, 409, 410, 411, 412, 413, 414, 121, 415, 416, 417, 418, 876, 877, 878, 879, 880, 881, 882, 883, 884, 885, 886, 887, 888, 889, 890, 891, 892, 893, 894, 895, 896, 897, 898, 899, 900, 901, 902, 903, 904] (by decide +kernel) (by decide +kernel)
set_option maxRecDepth 20000 in
theorem gL_law_X8_unlike : GoodIn wsL_law (wsV RL 100 RX8 yX8_unlike wsX8_unlike) := goodIn_app (goodIn_of _ (by decide +kernel)) ggL_law_X8_unlike
set_option maxRecDepth 20000 in
theorem ggL_law_X7_hid : GoodIn wsL_law wsX7_hid := goodIn_r _ [687, 35, 240, 241, 242, 2, 243, 19, 244, 147, 148, 149, 688, 689, 690, 34, 691, 101, 692, 102, 693, 665, 625, 348, 349, 18, 350, 351, 352, 353, 354, 52, 54, 355, 356, 307, 357, 694, 359, 360, 22, 361, 68, 69, 70, 362, 363, 364, 365, 75, 67, 183, 366, 367, 306, 308, 368, 71, 72, 369, 370, 371, 372, 66, 373, 374, 375, 376, 57, 56, 59, 53, 377, 378, 379, 380, 60, 381, 267, 268, 269, 65, 695, 662, 663, 664, 100, 97, 98, 666, 99, 667, 668, 669, 670, 671, 868, 869, 870, 871, 872, 873, 874, 875, 907, 908, 909, 910, 911, 912, 913, 914, 915, 941, 942, 943, 944, 945, 946, 947, 916, 917, 918, 919, 920, 921, 922, 923, 924, 925, 926] (by decide +kernel) (by decide +kernel)
set_option maxRecDepth 20000 in
theorem gL_law_X7_hid : GoodIn wsL_law (wsV RL 101 RX7 yX7_hid wsX7_hid) := goodIn_app (goodIn_of _ (by decide +kernel)) ggL_law_X7_hid
set_option maxRecDepth 20000 in
theorem ggL_law_X8_hid : GoodIn wsL_law wsX8_hid := goodIn_r _ [699, 249, 250, 251, 5, 252, 224, 253, 254, 255, 256, 216, 217, 218, 219, 220, 221, 222, 223, 114, 116, 117, 225, 226, 227, 228, 115, 195, 196, 197, 229, 230, 231, 232, 233, 118, 700, 701, 702, 703, 119, 676, 677, 678, 679, 648, 680, 681, 682, 683, 130, 131, 124, 132, 398, 399, 400, 401, 402, 126, 127, 128, 122, 125, 123, 403, 404, 405, 406, 407, 408, 409, 410, 411, 412, 413, 414, 121, 415, 416, 417, 418, 876, 877, 878, 879, 880, 881, 882, 883, 884, 885, 886, 887, 888, 889, 890, 891, 892, 893, 894, 895, 896, 897, 898, 899, 900, 901, 902, 903, 904] (by decide +kernel) (by decide +kernel)
set_option maxRecDepth 20000 in
theorem gL_law_X8_hid : GoodIn wsL_law (wsV RL 104 RX8 yX8_hid wsX8_hid) := goodIn_app (goodIn_of _ (by decide +kernel)) ggL_law_X8_hid
set_option maxRecDepth 20000 in
theorem ggL_law_X7_luck : GoodIn wsL_law wsX7_luck := goodIn_r _ [707, 708, 305, 306, 307, 308, 147, 148, 2, 149, 709, 710, 711, 712, 713, 714] (by decide +kernel) (by decide +kernel)
set_option maxRecDepth 20000 in
theorem gL_law_X7_luck : GoodIn wsL_law (wsV RL 105 RX7 yX7_luck wsX7_luck) := goodIn_app (goodIn_of _ (by decide +kernel)) ggL_law_X7_luck
set_option maxRecDepth 20000 in
theorem ggL_law_X8_luck : GoodIn wsL_law wsX8_luck := goodIn_r _ [718, 195, 196, 5, 197, 719, 720, 721, 722, 723, 724, 725, 726, 727, 728] (by decide +kernel) (by decide +kernel)
set_option maxRecDepth 20000 in
theorem gL_law_X8_luck : GoodIn wsL_law (wsV RL 109 RX8 yX8_luck wsX8_luck) := goodIn_app (goodIn_of _ (by decide +kernel)) ggL_law_X8_luck
set_option maxRecDepth 20000 in
theorem ggL_law_X7_sheet : GoodIn wsL_law wsX7_sheet := goodIn_r _ [732, 37, 310, 311, 2, 312, 147, 148, 149, 733, 734, 735, 313, 314, 315, 316, 40, 736, 737, 738, 39, 739, 109, 107, 108, 106, 868, 869, 870, 871, 872, 873, 874, 875, 948, 949, 950, 951] (by decide +kernel) (by decide +kernel)
set_option maxRecDepth 20000 in
theorem gL_law_X7_sheet : GoodIn wsL_law (wsV RL 110 RX7 yX7_sheet wsX7_sheet) := goodIn_app (goodIn_of _ (by decide +kernel)) ggL_law_X7_sheet
set_option maxRecDepth 20000 in
theorem ggL_law_X8_sheet : GoodIn wsL_law wsX8_sheet := goodIn_r _ [743, 134, 135, 136, 137, 321, 322, 5, 323, 195, 196, 197, 324, 325, 326, 327, 328, 876, 877, 878, 879, 880, 881, 882, 883, 884, 885, 886, 887, 888, 889, 890, 891, 892, 893, 894, 895, 896, 897, 898, 899, 900, 901, 902, 903, 904] (by decide +kernel) (by decide +kernel)
set_option maxRecDepth 20000 in
theorem gL_law_X8_sheet : GoodIn wsL_law (wsV RL 113 RX8 yX8_sheet wsX8_sheet) := goodIn_app (goodIn_of _ (by decide +kernel)) ggL_law_X8_sheet
set_option maxRecDepth 20000 in
theorem ggL_law_X7_lose : GoodIn wsL_law wsX7_lose := goodIn_r _ [747, 37, 303, 304, 310, 311, 2, 312, 147, 148, 149, 313, 314, 315, 316, 40, 868, 869, 870, 871, 872, 873, 874, 875, 948, 949, 950, 951] (by decide +kernel) (by decide +kernel)
set_option maxRecDepth 20000 in
theorem gL_law_X7_lose : GoodIn wsL_law (wsV RL 114 RX7 yX7_lose wsX7_lose) := goodIn_app (goodIn_of _ (by decide +kernel)) ggL_law_X7_lose
set_option maxRecDepth 20000 in
theorem ggL_law_X8_lose : GoodIn wsL_law wsX8_lose := goodIn_r _ [751, 134, 136, 321, 322, 5, 323, 195, 196, 197, 324, 325, 326, 327, 328, 876, 877, 878, 879, 880, 881, 882, 883, 884, 885, 886, 887, 888, 889, 890, 891, 892, 893, 894, 895, 896, 897, 898, 899, 900, 901, 902, 903, 904] (by decide +kernel) (by decide +kernel)
set_option maxRecDepth 20000 in
theorem gL_law_X8_lose : GoodIn wsL_law (wsV RL 117 RX8 yX8_lose wsX8_lose) := goodIn_app (goodIn_of _ (by decide +kernel)) ggL_law_X8_lose
set_option maxRecDepth 20000 in
theorem ggL_law_X7_put : GoodIn wsL_law wsX7_put := goodIn_r _ [755, 37, 310, 311, 2, 312, 147, 148, 149, 733, 734, 735, 756, 757, 758, 39, 759, 109, 107, 108, 313, 314, 315, 316, 40, 760, 761, 762, 763, 106, 868, 869, 870, 871, 872, 873, 874, 875, 948, 949, 950, 951] (by decide +kernel) (by decide +kernel)
set_option maxRecDepth 20000 in
theorem gL_law_X7_put : GoodIn wsL_law (wsV RL 118 RX7 yX7_put wsX7_put) := goodIn_app (goodIn_of _ (by decide +kernel)) ggL_law_X7_put
set_option maxRecDepth 20000 in
theorem ggL_law_X8_put : GoodIn wsL_law wsX8_put := goodIn_r _ [767, 321, 322, 5, 323, 195, 196, 197, 768, 769, 770, 771, 134, 135, 136, 324, 325, 326, 327, 328, 772, 773, 774, 775, 137, 876, 877, 878, 879, 880, 881, 882, 883, 884, 885, 886, 887, 888, 889, 890, 891, 892, 893, 894, 895, 896, 897, 898, 899, 900, 901, 902, 903, 904] (by decide +kernel) (by decide +kernel)
set_option maxRecDepth 20000 in
theorem gL_law_X8_put : GoodIn wsL_law (wsV RL 122 RX8 yX8_put wsX8_put) := goodIn_app (goodIn_of _ (by decide +kernel)) ggL_law_X8_put
set_option maxRecDepth 20000 in
theorem ggL_law_X7_get : GoodIn wsL_law wsX7_get := goodIn_r _ [779, 780, 37, 309, 310, 311, 2, 312, 147, 148, 149, 733, 734, 735, 756, 757, 758, 39, 759, 109, 107, 108, 313, 314, 315, 316, 40, 868, 869, 870, 871, 872, 873, 874, 875, 948, 949, 950, 951] (by decide +kernel) (by decide +kernel)
set_option maxRecDepth 20000 in
theorem gL_law_X7_get : GoodIn wsL_law (wsV RL 123 RX7 yX7_get wsX7_get) := goodIn_app (goodIn_of _ (by decide +kernel)) ggL_law_X7_get
set_option maxRecDepth 20000 in
theorem ggL_law_X8_get : GoodIn wsL_law wsX8_get := goodIn_r _ [784, 785, 328, 137, 321, 322, 5, 323, 195, 196, 197, 768, 769, 770, 771, 134, 135, 136, 876, 877, 878, 879, 880, 881, 882, 883, 884, 885, 886, 887, 888, 889, 890, 891, 892, 893, 894, 895, 896, 897, 898, 899, 900, 901, 902, 903, 904] (by decide +kernel) (by decide +kernel)
set_option maxRecDepth 20000 in
theorem gL_law_X8_get : GoodIn wsL_law (wsV RL 126 RX8 yX8_get wsX8_get) := goodIn_app (goodIn_of _ (by decide +kernel)) ggL_law_X8_get
set_option maxRecDepth 20000 in
theorem ggL_law_X7_copy : GoodIn wsL_law wsX7_copy := goodIn_r _ [789, 37, 303, 790, 309, 791, 792, 793, 794, 310, 311, 2, 312, 147, 148, 149, 313, 314, 315, 316, 40, 795, 796, 797, 39, 798, 108, 868, 869, 870, 871, 872, 873, 874, 875, 948, 949, 950, 951] (by decide +kernel) (by decide +kernel)
set_option maxRecDepth 20000 in
theorem gL_law_X7_copy : GoodIn wsL_law (wsV RL 127 RX7 yX7_copy wsX7_copy) := goodIn_app (goodIn_of _ (by decide +kernel)) ggL_law_X7_copy
set_option maxRecDepth 20000 in
theorem ggL_law_X8_copy : GoodIn wsL_law wsX8_copy := goodIn_r _ [802, 134, 135, 136, 138, 137, 321, 322, 5, 323, 195, 196, 197, 324, 325, 326, 327, 328, 876, 877, 878, 879, 880, 881, 882, 883, 884, 885, 886, 887, 888, 889, 890, 891, 892, 893, 894, 895, 896, 897, 898, 899, 900, 901, 902, 903, 904] (by decide +kernel) (by decide +kernel)
set_option maxRecDepth 20000 in
theorem gL_law_X8_copy : GoodIn wsL_law (wsV RL 131 RX8 yX8_copy wsX8_copy) := goodIn_app (goodIn_of _ (by decide +kernel)) ggL_law_X8_copy
set_option maxRecDepth 20000 in
theorem ggL_law_X7_write : GoodIn wsL_law wsX7_write := goodIn_r _ [806, 23, 265, 37, 303, 304, 19, 244, 305, 306, 307, 308, 807, 147, 148, 2, 149, 310, 311, 312, 313, 314, 315, 316, 40, 343, 344, 345, 22, 346, 75, 67, 347, 348, 349, 18, 350, 351, 352, 353, 354, 52, 54, 355, 356, 357, 358, 359, 360, 361, 68, 69, 70, 362, 363, 364, 365, 183, 366, 367, 368, 71, 72, 369, 370, 371, 372, 66, 373, 374, 375, 376, 57, 56, 59, 53, 377, 378, 379, 380, 60, 381, 267, 268, 269, 65, 760, 761, 762, 39, 763, 106, 107, 868, 869, 870, 871, 872, 873, 874, 875, 916, 917, 918, 919, 920, 921, 922, 923, 924, 925, 926, 948, 949, 950, 951, 907, 908, 909, 910, 911, 912, 913, 914, 915] (by decide +kernel) (by decide +kernel)
set_option maxRecDepth 20000 in
theorem gL_law_X7_write : GoodIn wsL_law (wsV RL 132 RX7 yX7_write wsX7_write) := goodIn_app (goodIn_of _ (by decide +kernel)) ggL_law_X7_write
set_option maxRecDepth 20000 in
theorem ggL_law_X8_write : GoodIn wsL_law wsX8_write := goodIn_r _ [811, 134, 136, 224, 122, 390, 391, 392, 5, 393, 233, 253, 254, 255, 256, 216, 217, 218, 219, 220, 221, 222, 223, 114, 116, 117, 225, 226, 227, 228, 115, 195, 196, 197, 229, 230, 231, 232, 118, 321, 322, 323, 324, 325, 326, 327, 328, 398, 399, 400, 401, 402, 126, 127, 128, 124, 125, 123, 403, 404, 405, 406, 119, 407, 408, 409, 410, 411, 412, 413, 414, 121, 415, 416, 417, 418, 772, 773, 774, 775, 137, 135, 876, 877, 878, 879, 880, 881, 882, 883, 884, 885, 886, 887, 888, 889, 890, 891, 892, 893, 894, 895, 896, 897, 898, 899, 900, 901, 902, 903, 904] (by decide +kernel) (by decide +kernel)
set_option maxRecDepth 20000 in
theorem gL_law_X8_write : GoodIn wsL_law (wsV RL 135 RX8 yX8_write wsX8_write) := goodIn_app (goodIn_of _ (by decide +kernel)) ggL_law_X8_write
set_option maxRecDepth 20000 in
theorem ggL_law_X7_count : GoodIn wsL_law wsX7_count := goodIn_r _ [815, 19, 244, 23, 265, 15, 143, 35, 639, 238, 40, 423, 424, 425, 18, 426, 57, 816, 420, 421, 2, 422, 147, 148, 149, 343, 344, 345, 22, 346, 75, 67, 347, 348, 349, 350, 351, 352, 353, 354, 52, 54, 355, 356, 307, 357, 358, 359, 360, 361, 68, 69, 70, 362, 363, 364, 365, 183, 366, 367, 306, 308, 368, 71, 72, 369, 370, 371, 372, 66, 373, 374, 375, 376, 56, 59, 53, 377, 378, 379, 380, 60, 381, 267, 268, 269, 65, 382, 383, 384, 385, 817, 818, 819, 820, 73, 821, 822, 823, 824, 825, 826, 827, 868, 869, 870, 871, 872, 873, 874, 875, 907, 908, 909, 910, 911, 912, 913, 914, 915, 916, 917, 918, 919, 920, 921, 922, 923, 924, 925, 926, 905, 906, 941, 942, 943, 944, 945, 946, 947] (by decide +kernel) (by decide +kernel)
set_option maxRecDepth 20000 in
theorem gL_law_X7_count : GoodIn wsL_law (wsV RL 136 RX7 yX7_count wsX7_count) := goodIn_app (goodIn_of _ (by decide +kernel)) ggL_law_X7_count
set_option maxRecDepth 20000 in
theorem ggL_law_X8_count : GoodIn wsL_law wsX8_count := goodIn_r _ [831, 114, 648, 328, 832, 833, 834, 5, 835, 233, 224, 116, 122, 402, 253, 254, 255, 256, 216, 217, 218, 219, 220, 221, 222, 223, 117, 225, 226, 227, 228, 115, 195, 196, 197, 229, 230, 231, 232, 118, 398, 399, 400, 401, 126, 127, 128, 124, 125, 123, 403, 404, 405, 406, 119, 407, 408, 409, 410, 411, 412, 413, 414, 121, 415, 416, 417, 418, 876, 877, 878, 879, 880, 881, 882, 883, 884, 885, 886, 887, 888, 889, 890, 891, 892, 893, 894, 895, 896, 897, 898, 899, 900, 901, 902, 903, 904] (by decide +kernel) (by decide +kernel)
set_option maxRecDepth 20000 in
theorem gL_law_X8_count : GoodIn wsL_law (wsV RL 139 RX8 yX8_count wsX8_count) := goodIn_app (goodIn_of _ (by decide +kernel)) ggL_law_X8_count
