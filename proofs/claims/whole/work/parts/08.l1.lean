theorem goodIn_cut {big ws : List Cond} (n : Nat) (h1 : GoodIn big (ws.take n)) (h2 : GoodIn big (ws.drop n)) : GoodIn big ws := fun w h => (List.mem_append.mp ((List.take_append_drop n ws).symm ▸ h)).elim (h1 w) (h2 w)
set_option maxRecDepth 20000 in
theorem ggL_law_X7_digest_c0 : GoodIn wsL_law ((wsX7_digest.drop 0).take 30) := goodIn_r _ [839, 840, 27, 31, 19, 244, 23, 265, 503, 841, 813, 814, 2, 815, 15, 143, 35, 639, 238, 40, 423, 424, 425, 18, 426, 57, 816, 420, 421, 422] (by decide +kernel) (by decide +kernel)
set_option maxRecDepth 20000 in
theorem ggL_law_X7_digest_c1 : GoodIn wsL_law ((wsX7_digest.drop 30).take 30) := goodIn_r _ [147, 148, 149, 343, 344, 345, 22, 346, 75, 67, 347, 348, 349, 350, 351, 352, 353, 354, 52, 54, 355, 356, 307, 357, 358, 359, 360, 361, 68, 69] (by decide +kernel) (by decide +kernel)
set_option maxRecDepth 20000 in
theorem ggL_law_X7_digest_c2 : GoodIn wsL_law ((wsX7_digest.drop 60).take 30) := goodIn_r _ [70, 362, 363, 364, 365, 183, 366, 367, 306, 308, 368, 71, 72, 369, 370, 371, 372, 66, 373, 374, 375, 376, 56, 59, 53, 377, 378, 379, 380, 60] (by decide +kernel) (by decide +kernel)
set_option maxRecDepth 20000 in
theorem ggL_law_X7_digest_c3 : GoodIn wsL_law ((wsX7_digest.drop 90).take 30) := goodIn_r _ [381, 267, 268, 269, 65, 382, 383, 384, 385, 817, 818, 819, 820, 73, 821, 822, 823, 824, 825, 826, 827, 842, 843, 844, 845, 846, 207, 208, 209, 210] (by decide +kernel) (by decide +kernel)
set_option maxRecDepth 20000 in
theorem ggL_law_X7_digest_c4 : GoodIn wsL_law ((wsX7_digest.drop 120).take 30) := goodIn_r _ [211, 144, 145, 146, 504, 505, 506, 26, 507, 508, 509, 83, 510, 511, 512, 513, 514, 80, 81, 477, 515, 516, 478, 517, 518, 519, 520, 521, 82, 522] (by decide +kernel) (by decide +kernel)
set_option maxRecDepth 20000 in
theorem ggL_law_X7_digest_c5 : GoodIn wsL_law ((wsX7_digest.drop 150).take 30) := goodIn_r _ [523, 524, 525, 526, 527, 528, 529, 546, 547, 548, 30, 549, 91, 550, 551, 552, 89, 90, 553, 554, 555, 556, 557, 558, 559, 560, 561, 562, 563, 564] (by decide +kernel) (by decide +kernel)
set_option maxRecDepth 20000 in
theorem ggL_law_X7_digest_c6 : GoodIn wsL_law ((wsX7_digest.drop 180).take 30) := goodIn_r _ [565, 566, 567, 568, 569, 570, 571, 572, 847, 848, 849, 850, 851, 235, 236, 237, 239, 240, 241, 242, 243, 530, 531, 532, 533, 573, 574, 575, 576, 577] (by decide +kernel) (by decide +kernel)
set_option maxRecDepth 20000 in
theorem ggL_law_X7_digest_c7 : GoodIn wsL_law ((wsX7_digest.drop 210).take 30) := goodIn_r _ [578, 579, 580, 581, 582, 583, 584, 688, 689, 690, 34, 691, 101, 692, 102, 693, 665, 625, 694, 695, 662, 663, 664, 100, 97, 98, 666, 99, 667, 668] (by decide +kernel) (by decide +kernel)
set_option maxRecDepth 20000 in
theorem ggL_law_X7_digest_c8 : GoodIn wsL_law ((wsX7_digest.drop 240).take 30) := goodIn_r _ [669, 670, 671, 852, 853, 854, 855, 856, 436, 437, 438, 439, 261, 262, 263, 264, 440, 441, 469, 470, 471, 472, 473, 474, 475, 84, 476, 479, 480, 481] (by decide +kernel) (by decide +kernel)
set_option maxRecDepth 20000 in
theorem ggL_law_X7_digest_c9 : GoodIn wsL_law ((wsX7_digest.drop 270).take 30) := goodIn_r _ [482, 483, 484, 485, 486, 487, 488, 489, 857, 451, 452, 453, 454, 455, 609, 610, 611, 612, 858, 658, 659, 660, 661, 859, 705, 706, 707, 708, 305, 709] (by decide +kernel) (by decide +kernel)
set_option maxRecDepth 20000 in
theorem ggL_law_X7_digest_c10 : GoodIn wsL_law ((wsX7_digest.drop 300).take 30) := goodIn_r _ [710, 711, 712, 713, 714, 868, 869, 870, 871, 872, 873, 874, 875, 907, 908, 909, 910, 911, 912, 913, 914, 915, 916, 917, 918, 919, 920, 921, 922, 923] (by decide +kernel) (by decide +kernel)
set_option maxRecDepth 20000 in
theorem ggL_law_X7_digest_c11 : GoodIn wsL_law (wsX7_digest.drop 330) := goodIn_r _ [924, 925, 926, 927, 928, 929, 930, 931, 932, 933, 934, 935, 936, 905, 906, 941, 942, 943, 944, 945, 946, 947, 937, 938, 939, 940] (by decide +kernel) (by decide +kernel)
theorem ggL_law_X7_digest_r11 : GoodIn wsL_law (wsX7_digest.drop 330) := ggL_law_X7_digest_c11
theorem ggL_law_X7_digest_r10 : GoodIn wsL_law (wsX7_digest.drop 300) := goodIn_cut 30 ggL_law_X7_digest_c10 (by rw [List.drop_drop]; exact ggL_law_X7_digest_r11)
theorem ggL_law_X7_digest_r9 : GoodIn wsL_law (wsX7_digest.drop 270) := goodIn_cut 30 ggL_law_X7_digest_c9 (by rw [List.drop_drop]; exact ggL_law_X7_digest_r10)
theorem ggL_law_X7_digest_r8 : GoodIn wsL_law (wsX7_digest.drop 240) := goodIn_cut 30 ggL_law_X7_digest_c8 (by rw [List.drop_drop]; exact ggL_law_X7_digest_r9)
theorem ggL_law_X7_digest_r7 : GoodIn wsL_law (wsX7_digest.drop 210) := goodIn_cut 30 ggL_law_X7_digest_c7 (by rw [List.drop_drop]; exact ggL_law_X7_digest_r8)
theorem ggL_law_X7_digest_r6 : GoodIn wsL_law (wsX7_digest.drop 180) := goodIn_cut 30 ggL_law_X7_digest_c6 (by rw [List.drop_drop]; exact ggL_law_X7_digest_r7)
theorem ggL_law_X7_digest_r5 : GoodIn wsL_law (wsX7_digest.drop 150) := goodIn_cut 30 ggL_law_X7_digest_c5 (by rw [List.drop_drop]; exact ggL_law_X7_digest_r6)
theorem ggL_law_X7_digest_r4 : GoodIn wsL_law (wsX7_digest.drop 120) := goodIn_cut 30 ggL_law_X7_digest_c4 (by rw [List.drop_drop]; exact ggL_law_X7_digest_r5)
theorem ggL_law_X7_digest_r3 : GoodIn wsL_law (wsX7_digest.drop 90) := goodIn_cut 30 ggL_law_X7_digest_c3 (by rw [List.drop_drop]; exact ggL_law_X7_digest_r4)
theorem ggL_law_X7_digest_r2 : GoodIn wsL_law (wsX7_digest.drop 60) := goodIn_cut 30 ggL_law_X7_digest_c2 (by rw [List.drop_drop]; exact ggL_law_X7_digest_r3)
theorem ggL_law_X7_digest_r1 : GoodIn wsL_law (wsX7_digest.drop 30) := goodIn_cut 30 ggL_law_X7_digest_c1 (by rw [List.drop_drop]; exact ggL_law_X7_digest_r2)
theorem ggL_law_X7_digest_r0 : GoodIn wsL_law (wsX7_digest.drop 0) := goodIn_cut 30 ggL_law_X7_digest_c0 (by rw [List.drop_drop]; exact ggL_law_X7_digest_r1)
theorem ggL_law_X7_digest : GoodIn wsL_law wsX7_digest := ggL_law_X7_digest_r0
set_option maxRecDepth 20000 in
theorem gL_law_X7_digest : GoodIn wsL_law (wsV RL 140 RX7 yX7_digest wsX7_digest) := goodIn_app (goodIn_of _ (by decide +kernel)) ggL_law_X7_digest
set_option maxRecDepth 20000 in
theorem ggL_law_X8_digest_c0 : GoodIn wsL_law ((wsX8_digest.drop 0).take 30) := goodIn_r _ [863, 864, 865, 224, 116, 117, 233, 866, 829, 830, 5, 831, 114, 648, 328, 832, 833, 834, 835, 122, 402, 253, 254, 255, 256, 216, 217, 218, 219, 220] (by decide +kernel) (by decide +kernel)
set_option maxRecDepth 20000 in
theorem ggL_law_X8_digest_c1 : GoodIn wsL_law ((wsX8_digest.drop 30).take 30) := goodIn_r _ [221, 222, 223, 225, 226, 227, 228, 115, 195, 196, 197, 229, 230, 231, 232, 118, 398, 399, 400, 401, 126, 127, 128, 124, 125, 123, 403, 404, 405, 406] (by decide +kernel) (by decide +kernel)
set_option maxRecDepth 20000 in
theorem ggL_law_X8_digest_c2 : GoodIn wsL_law ((wsX8_digest.drop 60).take 30) := goodIn_r _ [119, 407, 408, 409, 410, 411, 412, 413, 414, 121, 415, 416, 417, 418, 394, 395, 396, 397, 538, 539, 540, 541, 129, 120, 589, 590, 591, 592, 593, 594] (by decide +kernel) (by decide +kernel)
set_option maxRecDepth 20000 in
theorem ggL_law_X8_digest_c3 : GoodIn wsL_law ((wsX8_digest.drop 90).take 30) := goodIn_r _ [595, 596, 597, 598, 599, 600, 601, 602, 603, 604, 700, 701, 702, 703, 676, 677, 678, 679, 680, 681, 682, 683, 130, 131, 132, 446, 447, 448, 449, 867] (by decide +kernel) (by decide +kernel)
set_option maxRecDepth 20000 in
theorem ggL_law_X8_digest_c4 : GoodIn wsL_law ((wsX8_digest.drop 120).take 30) := goodIn_r _ [491, 492, 493, 494, 274, 275, 276, 277, 249, 250, 251, 252, 495, 496, 497, 498, 460, 461, 462, 463, 719, 720, 721, 722, 723, 724, 876, 877, 878, 879] (by decide +kernel) (by decide +kernel)
set_option maxRecDepth 20000 in
theorem ggL_law_X8_digest_c5 : GoodIn wsL_law (wsX8_digest.drop 150) := goodIn_r _ [880, 881, 882, 883, 884, 885, 886, 887, 888, 889, 890, 891, 892, 893, 894, 895, 896, 897, 898, 899, 900, 901, 902, 903, 904] (by decide +kernel) (by decide +kernel)
theorem ggL_law_X8_digest_r5 : GoodIn wsL_law (wsX8_digest.drop 150) := ggL_law_X8_digest_c5
theorem ggL_law_X8_digest_r4 : GoodIn wsL_law (wsX8_digest.drop 120) := goodIn_cut 30 ggL_law_X8_digest_c4 (by rw [List.drop_drop]; exact ggL_law_X8_digest_r5)
theorem ggL_law_X8_digest_r3 : GoodIn wsL_law (wsX8_digest.drop 90) := goodIn_cut 30 ggL_law_X8_digest_c3 (by rw [List.drop_drop]; exact ggL_law_X8_digest_r4)
theorem ggL_law_X8_digest_r2 : GoodIn wsL_law (wsX8_digest.drop 60) := goodIn_cut 30 ggL_law_X8_digest_c2 (by rw [List.drop_drop]; exact ggL_law_X8_digest_r3)
theorem ggL_law_X8_digest_r1 : GoodIn wsL_law (wsX8_digest.drop 30) := goodIn_cut 30 ggL_law_X8_digest_c1 (by rw [List.drop_drop]; exact ggL_law_X8_digest_r2)
theorem ggL_law_X8_digest_r0 : GoodIn wsL_law (wsX8_digest.drop 0) := goodIn_cut 30 ggL_law_X8_digest_c0 (by rw [List.drop_drop]; exact ggL_law_X8_digest_r1)
theorem ggL_law_X8_digest : GoodIn wsL_law wsX8_digest := ggL_law_X8_digest_r0
set_option maxRecDepth 20000 in
theorem gL_law_X8_digest : GoodIn wsL_law (wsV RL 144 RX8 yX8_digest wsX8_digest) := goodIn_app (goodIn_of _ (by decide +kernel)) ggL_law_X8_digest
