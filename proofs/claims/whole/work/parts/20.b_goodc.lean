set_option maxRecDepth 20000 in
theorem ggL_law_X5_ahead : GoodIn wsL_law wsX5_ahead := goodIn_r _ [722, 288, 19, 291, 292, 723, 588, 589, 23, 590, 313, 312, 315, 926, 927, 928, 929, 930, 931, 932, 985, 986, 987, 988, 989, 990, 991, 992, 993, 994, 995, 996, 997, 998, 999, 1000, 1001, 1002, 1003, 1004] rfl (by decide +kernel)
set_option maxRecDepth 20000 in
theorem gL_law_X5_ahead : GoodIn wsL_law (wsV RL 81 RX5 yX5_ahead wsX5_ahead) := goodIn_app (goodIn_of _ (by decide +kernel)) ggL_law_X5_ahead
set_option maxRecDepth 20000 in
theorem ggL_law_X6_ahead : GoodIn wsL_law wsX6_ahead := goodIn_r _ [727, 507, 508, 509, 5, 510, 401, 728, 729, 730, 731, 73, 71, 420, 679, 680, 681, 682, 68, 69, 70, 72, 74, 75, 76, 400, 450, 445, 603, 604, 605, 606, 402, 429, 430, 431, 432, 433, 434, 435, 436, 403, 404, 607, 608, 609, 610, 611, 612, 613, 614, 471, 472, 473, 474, 425, 426, 427, 428, 441, 442, 443, 444, 446, 447, 448, 449, 463, 464, 465, 466, 80, 81, 82, 83, 455, 456, 457, 458, 459, 460, 461, 462, 467, 468, 469, 470, 933, 934, 935, 936, 937, 938, 939, 940, 941, 942, 943, 944, 945, 946, 947, 948, 949, 950, 951, 952, 953, 954, 955, 956, 957, 958, 959, 960, 961, 962, 963, 964, 965, 966, 967, 968, 969, 970, 971, 972, 973, 974, 975, 976, 977, 978, 979, 980, 981, 982] rfl (by decide +kernel)
set_option maxRecDepth 20000 in
theorem gL_law_X6_ahead : GoodIn wsL_law (wsV RL 84 RX6 yX6_ahead wsX6_ahead) := goodIn_app (goodIn_of _ (by decide +kernel)) ggL_law_X6_ahead
set_option maxRecDepth 20000 in
theorem ggL_law_X5_see : GoodIn wsL_law wsX5_see := goodIn_r _ [735, 557, 288, 19, 736, 737, 551, 552, 2, 553, 738, 739, 740, 43, 741, 742, 61, 62, 926, 927, 928, 929, 930, 931, 932, 985, 986, 987, 988, 989, 990, 991, 992, 1007, 1008, 1009] rfl (by decide +kernel)
set_option maxRecDepth 20000 in
theorem gL_law_X5_see : GoodIn wsL_law (wsV RL 85 RX5 yX5_see wsX5_see) := goodIn_app (goodIn_of _ (by decide +kernel)) ggL_law_X5_see
set_option maxRecDepth 20000 in
theorem ggL_law_X6_see : GoodIn wsL_law wsX6_see := goodIn_r _ [746, 506, 747, 406, 84, 110, 111, 5, 112, 507, 508, 509, 510, 401, 933, 934, 935, 936, 937, 938, 939, 940, 941, 942, 943, 944, 945, 946, 947, 948, 949, 950, 951, 952, 953, 954, 955, 956, 957, 958, 959, 960, 961, 962, 963, 964, 965, 966, 967, 968, 969, 970, 971, 972, 973, 974, 975, 976, 977, 978, 979, 980, 981, 982] rfl (by decide +kernel)
set_option maxRecDepth 20000 in
theorem gL_law_X6_see : GoodIn wsL_law (wsV RL 89 RX6 yX6_see wsX6_see) := goodIn_app (goodIn_of _ (by decide +kernel)) ggL_law_X6_see
set_option maxRecDepth 20000 in
theorem ggL_law_X5_forget : GoodIn wsL_law wsX5_forget := goodIn_r _ [751, 19, 736, 737, 926, 927, 928, 929, 930, 931, 932, 985, 986, 987, 988, 989, 990, 991, 992, 1007, 1008, 1009] rfl (by decide +kernel)
set_option maxRecDepth 20000 in
theorem gL_law_X5_forget : GoodIn wsL_law (wsV RL 90 RX5 yX5_forget wsX5_forget) := goodIn_app (goodIn_of _ (by decide +kernel)) ggL_law_X5_forget
set_option maxRecDepth 20000 in
theorem ggL_law_X6_forget : GoodIn wsL_law wsX6_forget := goodIn_r _ [755, 406, 933, 934, 935, 936, 937, 938, 939, 940, 941, 942, 943, 944, 945, 946, 947, 948, 949, 950, 951, 952, 953, 954, 955, 956, 957, 958, 959, 960, 961, 962, 963, 964, 965, 966, 967, 968, 969, 970, 971, 972, 973, 974, 975, 976, 977, 978, 979, 980, 981, 982] rfl (by decide +kernel)
set_option maxRecDepth 20000 in
theorem gL_law_X6_forget : GoodIn wsL_law (wsV RL 93 RX6 yX6_forget wsX6_forget) := goodIn_app (goodIn_of _ (by decide +kernel)) ggL_law_X6_forget
set_option maxRecDepth 20000 in
theorem ggL_law_X5_sorts : GoodIn wsL_law wsX5_sorts := goodIn_r _ [759, 19, 736, 551, 552, 2, 553, 760, 761, 762, 43, 763, 742, 61, 62, 764, 765, 766, 557, 767, 184, 185, 186, 768, 769, 770, 771, 772, 773, 774, 926, 927, 928, 929, 930, 931, 932, 985, 986, 987, 988, 989, 990, 991, 992, 1007, 1008, 1009] rfl (by decide +kernel)
set_option maxRecDepth 20000 in
theorem gL_law_X5_sorts : GoodIn wsL_law (wsV RL 94 RX5 yX5_sorts wsX5_sorts) := goodIn_app (goodIn_of _ (by decide +kernel)) ggL_law_X5_sorts
set_option maxRecDepth 20000 in
theorem ggL_law_X6_sorts : GoodIn wsL_law wsX6_sorts := goodIn_r _ [778, 506, 110, 111, 5, 112, 779, 780, 781, 782, 406, 84, 783, 784, 785, 786, 787, 788, 789, 790, 791, 792, 933, 934, 935, 936, 937, 938, 939, 940, 941, 942, 943, 944, 945, 946, 947, 948, 949, 950, 951, 952, 953, 954, 955, 956, 957, 958, 959, 960, 961, 962, 963, 964, 965, 966, 967, 968, 969, 970, 971, 972, 973, 974, 975, 976, 977, 978, 979, 980, 981, 982] rfl (by decide +kernel)
set_option maxRecDepth 20000 in
theorem gL_law_X6_sorts : GoodIn wsL_law (wsV RL 97 RX6 yX6_sorts wsX6_sorts) := goodIn_app (goodIn_of _ (by decide +kernel)) ggL_law_X6_sorts
set_option maxRecDepth 20000 in
theorem ggL_law_X5_drawn : GoodIn wsL_law wsX5_drawn := goodIn_r _ [796, 288, 24, 19, 291, 797, 798, 799, 800, 801, 643, 802, 803, 804, 23, 805, 48, 806, 807, 808, 809, 49, 50, 53, 312, 313, 314, 315, 316, 317, 704, 705, 706, 707, 352, 340, 341, 342, 708, 576, 577, 578, 358, 349, 350, 351, 51, 368, 369, 370, 371, 372, 373, 374, 375, 579, 580, 581, 582, 583, 584, 585, 586, 376, 377, 378, 379, 587, 588, 589, 590, 591, 592, 593, 594, 380, 381, 382, 383, 384, 385, 386, 387, 52, 388, 389, 390, 709, 559, 560, 561, 710, 354, 355, 356, 357, 184, 185, 186, 359, 360, 361, 362, 363, 188, 189, 364, 365, 366, 367, 644, 645, 646, 647, 926, 927, 928, 929, 930, 931, 932, 985, 986, 987, 988, 989, 990, 991, 992, 993, 994, 995, 996, 997, 998, 999, 1000, 1001, 1002, 1003, 1004] rfl (by decide +kernel)
set_option maxRecDepth 20000 in
theorem gL_law_X5_drawn : GoodIn wsL_law (wsV RL 98 RX5 yX5_drawn wsX5_drawn) := goodIn_app (goodIn_of _ (by decide +kernel)) ggL_law_X5_drawn
set_option maxRecDepth 20000 in
theorem ggL_law_X6_drawn : GoodIn wsL_law wsX6_drawn := goodIn_r _ [813, 814, 815, 816, 71, 73, 76, 110, 111, 5, 112, 507, 508, 509, 510, 401, 679, 680, 681, 682, 68, 69, 70, 72, 74, 75, 400, 450, 445, 817, 818, 819, 820, 821, 822, 823, 824, 603, 604, 605, 606, 402, 420, 429, 430, 431, 432, 433, 434, 435, 436, 403, 404, 607, 608, 609, 610, 611, 612, 613, 614, 471, 472, 473, 474, 425, 426, 427, 428, 441, 442, 443, 444, 446, 447, 448, 449, 463, 464, 465, 466, 80, 81, 82, 83, 455, 456, 457, 458, 459, 460, 461, 462, 467, 468, 469, 470, 416, 417, 418, 419, 421, 422, 423, 424, 437, 438, 439, 440, 451, 452, 453, 454, 659, 660, 661, 662, 933, 934, 935, 936, 937, 938, 939, 940, 941, 942, 943, 944, 945, 946, 947, 948, 949, 950, 951, 952, 953, 954, 955, 956, 957, 958, 959, 960, 961, 962, 963, 964, 965, 966, 967, 968, 969, 970, 971, 972, 973, 974, 975, 976, 977, 978, 979, 980, 981, 982] rfl (by decide +kernel)
set_option maxRecDepth 20000 in
theorem gL_law_X6_drawn : GoodIn wsL_law (wsV RL 101 RX6 yX6_drawn wsX6_drawn) := goodIn_app (goodIn_of _ (by decide +kernel)) ggL_law_X6_drawn
set_option maxRecDepth 20000 in
theorem ggL_law_X5_image : GoodIn wsL_law wsX5_image := goodIn_r _ [828, 288, 20, 19, 289, 291, 292, 829, 830, 831, 18, 832, 34, 35, 833, 807, 808, 809, 36, 40, 44, 305, 306, 307, 834, 803, 804, 23, 805, 48, 806, 49, 50, 53, 312, 313, 314, 315, 316, 317, 835, 836, 837, 39, 838, 57, 839, 347, 840, 841, 842, 43, 843, 61, 844, 62, 742, 926, 927, 928, 929, 930, 931, 932, 985, 986, 987, 988, 989, 990, 991, 992, 993, 994, 995, 996, 997, 998, 999, 1000, 1001, 1002, 1003, 1004, 1005, 1006, 1007, 1008, 1009] rfl (by decide +kernel)
set_option maxRecDepth 20000 in
theorem gL_law_X5_image : GoodIn wsL_law (wsV RL 102 RX5 yX5_image wsX5_image) := goodIn_app (goodIn_of _ (by decide +kernel)) ggL_law_X5_image
set_option maxRecDepth 20000 in
theorem ggL_law_X6_image : GoodIn wsL_law wsX6_image := goodIn_r _ [848, 68, 85, 69, 86, 70, 87, 71, 88, 77, 89, 78, 90, 79, 91, 84, 92, 72, 849, 73, 850, 74, 851, 75, 852, 76, 853, 403, 854, 404, 855, 405, 856, 406, 857, 407, 93, 507, 508, 509, 5, 510, 401, 858, 859, 860, 933, 934, 935, 936, 937, 938, 939, 940, 941, 942, 943, 944, 945, 946, 947, 948, 949, 950, 951, 952, 953, 954, 955, 956, 957, 958, 959, 960, 961, 962, 963, 964, 965, 966, 967, 968, 969, 970, 971, 972, 973, 974, 975, 976, 977, 978, 979, 980, 981, 982] rfl (by decide +kernel)
set_option maxRecDepth 20000 in
theorem gL_law_X6_image : GoodIn wsL_law (wsV RL 105 RX6 yX6_image wsX6_image) := goodIn_app (goodIn_of _ (by decide +kernel)) ggL_law_X6_image
set_option maxRecDepth 20000 in
theorem ggL_law_X5_restore : GoodIn wsL_law wsX5_restore := goodIn_r _ [864, 289, 19, 20, 291, 292, 829, 830, 831, 18, 832, 34, 35, 833, 807, 808, 809, 36, 40, 44, 305, 306, 307, 834, 803, 804, 23, 805, 48, 806, 49, 50, 53, 312, 313, 314, 315, 316, 317, 835, 836, 837, 39, 838, 57, 839, 347, 840, 841, 842, 43, 843, 61, 844, 62, 742, 926, 927, 928, 929, 930, 931, 932, 985, 986, 987, 988, 989, 990, 991, 992, 993, 994, 995, 996, 997, 998, 999, 1000, 1001, 1002, 1003, 1004, 1005, 1006, 1007, 1008, 1009] rfl (by decide +kernel)
set_option maxRecDepth 20000 in
theorem gL_law_X5_restore : GoodIn wsL_law (wsV RL 106 RX5 yX5_restore wsX5_restore) := goodIn_app (goodIn_of _ (by decide +kernel)) ggL_law_X5_restore
set_option maxRecDepth 20000 in
theorem ggL_law_X6_restore : GoodIn wsL_law wsX6_restore := goodIn_r _ [868, 93, 407, 85, 68, 86, 69, 87, 70, 88, 71, 89, 77, 90, 78, 91, 79, 92, 84, 72, 849, 73, 850, 74, 851, 75, 852, 76, 853, 854, 403, 855, 404, 856, 405, 857, 406, 858, 859, 5, 860, 933, 934, 935, 936, 937, 938, 939, 940, 941, 942, 943, 944, 945, 946, 947, 948, 949, 950, 951, 952, 953, 954, 955, 956, 957, 958, 959, 960, 961, 962, 963, 964, 965, 966, 967, 968, 969, 970, 971, 972, 973, 974, 975, 976, 977, 978, 979, 980, 981, 982] rfl (by decide +kernel)
set_option maxRecDepth 20000 in
theorem gL_law_X6_restore : GoodIn wsL_law (wsV RL 109 RX6 yX6_restore wsX6_restore) := goodIn_app (goodIn_of _ (by decide +kernel)) ggL_law_X6_restore
set_option maxRecDepth 20000 in
theorem ggL_law_X5_count : GoodIn wsL_law wsX5_count := goodIn_r _ [872, 19, 291, 292, 873, 874, 875, 699, 700, 736, 737, 15, 98, 290, 926, 927, 928, 929, 930, 931, 932, 985, 986, 987, 988, 989, 990, 991, 992, 993, 994, 995, 996, 997, 998, 999, 1000, 1001, 1002, 1003, 1004, 1005, 1006, 1007, 1008, 1009, 983, 984] rfl (by decide +kernel)
set_option maxRecDepth 20000 in
theorem gL_law_X5_count : GoodIn wsL_law (wsV RL 110 RX5 yX5_count wsX5_count) := goodIn_app (goodIn_of _ (by decide +kernel)) ggL_law_X5_count
set_option maxRecDepth 20000 in
theorem ggL_law_X6_count : GoodIn wsL_law wsX6_count := goodIn_r _ [879, 880, 881, 882, 5, 883, 73, 400, 401, 402, 405, 406, 109, 407, 933, 934, 935, 936, 937, 938, 939, 940, 941, 942, 943, 944, 945, 946, 947, 948, 949, 950, 951, 952, 953, 954, 955, 956, 957, 958, 959, 960, 961, 962, 963, 964, 965, 966, 967, 968, 969, 970, 971, 972, 973, 974, 975, 976, 977, 978, 979, 980, 981, 982] rfl (by decide +kernel)
set_option maxRecDepth 20000 in
theorem gL_law_X6_count : GoodIn wsL_law (wsV RL 113 RX6 yX6_count wsX6_count) := goodIn_app (goodIn_of _ (by decide +kernel)) ggL_law_X6_count
set_option maxRecDepth 20000 in
theorem ggL_law_X5_digest : GoodIn wsL_law wsX5_digest := goodIn_r _ [887, 888, 288, 15, 98, 889, 890, 891, 892, 2, 893, 19, 291, 488, 340, 341, 23, 342, 50, 894, 895, 896, 897, 898, 480, 481, 482, 483, 484, 485, 486, 487, 489, 349, 350, 351, 53, 51, 48, 49, 352, 490, 491, 492, 493, 358, 372, 373, 374, 375, 494, 495, 496, 497, 899, 900, 901, 902, 903, 904, 635, 636, 637, 292, 638, 639, 640, 641, 642, 643, 644, 645, 646, 647, 357, 184, 185, 186, 648, 365, 366, 367, 313, 312, 558, 559, 560, 561, 314, 905, 664, 665, 666, 551, 552, 553, 667, 668, 669, 670, 359, 360, 361, 362, 363, 188, 189, 364, 906, 720, 721, 722, 723, 588, 589, 590, 315, 907, 696, 697, 698, 24, 699, 700, 701, 702, 141, 142, 703, 309, 310, 311, 316, 317, 318, 319, 320, 321, 704, 705, 706, 707, 708, 576, 577, 578, 368, 369, 370, 371, 579, 580, 581, 582, 583, 584, 585, 586, 376, 377, 378, 379, 587, 591, 592, 593, 594, 380, 381, 382, 383, 384, 385, 386, 387, 52, 388, 389, 390, 709, 710, 354, 355, 356, 908, 757, 758, 759, 736, 760, 761, 762, 43, 763, 742, 61, 62, 764, 765, 766, 557, 767, 768, 769, 770, 771, 772, 773, 774, 909, 870, 871, 872, 873, 874, 875, 737, 290, 926, 927, 928, 929, 930, 931, 932, 983, 984, 985, 986, 987, 988, 989, 990, 991, 992, 993, 994, 995, 996, 997, 998, 999, 1000, 1001, 1002, 1003, 1004, 1005, 1006, 1007, 1008, 1009] rfl (by decide +kernel)
set_option maxRecDepth 20000 in
theorem gL_law_X5_digest : GoodIn wsL_law (wsV RL 114 RX5 yX5_digest wsX5_digest) := goodIn_app (goodIn_of _ (by decide +kernel)) ggL_law_X5_digest
