set_option maxRecDepth 100000 in
theorem ggL_law_X6_init : GoodIn wsL_law wsX6_init := goodIn_r _ [9, 10, 11, 12, 13, 14, 15, 16, 17, 18, 19, 20, 21, 22, 23, 24, 25, 26, 27, 28, 29, 30, 31, 32, 33, 34, 35, 36, 37, 38, 39, 40, 41, 42, 43, 44, 45, 46, 47, 48, 49, 50, 51, 52, 53, 54, 55, 56, 57, 58, 59, 60, 61, 62, 63, 64, 65, 66, 67, 68, 69, 70, 71, 72, 73, 74, 75, 76, 77, 78, 79, 80, 81, 82, 83, 84, 85, 86, 87, 88, 89, 90, 91, 92, 93, 94, 95, 96, 97, 98, 99, 100, 101, 102, 103, 104, 105, 106, 107, 108, 109, 110, 111, 112, 113, 114, 115, 116, 117, 118, 119, 120, 121, 122, 123, 124, 125, 126, 127, 128, 129, 130, 131, 132, 133, 134, 135, 136, 137, 138, 139, 140, 141, 142, 143, 144, 145, 146, 147, 148, 149, 150, 151, 152, 153, 154, 155, 156, 157, 158, 159, 160, 161, 162, 163, 164, 165, 166, 167, 168, 169, 170, 171, 172, 173, 174, 175, 176, 177, 178, 179, 180, 181, 182, 183, 184, 185, 186, 187, 188, 189, 190, 191, 192, 193, 194, 195, 196, 197, 198, 199, 200, 201, 202, 203, 204, 205, 206, 207, 208, 209, 210, 211, 212, 213, 214, 215, 216, 217, 218, 219, 220, 221, 222, 223, 224, 225, 226, 227, 228, 229, 230, 231, 232, 233, 234, 920, 921, 922, 923, 924, 925, 926, 927, 928, 929, 930, 931, 932, 933, 934, 982, 983, 984, 985, 986, 987, 988, 989, 990, 991, 992, 993, 994, 995, 996, 997, 998, 999, 1000, 1001, 1002, 1003, 1004, 1005, 1006, 1007, 1008, 1009] rfl (by decide +kernel)
set_option maxRecDepth 100000 in
theorem gL_law_X6_init : GoodIn wsL_law (wsX6_init) := ggL_law_X6_init
set_option maxRecDepth 100000 in
theorem ggL_law_X7_init : GoodIn wsL_law wsX7_init := goodIn_r _ [237, 238, 11, 12, 239, 53, 240, 241, 242, 243, 244, 245, 246, 247, 248, 249, 250, 251, 252, 253, 254, 255, 256, 257, 258, 259, 260, 261, 262, 263, 264, 37, 265, 266, 267, 268, 269, 270, 271, 272, 273, 274, 275, 276, 277, 278, 279, 280, 281, 282, 283, 284, 285, 286, 287, 288, 289, 5, 290, 935, 936, 937, 938, 939, 940, 941, 942, 943, 944, 945, 946, 947, 948, 949, 950, 951, 952, 953, 954, 955, 956, 957, 958, 959, 960, 961, 962, 963, 964, 965, 966, 967, 968, 969, 970, 971, 972, 973, 974, 975, 976, 977, 978, 979, 980, 981] rfl (by decide +kernel)
set_option maxRecDepth 100000 in
theorem gL_law_X7_init : GoodIn wsL_law (wsX7_init) := ggL_law_X7_init
set_option maxRecDepth 100000 in
theorem ggL_law_X6_pupil : GoodIn wsL_law wsX6_pupil := goodIn_r _ [294, 15, 14, 13, 295, 296, 297, 298, 299, 11, 12, 53, 300, 301, 302, 303, 304, 305, 306, 920, 921, 922, 923, 924, 925, 926, 927, 928, 929, 930, 931, 932, 933, 934, 1010, 1011, 1012, 1013, 1014, 1015, 1016] rfl (by decide +kernel)
set_option maxRecDepth 100000 in
theorem gL_law_X6_pupil : GoodIn wsL_law (wsV RL 13 RX6 yX6_pupil wsX6_pupil) := goodIn_app (goodIn_of _ (by decide +kernel)) ggL_law_X6_pupil
set_option maxRecDepth 100000 in
theorem ggL_law_X7_pupil : GoodIn wsL_law wsX7_pupil := goodIn_r _ [310, 239, 311, 312, 313, 5, 314, 315, 316, 317, 318, 319, 320, 321, 322, 240, 241, 242, 243, 244, 935, 936, 937, 938, 939, 940, 941, 942, 943, 944, 945, 946, 947, 948, 949, 950, 951, 952, 953, 954, 955, 956, 957, 958, 959, 960, 961, 962, 963, 964, 965, 966, 967, 968, 969, 970, 971, 972, 973, 974, 975, 976, 977, 978, 979, 980, 981] rfl (by decide +kernel)
set_option maxRecDepth 100000 in
theorem gL_law_X7_pupil : GoodIn wsL_law (wsV RL 17 RX7 yX7_pupil wsX7_pupil) := goodIn_app (goodIn_of _ (by decide +kernel)) ggL_law_X7_pupil
set_option maxRecDepth 100000 in
theorem ggL_law_X6_weigh : GoodIn wsL_law wsX6_weigh := goodIn_r _ [326, 327, 328, 329, 330, 2, 331, 15, 14, 332, 296, 333, 334, 300, 1010, 1011, 1012, 1013, 1014, 1015, 1016, 920, 921, 922, 923, 924, 925, 926, 927, 928, 929, 930, 931, 932, 933, 934] rfl (by decide +kernel)
set_option maxRecDepth 100000 in
theorem gL_law_X6_weigh : GoodIn wsL_law (wsV RL 18 RX6 yX6_weigh wsX6_weigh) := goodIn_app (goodIn_of _ (by decide +kernel)) ggL_law_X6_weigh
set_option maxRecDepth 100000 in
theorem ggL_law_X7_weigh : GoodIn wsL_law wsX7_weigh := goodIn_r _ [338, 339, 244, 340, 341, 342, 5, 343, 239, 315, 316, 317, 318, 344, 345, 346, 347, 935, 936, 937, 938, 939, 940, 941, 942, 943, 944, 945, 946, 947, 948, 949, 950, 951, 952, 953, 954, 955, 956, 957, 958, 959, 960, 961, 962, 963, 964, 965, 966, 967, 968, 969, 970, 971, 972, 973, 974, 975, 976, 977, 978, 979, 980, 981] rfl (by decide +kernel)
set_option maxRecDepth 100000 in
theorem gL_law_X7_weigh : GoodIn wsL_law (wsV RL 21 RX7 yX7_weigh wsX7_weigh) := goodIn_app (goodIn_of _ (by decide +kernel)) ggL_law_X7_weigh
set_option maxRecDepth 100000 in
theorem ggL_law_X6_told : GoodIn wsL_law wsX6_told := goodIn_r _ [351, 328, 329, 330, 2, 331, 15, 14, 1010, 1011, 1012, 1013, 1014, 1015, 1016, 920, 921, 922, 923, 924, 925, 926, 927, 928, 929, 930, 931, 932, 933, 934] rfl (by decide +kernel)
set_option maxRecDepth 100000 in
theorem gL_law_X6_told : GoodIn wsL_law (wsV RL 22 RX6 yX6_told wsX6_told) := goodIn_app (goodIn_of _ (by decide +kernel)) ggL_law_X6_told
set_option maxRecDepth 100000 in
theorem ggL_law_X7_told : GoodIn wsL_law wsX7_told := goodIn_r _ [355, 240, 241, 242, 243, 244, 340, 341, 342, 5, 343, 239, 315, 316, 317, 318, 935, 936, 937, 938, 939, 940, 941, 942, 943, 944, 945, 946, 947, 948, 949, 950, 951, 952, 953, 954, 955, 956, 957, 958, 959, 960, 961, 962, 963, 964, 965, 966, 967, 968, 969, 970, 971, 972, 973, 974, 975, 976, 977, 978, 979, 980, 981] rfl (by decide +kernel)
set_option maxRecDepth 100000 in
theorem gL_law_X7_told : GoodIn wsL_law (wsV RL 25 RX7 yX7_told wsX7_told) := goodIn_app (goodIn_of _ (by decide +kernel)) ggL_law_X7_told
set_option maxRecDepth 100000 in
theorem ggL_law_X6_feed : GoodIn wsL_law wsX6_feed := goodIn_r _ [359, 22, 21, 920, 921, 922, 923, 924, 925, 926, 927, 928, 929, 930, 931, 932, 933, 934] rfl (by decide +kernel)
set_option maxRecDepth 100000 in
theorem gL_law_X6_feed : GoodIn wsL_law (wsV RL 28 RX6 yX6_feed wsX6_feed) := goodIn_app (goodIn_of _ (by decide +kernel)) ggL_law_X6_feed
set_option maxRecDepth 100000 in
theorem ggL_law_X7_feed : GoodIn wsL_law wsX7_feed := goodIn_r _ [363, 247, 255, 364, 315, 316, 317, 5, 318, 935, 936, 937, 938, 939, 940, 941, 942, 943, 944, 945, 946, 947, 948, 949, 950, 951, 952, 953, 954, 955, 956, 957, 958, 959, 960, 961, 962, 963, 964, 965, 966, 967, 968, 969, 970, 971, 972, 973, 974, 975, 976, 977, 978, 979, 980, 981] rfl (by decide +kernel)
set_option maxRecDepth 100000 in
theorem gL_law_X7_feed : GoodIn wsL_law (wsV RL 32 RX7 yX7_feed wsX7_feed) := goodIn_app (goodIn_of _ (by decide +kernel)) ggL_law_X7_feed
set_option maxRecDepth 100000 in
theorem ggL_law_X6_text : GoodIn wsL_law wsX6_text := goodIn_r _ [368, 18, 28, 22, 17, 133, 27, 134, 135, 57, 136, 137, 138, 139, 47, 48, 51, 52, 55, 56, 140, 141, 142, 143, 50, 49, 144, 145, 146, 147, 148, 149, 150, 151, 152, 153, 154, 155, 85, 86, 87, 88, 89, 90, 91, 92, 93, 94, 95, 156, 97, 98, 99, 100, 101, 102, 103, 104, 105, 106, 107, 108, 109, 110, 111, 112, 113, 114, 115, 116, 117, 118, 119, 120, 121, 122, 123, 124, 125, 126, 127, 128, 129, 130, 131, 132, 157, 158, 159, 160, 161, 162, 163, 164, 165, 166, 167, 168, 169, 170, 171, 172, 173, 174, 175, 176, 177, 178, 179, 180, 181, 182, 183, 184, 185, 54, 186, 187, 188, 189, 190, 191, 192, 193, 194, 195, 196, 197, 198, 199, 200, 201, 202, 203, 204, 205, 206, 207, 208, 209, 210, 211, 212, 213, 214, 215, 216, 217, 218, 219, 220, 221, 222, 223, 224, 53, 225, 226, 227, 228, 229, 230, 231, 232, 11, 12, 233, 234, 920, 921, 922, 923, 924, 925, 926, 927, 928, 929, 930, 931, 932, 933, 934, 982, 983, 984, 985, 986, 987, 988, 989, 990, 991, 1008, 1009] rfl (by decide +kernel)
set_option maxRecDepth 100000 in
theorem gL_law_X6_text : GoodIn wsL_law (wsV RL 33 RX6 yX6_text wsX6_text) := goodIn_app (goodIn_of _ (by decide +kernel)) ggL_law_X6_text
set_option maxRecDepth 100000 in
theorem ggL_law_X7_text : GoodIn wsL_law wsX7_text := goodIn_r _ [372, 245, 248, 373, 374, 249, 247, 375, 376, 377, 5, 378, 251, 250, 379, 380, 381, 382, 255, 383, 384, 385, 386, 315, 316, 317, 318, 387, 388, 389, 390, 391, 392, 393, 394, 395, 396, 397, 398, 399, 400, 401, 402, 403, 404, 405, 406, 407, 408, 258, 254, 409, 410, 411, 412, 413, 414, 415, 416, 417, 418, 419, 420, 253, 252, 421, 422, 423, 424, 259, 425, 426, 427, 428, 429, 430, 431, 432, 287, 288, 289, 290, 256, 257, 433, 434, 435, 436, 437, 438, 439, 440, 441, 442, 443, 444, 445, 446, 447, 448, 935, 936, 937, 938, 939, 940, 941, 942, 943, 944, 945, 946, 947, 948, 949, 950, 951, 952, 953, 954, 955, 956, 957, 958, 959, 960, 961, 962, 963, 964, 965, 966, 967, 968, 969, 970, 971, 972, 973, 974, 975, 976, 977, 978, 979, 980, 981] rfl (by decide +kernel)
set_option maxRecDepth 100000 in
theorem gL_law_X7_text : GoodIn wsL_law (wsV RL 37 RX7 yX7_text wsX7_text) := goodIn_app (goodIn_of _ (by decide +kernel)) ggL_law_X7_text
set_option maxRecDepth 100000 in
theorem ggL_law_X6_force : GoodIn wsL_law wsX6_force := goodIn_r _ [452, 18, 19, 920, 921, 922, 923, 924, 925, 926, 927, 928, 929, 930, 931, 932, 933, 934] rfl (by decide +kernel)
set_option maxRecDepth 100000 in
theorem gL_law_X6_force : GoodIn wsL_law (wsV RL 38 RX6 yX6_force wsX6_force) := goodIn_app (goodIn_of _ (by decide +kernel)) ggL_law_X6_force
set_option maxRecDepth 100000 in
theorem ggL_law_X7_force : GoodIn wsL_law wsX7_force := goodIn_r _ [456, 245, 246, 315, 316, 317, 5, 318, 935, 936, 937, 938, 939, 940, 941, 942, 943, 944, 945, 946, 947, 948, 949, 950, 951, 952, 953, 954, 955, 956, 957, 958, 959, 960, 961, 962, 963, 964, 965, 966, 967, 968, 969, 970, 971, 972, 973, 974, 975, 976, 977, 978, 979, 980, 981] rfl (by decide +kernel)
set_option maxRecDepth 100000 in
theorem gL_law_X7_force : GoodIn wsL_law (wsV RL 42 RX7 yX7_force wsX7_force) := goodIn_app (goodIn_of _ (by decide +kernel)) ggL_law_X7_force
set_option maxRecDepth 100000 in
theorem ggL_law_X6_says : GoodIn wsL_law wsX6_says := goodIn_r _ [460, 32, 17, 19, 461, 31, 462, 463, 62, 63, 61, 64, 464, 465, 221, 466, 467, 468, 469, 65, 470, 471, 138, 472, 473, 137, 139, 474, 475, 476, 477, 66, 478, 479, 480, 920, 921, 922, 923, 924, 925, 926, 927, 928, 929, 930, 931, 932, 933, 934, 992, 993, 994, 995, 996, 997, 1008, 1009] rfl (by decide +kernel)
set_option maxRecDepth 100000 in
theorem gL_law_X6_says : GoodIn wsL_law (wsV RL 43 RX6 yX6_says wsX6_says) := goodIn_app (goodIn_of _ (by decide +kernel)) ggL_law_X6_says
set_option maxRecDepth 100000 in
theorem ggL_law_X7_says : GoodIn wsL_law wsX7_says := goodIn_r _ [484, 315, 316, 317, 5, 318, 485, 486, 487, 488, 261, 489, 490, 491, 492, 246, 258, 256, 260, 257, 493, 494, 495, 496, 935, 936, 937, 938, 939, 940, 941, 942, 943, 944, 945, 946, 947, 948, 949, 950, 951, 952, 953, 954, 955, 956, 957, 958, 959, 960, 961, 962, 963, 964, 965, 966, 967, 968, 969, 970, 971, 972, 973, 974, 975, 976, 977, 978, 979, 980, 981] rfl (by decide +kernel)
set_option maxRecDepth 100000 in
theorem gL_law_X7_says : GoodIn wsL_law (wsV RL 47 RX7 yX7_says wsX7_says) := goodIn_app (goodIn_of _ (by decide +kernel)) ggL_law_X7_says
set_option maxRecDepth 100000 in
theorem ggL_law_X6_thought : GoodIn wsL_law wsX6_thought := goodIn_r _ [500, 501, 36, 328, 329, 330, 2, 331, 15, 14, 502, 503, 504, 505, 506, 507, 508, 509, 510, 511, 512, 513, 514, 515, 32, 17, 19, 461, 31, 462, 463, 62, 63, 61, 64, 464, 465, 221, 466, 516, 35, 517, 518, 71, 72, 73, 74, 75, 76, 519, 520, 521, 522, 523, 524, 525, 77, 526, 467, 468, 469, 65, 470, 471, 138, 472, 473, 137, 139, 474, 475, 476, 477, 66, 478, 479, 480, 527, 528, 529, 530, 531, 532, 533, 534, 535, 536, 537, 538, 539, 540, 541, 542, 543, 544, 545, 546, 547, 548, 549, 550, 551, 552, 553, 554, 555, 556, 557, 558, 559, 560, 561, 562, 563, 564, 565, 566, 567, 568, 569, 570, 571, 572, 573, 574, 575, 576, 577, 578, 579, 920, 921, 922, 923, 924, 925, 926, 927, 928, 929, 930, 931, 932, 933, 934, 1010, 1011, 1012, 1013, 1014, 1015, 1016, 992, 993, 994, 995, 996, 997, 998, 999, 1000, 1001, 1002, 1003, 1004, 1008, 1009] rfl (by decide +kernel)
set_option maxRecDepth 100000 in
theorem gL_law_X6_thought : GoodIn wsL_law (wsV RL 48 RX6 yX6_thought wsX6_thought) := goodIn_app (goodIn_of _ (by decide +kernel)) ggL_law_X6_thought
set_option maxRecDepth 100000 in
theorem ggL_law_X7_thought : GoodIn wsL_law wsX7_thought := goodIn_r _ [583, 584, 265, 340, 341, 342, 5, 343, 239, 315, 316, 317, 318, 585, 586, 587, 588, 589, 590, 591, 592, 242, 241, 240, 243, 593, 594, 595, 596, 264, 262, 263, 485, 486, 487, 488, 261, 489, 490, 491, 492, 246, 258, 256, 260, 257, 493, 494, 495, 496, 597, 598, 599, 600, 270, 601, 602, 603, 604, 244, 266, 267, 269, 605, 606, 607, 608, 609, 610, 611, 612, 613, 614, 615, 616, 617, 618, 619, 620, 621, 622, 623, 624, 625, 626, 627, 628, 629, 630, 631, 632, 633, 634, 635, 636, 637, 638, 935, 936, 937, 938, 939, 940, 941, 942, 943, 944, 945, 946, 947, 948, 949, 950, 951, 952, 953, 954, 955, 956, 957, 958, 959, 960, 961, 962, 963, 964, 965, 966, 967, 968, 969, 970, 971, 972, 973, 974, 975, 976, 977, 978, 979, 980, 981] rfl (by decide +kernel)
set_option maxRecDepth 100000 in
theorem gL_law_X7_thought : GoodIn wsL_law (wsV RL 52 RX7 yX7_thought wsX7_thought) := goodIn_app (goodIn_of _ (by decide +kernel)) ggL_law_X7_thought
set_option maxRecDepth 100000 in
theorem ggL_law_X6_moves : GoodIn wsL_law wsX6_moves := goodIn_r _ [642, 36, 328, 329, 330, 2, 331, 15, 14, 502, 503, 504, 508, 509, 510, 511, 512, 513, 514, 515, 32, 17, 19, 461, 31, 462, 463, 62, 63, 61, 64, 464, 465, 221, 466, 516, 35, 517, 518, 71, 72, 73, 74, 75, 76, 519, 520, 521, 522, 523, 524, 525, 77, 526, 467, 468, 469, 65, 470, 471, 138, 472, 473, 137, 139, 474, 475, 476, 477, 66, 478, 479, 480, 527, 528, 529, 530, 531, 532, 533, 534, 535, 536, 537, 538, 539, 540, 541, 542, 543, 544, 545, 546, 547, 548, 549, 550, 551, 552, 553, 554, 555, 556, 557, 558, 559, 560, 561, 562, 563, 564, 643, 644, 645, 646, 647, 648, 920, 921, 922, 923, 924, 925, 926, 927, 928, 929, 930, 931, 932, 933, 934, 1010, 1011, 1012, 1013, 1014, 1015, 1016, 992, 993, 994, 995, 996, 997, 998, 999, 1000, 1001, 1002, 1003, 1004, 1008, 1009] rfl (by decide +kernel)
set_option maxRecDepth 100000 in
theorem gL_law_X6_moves : GoodIn wsL_law (wsV RL 53 RX6 yX6_moves wsX6_moves) := goodIn_app (goodIn_of _ (by decide +kernel)) ggL_law_X6_moves
set_option maxRecDepth 100000 in
theorem ggL_law_X7_moves : GoodIn wsL_law wsX7_moves := goodIn_r _ [652, 266, 267, 270, 340, 341, 342, 5, 343, 239, 315, 316, 317, 318, 585, 586, 587, 588, 589, 590, 591, 592, 242, 241, 240, 243, 593, 594, 595, 596, 264, 262, 263, 485, 486, 487, 488, 261, 489, 490, 491, 492, 246, 258, 256, 260, 257, 493, 494, 495, 496, 597, 598, 599, 600, 601, 602, 603, 604, 265, 244, 269, 605, 606, 607, 608, 609, 610, 611, 612, 613, 614, 615, 616, 617, 618, 619, 620, 621, 622, 623, 624, 625, 626, 627, 628, 629, 630, 935, 936, 937, 938, 939, 940, 941, 942, 943, 944, 945, 946, 947, 948, 949, 950, 951, 952, 953, 954, 955, 956, 957, 958, 959, 960, 961, 962, 963, 964, 965, 966, 967, 968, 969, 970, 971, 972, 973, 974, 975, 976, 977, 978, 979, 980, 981] rfl (by decide +kernel)
set_option maxRecDepth 100000 in
theorem gL_law_X7_moves : GoodIn wsL_law (wsV RL 56 RX7 yX7_moves wsX7_moves) := goodIn_app (goodIn_of _ (by decide +kernel)) ggL_law_X7_moves
set_option maxRecDepth 100000 in
theorem ggL_law_X6_likely : GoodIn wsL_law wsX6_likely := goodIn_r _ [656, 501, 36, 328, 329, 330, 2, 331, 15, 14, 502, 503, 504, 508, 509, 510, 511, 512, 513, 514, 515, 32, 17, 19, 461, 31, 462, 463, 62, 63, 61, 64, 464, 465, 221, 466, 516, 35, 517, 518, 71, 72, 73, 74, 75, 76, 519, 520, 521, 522, 523, 524, 525, 77, 526, 467, 468, 469, 65, 470, 471, 138, 472, 473, 137, 139, 474, 475, 476, 477, 66, 478, 479, 480, 527, 528, 529, 530, 531, 532, 533, 534, 535, 536, 537, 538, 539, 540, 541, 542, 543, 544, 545, 546, 547, 548, 549, 550, 551, 552, 553, 554, 555, 556, 557, 558, 559, 560, 561, 562, 563, 564, 568, 569, 570, 657, 658, 659, 660, 571, 572, 573, 574, 575, 576, 577, 578, 579, 661, 662, 663, 664, 643, 644, 645, 920, 921, 922, 923, 924, 925, 926, 927, 928, 929, 930, 931, 932, 933, 934, 1010, 1011, 1012, 1013, 1014, 1015, 1016, 992, 993, 994, 995, 996, 997, 998, 999, 1000, 1001, 1002, 1003, 1004, 1008, 1009] rfl (by decide +kernel)
set_option maxRecDepth 100000 in
theorem gL_law_X6_likely : GoodIn wsL_law (wsV RL 57 RX6 yX6_likely wsX6_likely) := goodIn_app (goodIn_of _ (by decide +kernel)) ggL_law_X6_likely
set_option maxRecDepth 100000 in
theorem ggL_law_X7_likely : GoodIn wsL_law wsX7_likely := goodIn_r _ [668, 584, 266, 340, 341, 342, 5, 343, 239, 315, 316, 317, 318, 585, 586, 587, 588, 589, 590, 591, 592, 242, 241, 240, 243, 593, 594, 595, 596, 264, 262, 263, 485, 486, 487, 488, 261, 489, 490, 491, 492, 246, 258, 256, 260, 257, 493, 494, 495, 496, 597, 598, 599, 600, 270, 601, 602, 603, 604, 265, 244, 267, 269, 605, 606, 607, 608, 609, 610, 611, 612, 613, 614, 615, 616, 617, 618, 619, 620, 621, 622, 623, 624, 625, 626, 627, 628, 629, 630, 344, 345, 346, 347, 669, 670, 671, 672, 673, 631, 632, 633, 634, 635, 636, 637, 638, 935, 936, 937, 938, 939, 940, 941, 942, 943, 944, 945, 946, 947, 948, 949, 950, 951, 952, 953, 954, 955, 956, 957, 958, 959, 960, 961, 962, 963, 964, 965, 966, 967, 968, 969, 970, 971, 972, 973, 974, 975, 976, 977, 978, 979, 980, 981] rfl (by decide +kernel)
set_option maxRecDepth 100000 in
theorem gL_law_X7_likely : GoodIn wsL_law (wsV RL 61 RX7 yX7_likely wsX7_likely) := goodIn_app (goodIn_of _ (by decide +kernel)) ggL_law_X7_likely
set_option maxRecDepth 100000 in
theorem ggL_law_X6_mean : GoodIn wsL_law wsX6_mean := goodIn_r _ [677, 501, 36, 328, 329, 330, 2, 331, 15, 14, 512, 513, 514, 515, 32, 17, 19, 461, 31, 462, 463, 62, 63, 61, 64, 464, 465, 221, 466, 516, 35, 517, 518, 71, 72, 73, 74, 75, 76, 678, 679, 680, 681, 682, 683, 684, 77, 467, 468, 469, 65, 470, 471, 138, 472, 473, 137, 139, 474, 475, 476, 477, 66, 478, 479, 480, 522, 523, 524, 525, 526, 527, 528, 529, 530, 531, 532, 533, 534, 535, 536, 537, 538, 539, 540, 541, 542, 543, 544, 545, 546, 547, 548, 549, 550, 551, 552, 553, 554, 555, 556, 557, 558, 559, 560, 561, 562, 563, 564, 685, 686, 687, 688, 689, 690, 691, 692, 693, 694, 695, 696, 568, 569, 570, 697, 698, 699, 700, 701, 702, 703, 704, 705, 706, 707, 708, 332, 296, 333, 334, 300, 657, 658, 659, 660, 571, 572, 573, 574, 575, 576, 577, 578, 579, 1010, 1011, 1012, 1013, 1014, 1015, 1016, 920, 921, 922, 923, 924, 925, 926, 927, 928, 929, 930, 931, 932, 933, 934, 992, 993, 994, 995, 996, 997, 998, 999, 1000, 1001, 1002, 1003, 1004, 1008, 1009] rfl (by decide +kernel)
set_option maxRecDepth 100000 in
theorem gL_law_X6_mean : GoodIn wsL_law (wsV RL 62 RX6 yX6_mean wsX6_mean) := goodIn_app (goodIn_of _ (by decide +kernel)) ggL_law_X6_mean
set_option maxRecDepth 100000 in
theorem ggL_law_X7_mean : GoodIn wsL_law wsX7_mean := goodIn_r _ [712, 584, 242, 241, 240, 243, 271, 340, 341, 342, 5, 343, 239, 315, 316, 317, 318, 593, 594, 595, 596, 264, 262, 263, 485, 486, 487, 488, 261, 489, 490, 491, 492, 246, 258, 256, 260, 257, 493, 494, 495, 496, 713, 714, 715, 716, 597, 598, 599, 600, 270, 601, 602, 603, 604, 265, 244, 266, 267, 269, 605, 606, 607, 608, 609, 610, 611, 612, 613, 614, 615, 616, 617, 618, 619, 620, 621, 622, 623, 624, 625, 626, 627, 628, 629, 630, 717, 718, 719, 720, 721, 722, 723, 724, 273, 272, 275, 274, 725, 726, 727, 728, 729, 730, 731, 732, 733, 344, 345, 346, 347, 669, 670, 671, 672, 673, 631, 632, 633, 634, 635, 636, 637, 638, 935, 936, 937, 938, 939, 940, 941, 942, 943, 944, 945, 946, 947, 948, 949, 950, 951, 952, 953, 954, 955, 956, 957, 958, 959, 960, 961, 962, 963, 964, 965, 966, 967, 968, 969, 970, 971, 972, 973, 974, 975, 976, 977, 978, 979, 980, 981] rfl (by decide +kernel)
set_option maxRecDepth 100000 in
theorem gL_law_X7_mean : GoodIn wsL_law (wsV RL 66 RX7 yX7_mean wsX7_mean) := goodIn_app (goodIn_of _ (by decide +kernel)) ggL_law_X7_mean
set_option maxRecDepth 100000 in
theorem ggL_law_X6_off : GoodIn wsL_law wsX6_off := goodIn_r _ [737, 501, 328, 329, 330, 2, 331, 15, 14, 505, 506, 507, 738, 739, 740, 741, 36, 512, 513, 514, 515, 32, 17, 19, 461, 31, 462, 463, 62, 63, 61, 64, 464, 465, 221, 466, 516, 35, 517, 518, 71, 72, 73, 74, 75, 76, 678, 679, 680, 681, 682, 683, 684, 77, 467, 468, 469, 65, 470, 471, 138, 472, 473, 137, 139, 474, 475, 476, 477, 66, 478, 479, 480, 522, 523, 524, 525, 526, 527, 528, 529, 530, 531, 532, 533, 534, 535, 536, 537, 538, 539, 540, 541, 542, 543, 544, 545, 546, 547, 548, 549, 550, 551, 552, 553, 554, 555, 556, 557, 558, 559, 560, 561, 562, 563, 564, 685, 742, 332, 296, 333, 334, 300, 657, 658, 659, 660, 571, 572, 573, 574, 575, 576, 577, 578, 579, 1010, 1011, 1012, 1013, 1014, 1015, 1016, 920, 921, 922, 923, 924, 925, 926, 927, 928, 929, 930, 931, 932, 933, 934, 992, 993, 994, 995, 996, 997, 998, 999, 1000, 1001, 1002, 1003, 1004, 1008, 1009] rfl (by decide +kernel)
set_option maxRecDepth 100000 in
theorem gL_law_X6_off : GoodIn wsL_law (wsV RL 67 RX6 yX6_off wsX6_off) := goodIn_app (goodIn_of _ (by decide +kernel)) ggL_law_X6_off
set_option maxRecDepth 100000 in
theorem ggL_law_X7_off : GoodIn wsL_law wsX7_off := goodIn_r _ [746, 584, 242, 241, 240, 243, 340, 341, 342, 5, 343, 239, 315, 316, 317, 318, 593, 594, 595, 596, 264, 262, 263, 485, 486, 487, 488, 261, 489, 490, 491, 492, 246, 258, 256, 260, 257, 493, 494, 495, 496, 713, 714, 715, 716, 271, 597, 598, 599, 600, 270, 601, 602, 603, 604, 265, 244, 266, 267, 269, 605, 606, 607, 608, 609, 610, 611, 612, 613, 614, 615, 616, 617, 618, 619, 620, 621, 622, 623, 624, 625, 626, 627, 628, 629, 630, 717, 718, 719, 720, 730, 731, 732, 733, 344, 345, 346, 347, 669, 670, 671, 672, 673, 631, 632, 633, 634, 635, 636, 637, 638, 935, 936, 937, 938, 939, 940, 941, 942, 943, 944, 945, 946, 947, 948, 949, 950, 951, 952, 953, 954, 955, 956, 957, 958, 959, 960, 961, 962, 963, 964, 965, 966, 967, 968, 969, 970, 971, 972, 973, 974, 975, 976, 977, 978, 979, 980, 981] rfl (by decide +kernel)
set_option maxRecDepth 100000 in
theorem gL_law_X7_off : GoodIn wsL_law (wsV RL 70 RX7 yX7_off wsX7_off) := goodIn_app (goodIn_of _ (by decide +kernel)) ggL_law_X7_off
set_option maxRecDepth 100000 in
theorem ggL_law_X6_rule : GoodIn wsL_law wsX6_rule := goodIn_r _ [750, 751, 328, 329, 330, 2, 331, 15, 14, 738, 739, 740, 741, 36, 512, 513, 514, 515, 32, 17, 19, 461, 31, 462, 463, 62, 63, 61, 64, 464, 465, 221, 466, 516, 35, 517, 518, 71, 72, 73, 74, 75, 76, 678, 679, 680, 681, 682, 683, 684, 77, 467, 468, 469, 65, 470, 471, 138, 472, 473, 137, 139, 474, 475, 476, 477, 66, 478, 479, 480, 522, 523, 524, 525, 526, 527, 528, 529, 530, 531, 532, 533, 534, 535, 536, 537, 538, 539, 540, 541, 542, 543, 544, 545, 546, 547, 548, 549, 550, 551, 552, 553, 554, 555, 556, 557, 558, 559, 560, 561, 562, 563, 564, 685, 1010, 1011, 1012, 1013, 1014, 1015, 1016, 920, 921, 922, 923, 924, 925, 926, 927, 928, 929, 930, 931, 932, 933, 934, 992, 993, 994, 995, 996, 997, 998, 999, 1000, 1001, 1002, 1003, 1004, 1008, 1009] rfl (by decide +kernel)
set_option maxRecDepth 100000 in
theorem gL_law_X6_rule : GoodIn wsL_law (wsV RL 71 RX6 yX6_rule wsX6_rule) := goodIn_app (goodIn_of _ (by decide +kernel)) ggL_law_X6_rule
set_option maxRecDepth 100000 in
theorem ggL_law_X7_rule : GoodIn wsL_law wsX7_rule := goodIn_r _ [755, 242, 725, 241, 240, 243, 340, 341, 342, 5, 343, 239, 315, 316, 317, 318, 593, 594, 595, 596, 264, 262, 263, 485, 486, 487, 488, 261, 489, 490, 491, 492, 246, 258, 256, 260, 257, 493, 494, 495, 496, 713, 714, 715, 716, 271, 597, 598, 599, 600, 270, 601, 602, 603, 604, 265, 244, 266, 267, 269, 605, 606, 607, 608, 609, 610, 611, 612, 613, 614, 615, 616, 617, 618, 619, 620, 621, 622, 623, 624, 625, 626, 627, 628, 629, 630, 717, 718, 719, 720, 935, 936, 937, 938, 939, 940, 941, 942, 943, 944, 945, 946, 947, 948, 949, 950, 951, 952, 953, 954, 955, 956, 957, 958, 959, 960, 961, 962, 963, 964, 965, 966, 967, 968, 969, 970, 971, 972, 973, 974, 975, 976, 977, 978, 979, 980, 981] rfl (by decide +kernel)
set_option maxRecDepth 100000 in
theorem gL_law_X7_rule : GoodIn wsL_law (wsV RL 74 RX7 yX7_rule wsX7_rule) := goodIn_app (goodIn_of _ (by decide +kernel)) ggL_law_X7_rule
set_option maxRecDepth 100000 in
theorem ggL_law_X6_room : GoodIn wsL_law wsX6_room := goodIn_r _ [759, 15, 14, 38, 36, 760, 761, 762, 2, 763, 24, 502, 503, 504, 508, 509, 510, 511, 512, 513, 514, 515, 32, 17, 19, 461, 31, 462, 463, 62, 63, 61, 64, 464, 465, 221, 466, 516, 35, 517, 518, 71, 72, 73, 74, 75, 76, 519, 520, 521, 522, 523, 524, 525, 77, 526, 467, 468, 469, 65, 470, 471, 138, 472, 473, 137, 139, 474, 475, 476, 477, 66, 478, 479, 480, 527, 528, 529, 530, 531, 532, 533, 534, 535, 536, 537, 538, 539, 540, 541, 542, 543, 544, 545, 546, 547, 548, 549, 550, 551, 552, 553, 554, 555, 556, 557, 558, 559, 560, 561, 562, 563, 564, 764, 765, 766, 767, 696, 568, 569, 570, 768, 661, 662, 663, 664, 643, 644, 645, 769, 770, 771, 772, 751, 920, 921, 922, 923, 924, 925, 926, 927, 928, 929, 930, 931, 932, 933, 934, 1005, 1006, 1007, 1010, 1011, 1012, 1013, 1014, 1015, 1016, 992, 993, 994, 995, 996, 997, 998, 999, 1000, 1001, 1002, 1003, 1004, 1008, 1009] rfl (by decide +kernel)
set_option maxRecDepth 100000 in
theorem gL_law_X6_room : GoodIn wsL_law (wsV RL 75 RX6 yX6_room wsX6_room) := goodIn_app (goodIn_of _ (by decide +kernel)) ggL_law_X6_room
set_option maxRecDepth 100000 in
theorem ggL_law_X7_room : GoodIn wsL_law wsX7_room := goodIn_r _ [776, 239, 283, 284, 285, 276, 777, 266, 315, 316, 317, 5, 318, 778, 779, 780, 781, 585, 586, 587, 588, 589, 590, 591, 592, 242, 241, 240, 243, 593, 594, 595, 596, 264, 262, 263, 485, 486, 487, 488, 261, 489, 490, 491, 492, 246, 258, 256, 260, 257, 493, 494, 495, 496, 597, 598, 599, 600, 270, 601, 602, 603, 604, 265, 244, 267, 269, 605, 606, 607, 608, 609, 610, 611, 612, 613, 614, 615, 616, 617, 618, 619, 620, 621, 622, 623, 624, 625, 626, 627, 628, 629, 630, 935, 936, 937, 938, 939, 940, 941, 942, 943, 944, 945, 946, 947, 948, 949, 950, 951, 952, 953, 954, 955, 956, 957, 958, 959, 960, 961, 962, 963, 964, 965, 966, 967, 968, 969, 970, 971, 972, 973, 974, 975, 976, 977, 978, 979, 980, 981] rfl (by decide +kernel)
set_option maxRecDepth 100000 in
theorem gL_law_X7_room : GoodIn wsL_law (wsV RL 78 RX7 yX7_room wsX7_room) := goodIn_app (goodIn_of _ (by decide +kernel)) ggL_law_X7_room
set_option maxRecDepth 100000 in
theorem ggL_law_X6_summer : GoodIn wsL_law wsX6_summer := goodIn_r _ [785, 36, 786, 328, 329, 330, 2, 331, 15, 14, 565, 35, 566, 567, 71, 544, 545, 546, 547, 137, 138, 139, 543, 471, 472, 787, 296, 788, 789, 790, 300, 578, 579, 332, 333, 334, 920, 921, 922, 923, 924, 925, 926, 927, 928, 929, 930, 931, 932, 933, 934, 1010, 1011, 1012, 1013, 1014, 1015, 1016, 998, 999, 1000, 1001, 1002, 1003, 1004] rfl (by decide +kernel)
set_option maxRecDepth 100000 in
theorem gL_law_X6_summer : GoodIn wsL_law (wsV RL 79 RX6 yX6_summer wsX6_summer) := goodIn_app (goodIn_of _ (by decide +kernel)) ggL_law_X6_summer
set_option maxRecDepth 100000 in
theorem ggL_law_X7_summer : GoodIn wsL_law wsX7_summer := goodIn_r _ [794, 277, 244, 340, 341, 342, 5, 343, 239, 315, 316, 317, 318, 795, 796, 797, 798, 799, 635, 636, 637, 638, 344, 345, 346, 347, 935, 936, 937, 938, 939, 940, 941, 942, 943, 944, 945, 946, 947, 948, 949, 950, 951, 952, 953, 954, 955, 956, 957, 958, 959, 960, 961, 962, 963, 964, 965, 966, 967, 968, 969, 970, 971, 972, 973, 974, 975, 976, 977, 978, 979, 980, 981] rfl (by decide +kernel)
set_option maxRecDepth 100000 in
theorem gL_law_X7_summer : GoodIn wsL_law (wsV RL 82 RX7 yX7_summer wsX7_summer) := goodIn_app (goodIn_of _ (by decide +kernel)) ggL_law_X7_summer
set_option maxRecDepth 100000 in
theorem ggL_law_X6_test : GoodIn wsL_law wsX6_test := goodIn_r _ [803, 36, 328, 329, 330, 2, 331, 15, 14, 502, 503, 504, 508, 509, 510, 511, 512, 513, 514, 515, 32, 17, 19, 461, 31, 462, 463, 62, 63, 61, 64, 464, 465, 221, 466, 516, 35, 517, 518, 71, 72, 73, 74, 75, 76, 519, 520, 521, 522, 523, 524, 525, 77, 526, 467, 468, 469, 65, 470, 471, 138, 472, 473, 137, 139, 474, 475, 476, 477, 66, 478, 479, 480, 527, 528, 529, 530, 531, 532, 533, 534, 535, 536, 537, 538, 539, 540, 541, 542, 543, 544, 545, 546, 547, 548, 549, 550, 551, 552, 553, 554, 555, 556, 557, 558, 559, 560, 561, 562, 563, 564, 565, 566, 567, 787, 296, 788, 789, 790, 300, 578, 579, 643, 644, 645, 920, 921, 922, 923, 924, 925, 926, 927, 928, 929, 930, 931, 932, 933, 934, 1010, 1011, 1012, 1013, 1014, 1015, 1016, 992, 993, 994, 995, 996, 997, 998, 999, 1000, 1001, 1002, 1003, 1004, 1008, 1009] rfl (by decide +kernel)
set_option maxRecDepth 100000 in
theorem gL_law_X6_test : GoodIn wsL_law (wsV RL 83 RX6 yX6_test wsX6_test) := goodIn_app (goodIn_of _ (by decide +kernel)) ggL_law_X6_test
set_option maxRecDepth 100000 in
theorem ggL_law_X7_test : GoodIn wsL_law wsX7_test := goodIn_r _ [807, 277, 265, 241, 266, 340, 341, 342, 5, 343, 239, 315, 316, 317, 318, 585, 586, 587, 588, 589, 590, 591, 592, 242, 240, 243, 593, 594, 595, 596, 264, 262, 263, 485, 486, 487, 488, 261, 489, 490, 491, 492, 246, 258, 256, 260, 257, 493, 494, 495, 496, 597, 598, 599, 600, 270, 601, 602, 603, 604, 244, 267, 269, 605, 606, 607, 608, 609, 610, 611, 612, 613, 614, 615, 616, 617, 618, 619, 620, 621, 622, 623, 624, 625, 626, 627, 628, 629, 630, 795, 796, 797, 798, 799, 635, 636, 637, 638, 935, 936, 937, 938, 939, 940, 941, 942, 943, 944, 945, 946, 947, 948, 949, 950, 951, 952, 953, 954, 955, 956, 957, 958, 959, 960, 961, 962, 963, 964, 965, 966, 967, 968, 969, 970, 971, 972, 973, 974, 975, 976, 977, 978, 979, 980, 981] rfl (by decide +kernel)
set_option maxRecDepth 100000 in
theorem gL_law_X7_test : GoodIn wsL_law (wsV RL 86 RX7 yX7_test wsX7_test) := goodIn_app (goodIn_of _ (by decide +kernel)) ggL_law_X7_test
set_option maxRecDepth 100000 in
theorem ggL_law_X6_cut : GoodIn wsL_law wsX6_cut := goodIn_r _ [811, 760, 761, 762, 2, 763, 24, 812, 43, 813, 814, 82, 83, 815, 816, 817, 818, 690, 691, 692, 693, 694, 695, 819, 820, 821, 1005, 1006, 1007, 920, 921, 922, 923, 924, 925, 926, 927, 928, 929, 930, 931, 932, 933, 934] rfl (by decide +kernel)
set_option maxRecDepth 100000 in
theorem gL_law_X6_cut : GoodIn wsL_law (wsV RL 87 RX6 yX6_cut wsX6_cut) := goodIn_app (goodIn_of _ (by decide +kernel)) ggL_law_X6_cut
set_option maxRecDepth 100000 in
theorem ggL_law_X7_cut : GoodIn wsL_law wsX7_cut := goodIn_r _ [825, 283, 284, 285, 315, 316, 317, 5, 318, 778, 779, 780, 781, 935, 936, 937, 938, 939, 940, 941, 942, 943, 944, 945, 946, 947, 948, 949, 950, 951, 952, 953, 954, 955, 956, 957, 958, 959, 960, 961, 962, 963, 964, 965, 966, 967, 968, 969, 970, 971, 972, 973, 974, 975, 976, 977, 978, 979, 980, 981] rfl (by decide +kernel)
set_option maxRecDepth 100000 in
theorem gL_law_X7_cut : GoodIn wsL_law (wsV RL 90 RX7 yX7_cut wsX7_cut) := goodIn_app (goodIn_of _ (by decide +kernel)) ggL_law_X7_cut
set_option maxRecDepth 100000 in
theorem ggL_law_X6_image : GoodIn wsL_law wsX6_image := goodIn_r _ [829, 15, 14, 39, 40, 19, 41, 830, 296, 831, 832, 304, 301, 300, 302, 833, 227, 228, 229, 920, 921, 922, 923, 924, 925, 926, 927, 928, 929, 930, 931, 932, 933, 934, 1010, 1011, 1012, 1013, 1014, 1015, 1016] rfl (by decide +kernel)
set_option maxRecDepth 100000 in
theorem gL_law_X6_image : GoodIn wsL_law (wsV RL 91 RX6 yX6_image wsX6_image) := goodIn_app (goodIn_of _ (by decide +kernel)) ggL_law_X6_image
set_option maxRecDepth 100000 in
theorem ggL_law_X7_image : GoodIn wsL_law wsX7_image := goodIn_r _ [837, 278, 239, 279, 246, 280, 281, 244, 282, 241, 935, 936, 937, 938, 939, 940, 941, 942, 943, 944, 945, 946, 947, 948, 949, 950, 951, 952, 953, 954, 955, 956, 957, 958, 959, 960, 961, 962, 963, 964, 965, 966, 967, 968, 969, 970, 971, 972, 973, 974, 975, 976, 977, 978, 979, 980, 981] rfl (by decide +kernel)
set_option maxRecDepth 100000 in
theorem gL_law_X7_image : GoodIn wsL_law (wsV RL 94 RX7 yX7_image wsX7_image) := goodIn_app (goodIn_of _ (by decide +kernel)) ggL_law_X7_image
set_option maxRecDepth 100000 in
theorem ggL_law_X6_back : GoodIn wsL_law wsX6_back := goodIn_r _ [841, 39, 40, 15, 14, 41, 19, 842, 296, 843, 844, 301, 304, 302, 300, 833, 227, 228, 229, 920, 921, 922, 923, 924, 925, 926, 927, 928, 929, 930, 931, 932, 933, 934, 1010, 1011, 1012, 1013, 1014, 1015, 1016] rfl (by decide +kernel)
set_option maxRecDepth 100000 in
theorem gL_law_X6_back : GoodIn wsL_law (wsV RL 95 RX6 yX6_back wsX6_back) := goodIn_app (goodIn_of _ (by decide +kernel)) ggL_law_X6_back
set_option maxRecDepth 100000 in
theorem ggL_law_X7_back : GoodIn wsL_law wsX7_back := goodIn_r _ [848, 278, 280, 246, 279, 244, 281, 241, 282, 239, 935, 936, 937, 938, 939, 940, 941, 942, 943, 944, 945, 946, 947, 948, 949, 950, 951, 952, 953, 954, 955, 956, 957, 958, 959, 960, 961, 962, 963, 964, 965, 966, 967, 968, 969, 970, 971, 972, 973, 974, 975, 976, 977, 978, 979, 980, 981] rfl (by decide +kernel)
set_option maxRecDepth 100000 in
theorem gL_law_X7_back : GoodIn wsL_law (wsV RL 98 RX7 yX7_back wsX7_back) := goodIn_app (goodIn_of _ (by decide +kernel)) ggL_law_X7_back
set_option maxRecDepth 100000 in
theorem ggL_law_X6_count : GoodIn wsL_law wsX6_count := goodIn_r _ [852, 15, 18, 22, 19, 853, 854, 855, 2, 856, 14, 332, 296, 333, 334, 300, 857, 858, 859, 860, 920, 921, 922, 923, 924, 925, 926, 927, 928, 929, 930, 931, 932, 933, 934, 1010, 1011, 1012, 1013, 1014, 1015, 1016] rfl (by decide +kernel)
set_option maxRecDepth 100000 in
theorem gL_law_X6_count : GoodIn wsL_law (wsV RL 99 RX6 yX6_count wsX6_count) := goodIn_app (goodIn_of _ (by decide +kernel)) ggL_law_X6_count
set_option maxRecDepth 100000 in
theorem ggL_law_X7_count : GoodIn wsL_law wsX7_count := goodIn_r _ [864, 239, 241, 245, 247, 246, 344, 345, 346, 5, 347, 244, 935, 936, 937, 938, 939, 940, 941, 942, 943, 944, 945, 946, 947, 948, 949, 950, 951, 952, 953, 954, 955, 956, 957, 958, 959, 960, 961, 962, 963, 964, 965, 966, 967, 968, 969, 970, 971, 972, 973, 974, 975, 976, 977, 978, 979, 980, 981] rfl (by decide +kernel)
set_option maxRecDepth 100000 in
theorem gL_law_X7_count : GoodIn wsL_law (wsV RL 102 RX7 yX7_count wsX7_count) := goodIn_app (goodIn_of _ (by decide +kernel)) ggL_law_X7_count
set_option maxRecDepth 100000 in
theorem ggL_law_X6_sheet : GoodIn wsL_law wsX6_sheet := goodIn_r _ [868, 760, 761, 762, 2, 763, 24, 869, 43, 870, 871, 81, 82, 83, 872, 873, 221, 874, 920, 921, 922, 923, 924, 925, 926, 927, 928, 929, 930, 931, 932, 933, 934, 1005, 1006, 1007] rfl (by decide +kernel)
set_option maxRecDepth 100000 in
theorem gL_law_X6_sheet : GoodIn wsL_law (wsV RL 103 RX6 yX6_sheet wsX6_sheet) := goodIn_app (goodIn_of _ (by decide +kernel)) ggL_law_X6_sheet
set_option maxRecDepth 100000 in
theorem ggL_law_X7_sheet : GoodIn wsL_law wsX7_sheet := goodIn_r _ [878, 283, 284, 285, 778, 779, 780, 5, 781, 315, 316, 317, 318, 935, 936, 937, 938, 939, 940, 941, 942, 943, 944, 945, 946, 947, 948, 949, 950, 951, 952, 953, 954, 955, 956, 957, 958, 959, 960, 961, 962, 963, 964, 965, 966, 967, 968, 969, 970, 971, 972, 973, 974, 975, 976, 977, 978, 979, 980, 981] rfl (by decide +kernel)
set_option maxRecDepth 100000 in
theorem gL_law_X7_sheet : GoodIn wsL_law (wsV RL 106 RX7 yX7_sheet wsX7_sheet) := goodIn_app (goodIn_of _ (by decide +kernel)) ggL_law_X7_sheet
set_option maxRecDepth 100000 in
theorem ggL_law_X6_cell : GoodIn wsL_law wsX6_cell := goodIn_r _ [882, 760, 761, 762, 2, 763, 24, 883, 43, 884, 885, 81, 1005, 1006, 1007, 920, 921, 922, 923, 924, 925, 926, 927, 928, 929, 930, 931, 932, 933, 934] rfl (by decide +kernel)
set_option maxRecDepth 100000 in
theorem gL_law_X6_cell : GoodIn wsL_law (wsV RL 107 RX6 yX6_cell wsX6_cell) := goodIn_app (goodIn_of _ (by decide +kernel)) ggL_law_X6_cell
set_option maxRecDepth 100000 in
theorem ggL_law_X7_cell : GoodIn wsL_law wsX7_cell := goodIn_r _ [889, 283, 284, 285, 778, 779, 780, 5, 781, 315, 316, 317, 318, 935, 936, 937, 938, 939, 940, 941, 942, 943, 944, 945, 946, 947, 948, 949, 950, 951, 952, 953, 954, 955, 956, 957, 958, 959, 960, 961, 962, 963, 964, 965, 966, 967, 968, 969, 970, 971, 972, 973, 974, 975, 976, 977, 978, 979, 980, 981] rfl (by decide +kernel)
set_option maxRecDepth 100000 in
theorem gL_law_X7_cell : GoodIn wsL_law (wsV RL 110 RX7 yX7_cell wsX7_cell) := goodIn_app (goodIn_of _ (by decide +kernel)) ggL_law_X7_cell
set_option maxRecDepth 100000 in
theorem ggL_law_X6_copy : GoodIn wsL_law wsX6_copy := goodIn_r _ [893, 894, 227, 228, 229, 760, 761, 762, 2, 763, 24, 1005, 1006, 1007, 920, 921, 922, 923, 924, 925, 926, 927, 928, 929, 930, 931, 932, 933, 934] rfl (by decide +kernel)
set_option maxRecDepth 100000 in
theorem gL_law_X6_copy : GoodIn wsL_law (wsV RL 111 RX6 yX6_copy wsX6_copy) := goodIn_app (goodIn_of _ (by decide +kernel)) ggL_law_X6_copy
set_option maxRecDepth 100000 in
theorem ggL_law_X7_copy : GoodIn wsL_law wsX7_copy := goodIn_r _ [898, 283, 284, 286, 285, 778, 779, 780, 5, 781, 315, 316, 317, 318, 935, 936, 937, 938, 939, 940, 941, 942, 943, 944, 945, 946, 947, 948, 949, 950, 951, 952, 953, 954, 955, 956, 957, 958, 959, 960, 961, 962, 963, 964, 965, 966, 967, 968, 969, 970, 971, 972, 973, 974, 975, 976, 977, 978, 979, 980, 981] rfl (by decide +kernel)
set_option maxRecDepth 100000 in
theorem gL_law_X7_copy : GoodIn wsL_law (wsV RL 115 RX7 yX7_copy wsX7_copy) := goodIn_app (goodIn_of _ (by decide +kernel)) ggL_law_X7_copy
set_option maxRecDepth 100000 in
theorem ggL_law_X6_pupils : GoodIn wsL_law wsX6_pupils := goodIn_r _ [902, 760, 761, 762, 2, 763, 24, 903, 292, 293, 294, 15, 14, 13, 295, 296, 297, 298, 299, 11, 12, 53, 300, 301, 302, 303, 304, 305, 306, 1005, 1006, 1007, 920, 921, 922, 923, 924, 925, 926, 927, 928, 929, 930, 931, 932, 933, 934, 1010, 1011, 1012, 1013, 1014, 1015, 1016] rfl (by decide +kernel)
set_option maxRecDepth 100000 in
theorem gL_law_X6_pupils : GoodIn wsL_law (wsV RL 116 RX6 yX6_pupils wsX6_pupils) := goodIn_app (goodIn_of _ (by decide +kernel)) ggL_law_X6_pupils
set_option maxRecDepth 100000 in
theorem ggL_law_X7_pupils : GoodIn wsL_law wsX7_pupils := goodIn_r _ [907, 283, 284, 285, 239, 778, 779, 780, 5, 781, 315, 316, 317, 318, 311, 312, 313, 314, 319, 320, 321, 322, 240, 241, 242, 243, 244, 935, 936, 937, 938, 939, 940, 941, 942, 943, 944, 945, 946, 947, 948, 949, 950, 951, 952, 953, 954, 955, 956, 957, 958, 959, 960, 961, 962, 963, 964, 965, 966, 967, 968, 969, 970, 971, 972, 973, 974, 975, 976, 977, 978, 979, 980, 981] rfl (by decide +kernel)
set_option maxRecDepth 100000 in
theorem gL_law_X7_pupils : GoodIn wsL_law (wsV RL 120 RX7 yX7_pupils wsX7_pupils) := goodIn_app (goodIn_of _ (by decide +kernel)) ggL_law_X7_pupils
set_option maxRecDepth 100000 in
theorem ggL_law_X6_taken : GoodIn wsL_law wsX6_taken := goodIn_r _ [911, 328, 329, 330, 2, 331, 15, 14, 912, 913, 914, 915, 1010, 1011, 1012, 1013, 1014, 1015, 1016, 920, 921, 922, 923, 924, 925, 926, 927, 928, 929, 930, 931, 932, 933, 934] rfl (by decide +kernel)
set_option maxRecDepth 100000 in
theorem gL_law_X6_taken : GoodIn wsL_law (wsV RL 121 RX6 yX6_taken wsX6_taken) := goodIn_app (goodIn_of _ (by decide +kernel)) ggL_law_X6_taken
set_option maxRecDepth 100000 in
theorem ggL_law_X7_taken : GoodIn wsL_law wsX7_taken := goodIn_r _ [919, 240, 243, 315, 316, 317, 5, 318, 340, 341, 342, 343, 239, 935, 936, 937, 938, 939, 940, 941, 942, 943, 944, 945, 946, 947, 948, 949, 950, 951, 952, 953, 954, 955, 956, 957, 958, 959, 960, 961, 962, 963, 964, 965, 966, 967, 968, 969, 970, 971, 972, 973, 974, 975, 976, 977, 978, 979, 980, 981] rfl (by decide +kernel)
set_option maxRecDepth 100000 in
theorem gL_law_X7_taken : GoodIn wsL_law (wsV RL 124 RX7 yX7_taken wsX7_taken) := goodIn_app (goodIn_of _ (by decide +kernel)) ggL_law_X7_taken
