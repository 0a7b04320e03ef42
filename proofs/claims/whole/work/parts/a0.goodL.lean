/-! ===== the law: its calls' words ===== -/
set_option maxRecDepth 20000 in
theorem ggL_law_X7_init : GoodIn wsL_law wsX7_init := goodIn_r _ [8, 9, 10, 11, 12, 13, 14, 15, 16, 17, 18, 19, 20, 21, 22, 23, 24, 25, 26, 27, 28, 29, 30, 31, 32, 33, 34, 35, 36, 37, 38, 39, 40, 41, 42, 43, 44, 45, 46, 47, 48, 49, 50, 51, 52, 53, 54, 55, 56, 57, 58, 59, 60, 61, 62, 63, 64, 65, 66, 67, 68, 69, 70, 71, 72, 73, 74, 75, 76, 77, 78, 79, 80, 81, 82, 83, 921, 922, 923, 897, 898, 899, 900, 901, 902, 903, 904, 905, 924, 925, 926, 927, 928, 929, 930, 931, 932, 933, 934, 935, 936, 937, 938, 939, 940, 941, 942, 943, 944, 945] (by decide +kernel) (by decide +kernel)
set_option maxRecDepth 20000 in
theorem gL_law_X7_init : GoodIn wsL_law (wsX7_init) := ggL_law_X7_init
set_option maxRecDepth 20000 in
theorem ggL_law_X8_init : GoodIn wsL_law wsX8_init := goodIn_r _ [86, 87, 10, 11, 41, 88, 89, 90, 91, 92, 93, 94, 906, 907, 908, 909, 910, 911, 912, 913, 914, 915, 916, 917, 918, 919, 920] (by decide +kernel) (by decide +kernel)
set_option maxRecDepth 20000 in
theorem gL_law_X8_init : GoodIn wsL_law (wsX8_init) := ggL_law_X8_init
set_option maxRecDepth 20000 in
theorem ggL_law_X7_row : GoodIn wsL_law wsX7_row := goodIn_r _ [98, 99, 15, 100, 101, 2, 102, 103, 104, 105, 106, 107, 108, 109, 110, 111, 112, 113, 114, 14, 115, 42, 43, 45, 46, 47, 48, 49, 116, 117, 118, 119, 897, 898, 899, 900, 901, 902, 903, 904, 905, 921, 922, 923] (by decide +kernel) (by decide +kernel)
set_option maxRecDepth 20000 in
theorem gL_law_X7_row : GoodIn wsL_law (wsV RL 13 RX7 yX7_row wsX7_row) := goodIn_app (goodIn_of _ (by decide +kernel)) ggL_law_X7_row
set_option maxRecDepth 20000 in
theorem ggL_law_X8_row : GoodIn wsL_law wsX8_row := goodIn_r _ [123, 124, 125, 126, 90, 91, 92, 127, 128, 5, 129, 130, 131, 132, 133, 134, 135, 136, 137, 138, 906, 907, 908, 909, 910, 911, 912, 913, 914, 915, 916, 917, 918, 919, 920] (by decide +kernel) (by decide +kernel)
set_option maxRecDepth 20000 in
theorem gL_law_X8_row : GoodIn wsL_law (wsV RL 17 RX8 yX8_row wsX8_row) := goodIn_app (goodIn_of _ (by decide +kernel)) ggL_law_X8_row
set_option maxRecDepth 20000 in
theorem ggL_law_X7_set : GoodIn wsL_law wsX7_set := goodIn_r _ [142, 99, 15, 100, 101, 2, 102, 143, 144, 145, 14, 146, 42, 106, 107, 108, 109, 110, 111, 147, 148, 149, 150, 43, 151, 152, 153, 154, 45, 116, 117, 118, 119, 897, 898, 899, 900, 901, 902, 903, 904, 905, 921, 922, 923] (by decide +kernel) (by decide +kernel)
set_option maxRecDepth 20000 in
theorem gL_law_X7_set : GoodIn wsL_law (wsV RL 18 RX7 yX7_set wsX7_set) := goodIn_app (goodIn_of _ (by decide +kernel)) ggL_law_X7_set
set_option maxRecDepth 20000 in
theorem ggL_law_X8_set : GoodIn wsL_law wsX8_set := goodIn_r _ [158, 125, 126, 92, 91, 127, 128, 5, 129, 130, 131, 132, 133, 159, 160, 161, 162, 90, 134, 135, 136, 137, 138, 906, 907, 908, 909, 910, 911, 912, 913, 914, 915, 916, 917, 918, 919, 920] (by decide +kernel) (by decide +kernel)
set_option maxRecDepth 20000 in
theorem gL_law_X8_set : GoodIn wsL_law (wsV RL 21 RX8 yX8_set wsX8_set) := goodIn_app (goodIn_of _ (by decide +kernel)) ggL_law_X8_set
set_option maxRecDepth 20000 in
theorem ggL_law_X7_copy : GoodIn wsL_law wsX7_copy := goodIn_r _ [166, 99, 15, 167, 168, 169, 170, 100, 101, 2, 102, 143, 144, 145, 14, 146, 42, 106, 107, 108, 109, 110, 111, 147, 148, 149, 150, 43, 116, 117, 118, 119, 897, 898, 899, 900, 901, 902, 903, 904, 905, 921, 922, 923] (by decide +kernel) (by decide +kernel)
set_option maxRecDepth 20000 in
theorem gL_law_X7_copy : GoodIn wsL_law (wsV RL 22 RX7 yX7_copy wsX7_copy) := goodIn_app (goodIn_of _ (by decide +kernel)) ggL_law_X7_copy
set_option maxRecDepth 20000 in
theorem ggL_law_X8_copy : GoodIn wsL_law wsX8_copy := goodIn_r _ [174, 125, 90, 91, 126, 93, 92, 127, 128, 5, 129, 130, 131, 132, 133, 134, 135, 136, 137, 138, 159, 160, 161, 162, 906, 907, 908, 909, 910, 911, 912, 913, 914, 915, 916, 917, 918, 919, 920] (by decide +kernel) (by decide +kernel)
set_option maxRecDepth 20000 in
theorem gL_law_X8_copy : GoodIn wsL_law (wsV RL 26 RX8 yX8_copy wsX8_copy) := goodIn_app (goodIn_of _ (by decide +kernel)) ggL_law_X8_copy
set_option maxRecDepth 20000 in
theorem ggL_law_X7_drop : GoodIn wsL_law wsX7_drop := goodIn_r _ [178, 99, 15, 100, 101, 2, 102, 143, 144, 145, 14, 146, 42, 106, 107, 108, 109, 110, 111, 116, 117, 118, 119, 897, 898, 899, 900, 901, 902, 903, 904, 905, 921, 922, 923] (by decide +kernel) (by decide +kernel)
set_option maxRecDepth 20000 in
theorem gL_law_X7_drop : GoodIn wsL_law (wsV RL 27 RX7 yX7_drop wsX7_drop) := goodIn_app (goodIn_of _ (by decide +kernel)) ggL_law_X7_drop
set_option maxRecDepth 20000 in
theorem ggL_law_X8_drop : GoodIn wsL_law wsX8_drop := goodIn_r _ [182, 125, 90, 126, 127, 128, 5, 129, 130, 131, 132, 133, 134, 135, 136, 137, 138, 906, 907, 908, 909, 910, 911, 912, 913, 914, 915, 916, 917, 918, 919, 920] (by decide +kernel) (by decide +kernel)
set_option maxRecDepth 20000 in
theorem gL_law_X8_drop : GoodIn wsL_law (wsV RL 31 RX8 yX8_drop wsX8_drop) := goodIn_app (goodIn_of _ (by decide +kernel)) ggL_law_X8_drop
set_option maxRecDepth 20000 in
theorem ggL_law_X7_feed : GoodIn wsL_law wsX7_feed := goodIn_r _ [186, 99, 19, 187, 103, 104, 2, 105, 188, 189, 190, 18, 191, 192, 53, 897, 898, 899, 900, 901, 902, 903, 904, 905, 924, 925, 926] (by decide +kernel) (by decide +kernel)
set_option maxRecDepth 20000 in
theorem gL_law_X7_feed : GoodIn wsL_law (wsV RL 32 RX7 yX7_feed wsX7_feed) := goodIn_app (goodIn_of _ (by decide +kernel)) ggL_law_X7_feed
set_option maxRecDepth 20000 in
theorem ggL_law_X8_feed : GoodIn wsL_law wsX8_feed := goodIn_r _ [196, 197, 125, 198, 199, 89, 131, 132, 5, 133, 906, 907, 908, 909, 910, 911, 912, 913, 914, 915, 916, 917, 918, 919, 920] (by decide +kernel) (by decide +kernel)
set_option maxRecDepth 20000 in
theorem gL_law_X8_feed : GoodIn wsL_law (wsV RL 35 RX8 yX8_feed wsX8_feed) := goodIn_app (goodIn_of _ (by decide +kernel)) ggL_law_X8_feed
set_option maxRecDepth 20000 in
theorem ggL_law_X7_street : GoodIn wsL_law wsX7_street := goodIn_r _ [203, 27, 19, 204, 205, 23, 31, 206, 207, 208, 56, 209, 210, 211, 212, 213, 214, 215, 216, 217, 218, 219, 220, 221, 222, 18, 223, 192, 53, 224, 225, 226, 227, 228, 229, 230, 231, 232, 104, 2, 105, 233, 234, 235, 22, 236, 237, 238, 239, 240, 241, 242, 243, 244, 245, 246, 247, 248, 249, 250, 251, 252, 253, 254, 255, 256, 257, 64, 65, 66, 67, 68, 258, 259, 260, 261, 262, 168, 169, 170, 263, 264, 265, 30, 266, 267, 897, 898, 899, 900, 901, 902, 903, 904, 905, 937, 938, 924, 925, 926, 944, 945, 927, 928, 929, 930, 931, 932, 933, 934, 935, 936, 939, 940, 941] (by decide +kernel) (by decide +kernel)
set_option maxRecDepth 20000 in
theorem gL_law_X7_street : GoodIn wsL_law (wsV RL 36 RX7 yX7_street wsX7_street) := goodIn_app (goodIn_of _ (by decide +kernel)) ggL_law_X7_street
set_option maxRecDepth 20000 in
theorem ggL_law_X8_street : GoodIn wsL_law wsX8_street := goodIn_r _ [271, 88, 272, 198, 273, 274, 275, 276, 277, 278, 5, 279, 280, 281, 282, 283, 284, 285, 286, 287, 288, 289, 290, 291, 292, 89, 293, 294, 295, 296, 297, 298, 299, 300, 301, 302, 303, 124, 131, 132, 133, 304, 305, 306, 307, 308, 309, 310, 311, 312, 313, 314, 906, 907, 908, 909, 910, 911, 912, 913, 914, 915, 916, 917, 918, 919, 920] (by decide +kernel) (by decide +kernel)
set_option maxRecDepth 20000 in
theorem gL_law_X8_street : GoodIn wsL_law (wsV RL 40 RX8 yX8_street wsX8_street) := goodIn_app (goodIn_of _ (by decide +kernel)) ggL_law_X8_street
set_option maxRecDepth 20000 in
theorem ggL_law_X7_fault : GoodIn wsL_law wsX7_fault := goodIn_r _ [318, 204, 897, 898, 899, 900, 901, 902, 903, 904, 905] (by decide +kernel) (by decide +kernel)
set_option maxRecDepth 20000 in
theorem gL_law_X7_fault : GoodIn wsL_law (wsV RL 41 RX7 yX7_fault wsX7_fault) := goodIn_app (goodIn_of _ (by decide +kernel)) ggL_law_X7_fault
set_option maxRecDepth 20000 in
theorem ggL_law_X8_fault : GoodIn wsL_law wsX8_fault := goodIn_r _ [322, 297, 906, 907, 908, 909, 910, 911, 912, 913, 914, 915, 916, 917, 918, 919, 920] (by decide +kernel) (by decide +kernel)
set_option maxRecDepth 20000 in
theorem gL_law_X8_fault : GoodIn wsL_law (wsV RL 44 RX8 yX8_fault wsX8_fault) := goodIn_app (goodIn_of _ (by decide +kernel)) ggL_law_X8_fault
set_option maxRecDepth 20000 in
theorem ggL_law_X7_times : GoodIn wsL_law wsX7_times := goodIn_r _ [326, 327, 99, 23, 187, 31, 328, 329, 330, 2, 331, 103, 104, 105, 332, 333, 334, 30, 335, 79, 336, 267, 337, 338, 339, 340, 341, 259, 260, 22, 261, 64, 262, 168, 169, 170, 65, 66, 67, 68, 237, 238, 239, 240, 241, 342, 343, 344, 345, 346, 347, 348, 349, 350, 351, 352, 353, 354, 355, 356, 357, 358, 359, 360, 361, 362, 363, 364, 365, 366, 367, 368, 369, 370, 371, 372, 373, 374, 375, 376, 377, 378, 379, 380, 381, 897, 898, 899, 900, 901, 902, 903, 904, 905, 927, 928, 929, 930, 931, 932, 933, 934, 935, 936, 939, 940, 941] (by decide +kernel) (by decide +kernel)
set_option maxRecDepth 20000 in
theorem gL_law_X7_times : GoodIn wsL_law (wsV RL 45 RX7 yX7_times wsX7_times) := goodIn_app (goodIn_of _ (by decide +kernel)) ggL_law_X7_times
set_option maxRecDepth 20000 in
theorem ggL_law_X8_times : GoodIn wsL_law wsX8_times := goodIn_r _ [385, 386, 387, 125, 88, 199, 388, 389, 390, 5, 391, 131, 132, 133, 392, 393, 394, 395, 275, 311, 312, 313, 314, 396, 397, 398, 399, 400, 401, 402, 403, 404, 405, 406, 407, 408, 409, 410, 411, 412, 413, 414, 415, 416, 417, 418, 419, 420, 421, 422, 423, 424, 425, 906, 907, 908, 909, 910, 911, 912, 913, 914, 915, 916, 917, 918, 919, 920] (by decide +kernel) (by decide +kernel)
set_option maxRecDepth 20000 in
theorem gL_law_X8_times : GoodIn wsL_law (wsV RL 48 RX8 yX8_times wsX8_times) := goodIn_app (goodIn_of _ (by decide +kernel)) ggL_law_X8_times
set_option maxRecDepth 20000 in
theorem ggL_law_X7_open : GoodIn wsL_law wsX7_open := goodIn_r _ [429, 99, 23, 327, 31, 430, 431, 432, 2, 433, 434, 435, 436, 22, 437, 241, 332, 333, 334, 30, 335, 79, 336, 267, 337, 338, 339, 340, 341, 259, 260, 261, 64, 262, 168, 169, 170, 65, 66, 67, 68, 237, 238, 239, 240, 897, 898, 899, 900, 901, 902, 903, 904, 905, 927, 928, 929, 930, 931, 932, 933, 934, 935, 936, 939, 940, 941] (by decide +kernel) (by decide +kernel)
set_option maxRecDepth 20000 in
theorem gL_law_X7_open : GoodIn wsL_law (wsV RL 49 RX7 yX7_open wsX7_open) := goodIn_app (goodIn_of _ (by decide +kernel)) ggL_law_X7_open
set_option maxRecDepth 20000 in
theorem ggL_law_X8_open : GoodIn wsL_law wsX8_open := goodIn_r _ [441, 125, 88, 386, 442, 443, 444, 5, 445, 131, 132, 133, 400, 401, 402, 392, 393, 394, 395, 275, 311, 312, 313, 314, 906, 907, 908, 909, 910, 911, 912, 913, 914, 915, 916, 917, 918, 919, 920] (by decide +kernel) (by decide +kernel)
set_option maxRecDepth 20000 in
theorem gL_law_X8_open : GoodIn wsL_law (wsV RL 52 RX8 yX8_open wsX8_open) := goodIn_app (goodIn_of _ (by decide +kernel)) ggL_law_X8_open
set_option maxRecDepth 20000 in
theorem ggL_law_X7_press : GoodIn wsL_law wsX7_press := goodIn_r _ [449, 99, 23, 327, 31, 430, 431, 432, 2, 433, 434, 435, 436, 22, 437, 241, 332, 333, 334, 30, 335, 79, 336, 267, 337, 338, 339, 340, 341, 259, 260, 261, 64, 262, 168, 169, 170, 65, 66, 67, 68, 237, 238, 239, 240, 897, 898, 899, 900, 901, 902, 903, 904, 905, 927, 928, 929, 930, 931, 932, 933, 934, 935, 936, 939, 940, 941] (by decide +kernel) (by decide +kernel)
set_option maxRecDepth 20000 in
theorem gL_law_X7_press : GoodIn wsL_law (wsV RL 53 RX7 yX7_press wsX7_press) := goodIn_app (goodIn_of _ (by decide +kernel)) ggL_law_X7_press
set_option maxRecDepth 20000 in
theorem ggL_law_X8_press : GoodIn wsL_law wsX8_press := goodIn_r _ [453, 125, 88, 386, 442, 443, 444, 5, 445, 131, 132, 133, 400, 401, 402, 392, 393, 394, 395, 275, 311, 312, 313, 314, 906, 907, 908, 909, 910, 911, 912, 913, 914, 915, 916, 917, 918, 919, 920] (by decide +kernel) (by decide +kernel)
set_option maxRecDepth 20000 in
theorem gL_law_X8_press : GoodIn wsL_law (wsV RL 56 RX8 yX8_press wsX8_press) := goodIn_app (goodIn_of _ (by decide +kernel)) ggL_law_X8_press
set_option maxRecDepth 20000 in
theorem ggL_law_X7_glue : GoodIn wsL_law wsX7_glue := goodIn_r _ [457, 99, 31, 23, 458, 338, 339, 340, 430, 431, 432, 2, 433, 103, 104, 105, 332, 333, 334, 30, 335, 79, 336, 267, 337, 341, 259, 260, 22, 261, 64, 262, 168, 169, 170, 65, 66, 67, 68, 237, 238, 239, 240, 241, 897, 898, 899, 900, 901, 902, 903, 904, 905, 927, 928, 929, 930, 931, 932, 933, 934, 935, 936, 939, 940, 941] (by decide +kernel) (by decide +kernel)
set_option maxRecDepth 20000 in
theorem gL_law_X7_glue : GoodIn wsL_law (wsV RL 57 RX7 yX7_glue wsX7_glue) := goodIn_app (goodIn_of _ (by decide +kernel)) ggL_law_X7_glue
set_option maxRecDepth 20000 in
theorem ggL_law_X8_glue : GoodIn wsL_law wsX8_glue := goodIn_r _ [462, 463, 125, 88, 442, 443, 444, 5, 445, 131, 132, 133, 392, 393, 394, 395, 275, 311, 312, 313, 314, 906, 907, 908, 909, 910, 911, 912, 913, 914, 915, 916, 917, 918, 919, 920] (by decide +kernel) (by decide +kernel)
set_option maxRecDepth 20000 in
theorem gL_law_X8_glue : GoodIn wsL_law (wsV RL 61 RX8 yX8_glue wsX8_glue) := goodIn_app (goodIn_of _ (by decide +kernel)) ggL_law_X8_glue
set_option maxRecDepth 20000 in
theorem ggL_law_X7_trade : GoodIn wsL_law wsX7_trade := goodIn_r _ [467, 99, 31, 23, 430, 431, 432, 2, 433, 332, 333, 334, 30, 335, 79, 336, 267, 337, 338, 339, 340, 341, 259, 260, 22, 261, 64, 262, 168, 169, 170, 65, 66, 67, 68, 237, 238, 239, 240, 241, 468, 469, 470, 471, 897, 898, 899, 900, 901, 902, 903, 904, 905, 927, 928, 929, 930, 931, 932, 933, 934, 935, 936, 939, 940, 941] (by decide +kernel) (by decide +kernel)
set_option maxRecDepth 20000 in
theorem gL_law_X7_trade : GoodIn wsL_law (wsV RL 62 RX7 yX7_trade wsX7_trade) := goodIn_app (goodIn_of _ (by decide +kernel)) ggL_law_X7_trade
set_option maxRecDepth 20000 in
theorem ggL_law_X8_trade : GoodIn wsL_law wsX8_trade := goodIn_r _ [475, 125, 88, 442, 443, 444, 5, 445, 131, 132, 133, 392, 393, 394, 395, 275, 311, 312, 313, 314, 476, 477, 478, 479, 906, 907, 908, 909, 910, 911, 912, 913, 914, 915, 916, 917, 918, 919, 920] (by decide +kernel) (by decide +kernel)
set_option maxRecDepth 20000 in
theorem gL_law_X8_trade : GoodIn wsL_law (wsV RL 65 RX8 yX8_trade wsX8_trade) := goodIn_app (goodIn_of _ (by decide +kernel)) ggL_law_X8_trade
set_option maxRecDepth 20000 in
theorem ggL_law_X7_sight : GoodIn wsL_law wsX7_sight := goodIn_r _ [483, 327, 99, 31, 23, 328, 329, 330, 2, 331, 103, 104, 105, 332, 333, 334, 30, 335, 79, 336, 267, 337, 338, 339, 340, 341, 259, 260, 22, 261, 64, 262, 168, 169, 170, 65, 66, 67, 68, 237, 238, 239, 240, 241, 897, 898, 899, 900, 901, 902, 903, 904, 905, 927, 928, 929, 930, 931, 932, 933, 934, 935, 936, 939, 940, 941] (by decide +kernel) (by decide +kernel)
set_option maxRecDepth 20000 in
theorem gL_law_X7_sight : GoodIn wsL_law (wsV RL 66 RX7 yX7_sight wsX7_sight) := goodIn_app (goodIn_of _ (by decide +kernel)) ggL_law_X7_sight
set_option maxRecDepth 20000 in
theorem ggL_law_X8_sight : GoodIn wsL_law wsX8_sight := goodIn_r _ [487, 386, 488, 125, 88, 388, 389, 390, 5, 391, 131, 132, 133, 392, 393, 394, 395, 275, 311, 312, 313, 314, 906, 907, 908, 909, 910, 911, 912, 913, 914, 915, 916, 917, 918, 919, 920] (by decide +kernel) (by decide +kernel)
set_option maxRecDepth 20000 in
theorem gL_law_X8_sight : GoodIn wsL_law (wsV RL 69 RX8 yX8_sight wsX8_sight) := goodIn_app (goodIn_of _ (by decide +kernel)) ggL_law_X8_sight
set_option maxRecDepth 20000 in
theorem ggL_law_X7_undo : GoodIn wsL_law wsX7_undo := goodIn_r _ [492, 31, 23, 327, 493, 494, 495, 30, 496, 267, 336, 79, 341, 259, 260, 22, 261, 64, 262, 168, 169, 170, 65, 66, 67, 68, 237, 238, 239, 240, 241, 897, 898, 899, 900, 901, 902, 903, 904, 905, 939, 940, 941, 927, 928, 929, 930, 931, 932, 933, 934, 935, 936] (by decide +kernel) (by decide +kernel)
set_option maxRecDepth 20000 in
theorem gL_law_X7_undo : GoodIn wsL_law (wsV RL 70 RX7 yX7_undo wsX7_undo) := goodIn_app (goodIn_of _ (by decide +kernel)) ggL_law_X7_undo
set_option maxRecDepth 20000 in
theorem ggL_law_X8_undo : GoodIn wsL_law wsX8_undo := goodIn_r _ [500, 275, 386, 311, 312, 313, 5, 314, 88, 906, 907, 908, 909, 910, 911, 912, 913, 914, 915, 916, 917, 918, 919, 920] (by decide +kernel) (by decide +kernel)
set_option maxRecDepth 20000 in
theorem gL_law_X8_undo : GoodIn wsL_law (wsV RL 73 RX8 yX8_undo wsX8_undo) := goodIn_app (goodIn_of _ (by decide +kernel)) ggL_law_X8_undo
set_option maxRecDepth 20000 in
theorem ggL_law_X7_window : GoodIn wsL_law wsX7_window := goodIn_r _ [504, 99, 23, 430, 431, 432, 2, 433, 434, 435, 436, 22, 437, 241, 505, 347, 348, 349, 238, 240, 506, 359, 360, 361, 65, 67, 64, 897, 898, 899, 900, 901, 902, 903, 904, 905, 927, 928, 929, 930, 931, 932, 933, 934, 935, 936] (by decide +kernel) (by decide +kernel)
set_option maxRecDepth 20000 in
theorem gL_law_X7_window : GoodIn wsL_law (wsV RL 74 RX7 yX7_window wsX7_window) := goodIn_app (goodIn_of _ (by decide +kernel)) ggL_law_X7_window
set_option maxRecDepth 20000 in
theorem ggL_law_X8_window : GoodIn wsL_law wsX8_window := goodIn_r _ [510, 125, 88, 442, 443, 444, 5, 445, 131, 132, 133, 403, 404, 405, 406, 407, 408, 409, 410, 411, 412, 413, 414, 400, 401, 402, 906, 907, 908, 909, 910, 911, 912, 913, 914, 915, 916, 917, 918, 919, 920] (by decide +kernel) (by decide +kernel)
set_option maxRecDepth 20000 in
theorem gL_law_X8_window : GoodIn wsL_law (wsV RL 77 RX8 yX8_window wsX8_window) := goodIn_app (goodIn_of _ (by decide +kernel)) ggL_law_X8_window
set_option maxRecDepth 20000 in
theorem ggL_law_X7_opens : GoodIn wsL_law wsX7_opens := goodIn_r _ [514, 327, 99, 27, 23, 328, 329, 330, 2, 331, 103, 104, 105, 515, 516, 517, 26, 518, 73, 519, 259, 260, 22, 261, 64, 262, 168, 169, 170, 65, 66, 67, 68, 237, 238, 239, 240, 241, 520, 521, 522, 523, 524, 343, 344, 345, 346, 347, 348, 349, 350, 351, 352, 353, 354, 355, 356, 357, 358, 359, 360, 361, 362, 363, 364, 365, 366, 367, 368, 369, 370, 371, 372, 373, 374, 375, 376, 377, 378, 379, 380, 381, 897, 898, 899, 900, 901, 902, 903, 904, 905, 927, 928, 929, 930, 931, 932, 933, 934, 935, 936, 937, 938] (by decide +kernel) (by decide +kernel)
set_option maxRecDepth 20000 in
theorem gL_law_X7_opens : GoodIn wsL_law (wsV RL 78 RX7 yX7_opens wsX7_opens) := goodIn_app (goodIn_of _ (by decide +kernel)) ggL_law_X7_opens
set_option maxRecDepth 20000 in
theorem ggL_law_X8_opens : GoodIn wsL_law wsX8_opens := goodIn_r _ [528, 386, 529, 125, 88, 388, 389, 390, 5, 391, 131, 132, 133, 530, 531, 532, 533, 311, 312, 313, 314, 534, 535, 536, 537, 396, 397, 398, 399, 400, 401, 402, 403, 404, 405, 406, 407, 408, 409, 410, 411, 412, 413, 414, 415, 416, 417, 418, 419, 420, 421, 422, 423, 424, 425, 906, 907, 908, 909, 910, 911, 912, 913, 914, 915, 916, 917, 918, 919, 920] (by decide +kernel) (by decide +kernel)
set_option maxRecDepth 20000 in
theorem gL_law_X8_opens : GoodIn wsL_law (wsV RL 81 RX8 yX8_opens wsX8_opens) := goodIn_app (goodIn_of _ (by decide +kernel)) ggL_law_X8_opens
set_option maxRecDepth 20000 in
theorem ggL_law_X7_ahead : GoodIn wsL_law wsX7_ahead := goodIn_r _ [541, 99, 27, 23, 430, 431, 432, 2, 433, 103, 104, 105, 542, 543, 544, 515, 516, 517, 26, 518, 73, 519, 259, 260, 22, 261, 64, 262, 168, 169, 170, 65, 66, 67, 68, 237, 238, 239, 240, 241, 520, 521, 522, 523, 524, 343, 344, 345, 346, 347, 348, 349, 350, 351, 352, 353, 354, 355, 356, 357, 358, 359, 360, 361, 362, 363, 364, 365, 366, 367, 368, 369, 370, 371, 372, 373, 374, 375, 376, 377, 378, 379, 380, 381, 897, 898, 899, 900, 901, 902, 903, 904, 905, 927, 928, 929, 930, 931, 932, 933, 934, 935, 936, 937, 938] (by decide +kernel) (by decide +kernel)
set_option maxRecDepth 20000 in
theorem gL_law_X7_ahead : GoodIn wsL_law (wsV RL 82 RX7 yX7_ahead wsX7_ahead) := goodIn_app (goodIn_of _ (by decide +kernel)) ggL_law_X7_ahead
set_option maxRecDepth 20000 in
theorem ggL_law_X8_ahead : GoodIn wsL_law wsX8_ahead := goodIn_r _ [548, 529, 125, 88, 442, 443, 444, 5, 445, 131, 132, 133, 530, 531, 532, 533, 311, 312, 313, 314, 534, 535, 536, 537, 396, 397, 398, 399, 400, 401, 402, 403, 404, 405, 406, 407, 408, 409, 410, 411, 412, 413, 414, 415, 416, 417, 418, 419, 420, 421, 422, 423, 424, 425, 906, 907, 908, 909, 910, 911, 912, 913, 914, 915, 916, 917, 918, 919, 920] (by decide +kernel) (by decide +kernel)
set_option maxRecDepth 20000 in
theorem gL_law_X8_ahead : GoodIn wsL_law (wsV RL 85 RX8 yX8_ahead wsX8_ahead) := goodIn_app (goodIn_of _ (by decide +kernel)) ggL_law_X8_ahead
set_option maxRecDepth 20000 in
theorem ggL_law_X7_spots : GoodIn wsL_law wsX7_spots := goodIn_r _ [552, 99, 27, 23, 430, 431, 432, 2, 433, 103, 104, 105, 553, 554, 555, 26, 556, 73, 557, 519, 259, 260, 22, 261, 64, 262, 168, 169, 170, 65, 66, 67, 68, 237, 238, 239, 240, 241, 524, 343, 344, 345, 346, 347, 348, 349, 350, 351, 352, 353, 354, 355, 356, 357, 358, 359, 360, 361, 362, 363, 364, 365, 366, 367, 368, 369, 370, 371, 372, 373, 374, 375, 376, 377, 378, 379, 380, 381, 897, 898, 899, 900, 901, 902, 903, 904, 905, 927, 928, 929, 930, 931, 932, 933, 934, 935, 936, 937, 938] (by decide +kernel) (by decide +kernel)
set_option maxRecDepth 20000 in
theorem gL_law_X7_spots : GoodIn wsL_law (wsV RL 86 RX7 yX7_spots wsX7_spots) := goodIn_app (goodIn_of _ (by decide +kernel)) ggL_law_X7_spots
set_option maxRecDepth 20000 in
theorem ggL_law_X8_spots : GoodIn wsL_law wsX8_spots := goodIn_r _ [561, 463, 125, 88, 562, 442, 443, 444, 5, 445, 131, 132, 133, 530, 531, 532, 533, 311, 312, 313, 314, 400, 401, 402, 396, 397, 398, 399, 403, 404, 405, 406, 407, 408, 409, 410, 411, 412, 413, 414, 415, 416, 417, 418, 419, 420, 421, 422, 423, 424, 425, 906, 907, 908, 909, 910, 911, 912, 913, 914, 915, 916, 917, 918, 919, 920] (by decide +kernel) (by decide +kernel)
set_option maxRecDepth 20000 in
theorem gL_law_X8_spots : GoodIn wsL_law (wsV RL 89 RX8 yX8_spots wsX8_spots) := goodIn_app (goodIn_of _ (by decide +kernel)) ggL_law_X8_spots
set_option maxRecDepth 20000 in
theorem ggL_law_X7_off : GoodIn wsL_law wsX7_off := goodIn_r _ [566, 327, 99, 27, 23, 328, 329, 330, 2, 331, 542, 543, 544, 567, 568, 569, 26, 570, 73, 557, 519, 259, 260, 22, 261, 64, 262, 168, 169, 170, 65, 66, 67, 68, 237, 238, 239, 240, 241, 571, 572, 573, 574, 575, 524, 343, 344, 345, 346, 347, 348, 349, 350, 351, 352, 353, 354, 355, 356, 357, 358, 359, 360, 361, 362, 363, 364, 365, 366, 367, 368, 369, 370, 371, 372, 373, 374, 375, 376, 377, 378, 379, 380, 381, 576, 897, 898, 899, 900, 901, 902, 903, 904, 905, 937, 938, 927, 928, 929, 930, 931, 932, 933, 934, 935, 936] (by decide +kernel) (by decide +kernel)
set_option maxRecDepth 20000 in
theorem gL_law_X7_off : GoodIn wsL_law (wsV RL 90 RX7 yX7_off wsX7_off) := goodIn_app (goodIn_of _ (by decide +kernel)) ggL_law_X7_off
set_option maxRecDepth 20000 in
theorem ggL_law_X8_off : GoodIn wsL_law wsX8_off := goodIn_r _ [580, 386, 125, 88, 562, 388, 389, 390, 5, 391, 131, 132, 133, 530, 531, 532, 533, 311, 312, 313, 314, 396, 397, 398, 399, 400, 401, 402, 403, 404, 405, 406, 407, 408, 409, 410, 411, 412, 413, 414, 415, 416, 417, 418, 419, 420, 421, 422, 423, 424, 425, 906, 907, 908, 909, 910, 911, 912, 913, 914, 915, 916, 917, 918, 919, 920] (by decide +kernel) (by decide +kernel)
set_option maxRecDepth 20000 in
theorem gL_law_X8_off : GoodIn wsL_law (wsV RL 93 RX8 yX8_off wsX8_off) := goodIn_app (goodIn_of _ (by decide +kernel)) ggL_law_X8_off
set_option maxRecDepth 20000 in
theorem ggL_law_X7_shut : GoodIn wsL_law wsX7_shut := goodIn_r _ [584, 99, 27, 23, 585, 430, 431, 432, 2, 433, 103, 104, 105, 542, 543, 544, 586, 587, 588, 26, 589, 557, 590, 435, 436, 22, 437, 241, 591, 592, 593, 594, 237, 595, 596, 597, 598, 64, 350, 351, 352, 353, 599, 600, 601, 602, 67, 603, 604, 605, 606, 607, 608, 609, 610, 611, 612, 613, 73, 519, 259, 260, 261, 262, 168, 169, 170, 65, 66, 68, 238, 239, 240, 614, 615, 616, 617, 618, 347, 348, 349, 619, 359, 360, 361, 620, 621, 622, 623, 346, 354, 355, 356, 357, 358, 374, 375, 376, 377, 378, 379, 380, 381, 624, 897, 898, 899, 900, 901, 902, 903, 904, 905, 927, 928, 929, 930, 931, 932, 933, 934, 935, 936, 937, 938] (by decide +kernel) (by decide +kernel)
set_option maxRecDepth 20000 in
theorem gL_law_X7_shut : GoodIn wsL_law (wsV RL 94 RX7 yX7_shut wsX7_shut) := goodIn_app (goodIn_of _ (by decide +kernel)) ggL_law_X7_shut
set_option maxRecDepth 20000 in
theorem ggL_law_X8_shut : GoodIn wsL_law wsX8_shut := goodIn_r _ [628, 387, 125, 88, 562, 629, 442, 443, 444, 5, 445, 131, 132, 133, 400, 401, 402, 630, 631, 632, 633, 634, 635, 636, 530, 531, 532, 533, 311, 312, 313, 314, 396, 397, 398, 399, 403, 404, 405, 406, 407, 408, 409, 410, 411, 412, 413, 414, 415, 416, 417, 418, 419, 420, 421, 422, 423, 424, 425, 906, 907, 908, 909, 910, 911, 912, 913, 914, 915, 916, 917, 918, 919, 920] (by decide +kernel) (by decide +kernel)
set_option maxRecDepth 20000 in
theorem gL_law_X8_shut : GoodIn wsL_law (wsV RL 97 RX8 yX8_shut wsX8_shut) := goodIn_app (goodIn_of _ (by decide +kernel)) ggL_law_X8_shut
set_option maxRecDepth 20000 in
theorem ggL_law_X7_trades : GoodIn wsL_law wsX7_trades := goodIn_r _ [640, 99, 27, 23, 430, 431, 432, 2, 433, 103, 104, 105, 542, 543, 544, 641, 642, 643, 26, 644, 557, 645, 646, 647, 648, 649, 73, 519, 259, 260, 22, 261, 64, 262, 168, 169, 170, 65, 66, 67, 68, 237, 238, 239, 240, 241, 650, 469, 470, 471, 520, 521, 522, 523, 524, 343, 344, 345, 346, 347, 348, 349, 350, 351, 352, 353, 354, 355, 356, 357, 358, 359, 360, 361, 362, 363, 364, 365, 366, 367, 368, 369, 370, 371, 372, 373, 374, 375, 376, 377, 378, 379, 380, 381, 603, 604, 605, 606, 607, 608, 609, 897, 898, 899, 900, 901, 902, 903, 904, 905, 937, 938, 927, 928, 929, 930, 931, 932, 933, 934, 935, 936] (by decide +kernel) (by decide +kernel)
set_option maxRecDepth 20000 in
theorem gL_law_X7_trades : GoodIn wsL_law (wsV RL 98 RX7 yX7_trades wsX7_trades) := goodIn_app (goodIn_of _ (by decide +kernel)) ggL_law_X7_trades
set_option maxRecDepth 20000 in
theorem ggL_law_X8_trades : GoodIn wsL_law wsX8_trades := goodIn_r _ [654, 387, 125, 562, 88, 442, 443, 444, 5, 445, 131, 132, 133, 530, 531, 532, 533, 311, 312, 313, 314, 476, 477, 478, 479, 534, 535, 536, 537, 396, 397, 398, 399, 400, 401, 402, 403, 404, 405, 406, 407, 408, 409, 410, 411, 412, 413, 414, 415, 416, 417, 418, 419, 420, 421, 422, 423, 424, 425, 630, 631, 632, 906, 907, 908, 909, 910, 911, 912, 913, 914, 915, 916, 917, 918, 919, 920] (by decide +kernel) (by decide +kernel)
set_option maxRecDepth 20000 in
theorem gL_law_X8_trades : GoodIn wsL_law (wsV RL 101 RX8 yX8_trades wsX8_trades) := goodIn_app (goodIn_of _ (by decide +kernel)) ggL_law_X8_trades
set_option maxRecDepth 20000 in
theorem ggL_law_X7_along : GoodIn wsL_law wsX7_along := goodIn_r _ [658, 99, 23, 430, 431, 432, 2, 433, 542, 543, 544, 659, 367, 368, 22, 369, 239, 660, 661, 662, 663, 241, 350, 351, 352, 353, 237, 624, 604, 605, 606, 607, 608, 609, 897, 898, 899, 900, 901, 902, 903, 904, 905, 927, 928, 929, 930, 931, 932, 933, 934, 935, 936] (by decide +kernel) (by decide +kernel)
set_option maxRecDepth 20000 in
theorem gL_law_X7_along : GoodIn wsL_law (wsV RL 102 RX7 yX7_along wsX7_along) := goodIn_app (goodIn_of _ (by decide +kernel)) ggL_law_X7_along
set_option maxRecDepth 20000 in
theorem ggL_law_X8_along : GoodIn wsL_law wsX8_along := goodIn_r _ [667, 125, 88, 442, 443, 444, 5, 445, 131, 132, 133, 400, 401, 402, 419, 420, 421, 630, 631, 632, 906, 907, 908, 909, 910, 911, 912, 913, 914, 915, 916, 917, 918, 919, 920] (by decide +kernel) (by decide +kernel)
set_option maxRecDepth 20000 in
theorem gL_law_X8_along : GoodIn wsL_law (wsV RL 105 RX8 yX8_along wsX8_along) := goodIn_app (goodIn_of _ (by decide +kernel)) ggL_law_X8_along
set_option maxRecDepth 20000 in
theorem ggL_law_X7_alike : GoodIn wsL_law wsX7_alike := goodIn_r _ [671, 327, 99, 585, 23, 328, 329, 330, 2, 331, 542, 543, 544, 897, 898, 899, 900, 901, 902, 903, 904, 905, 927, 928, 929, 930, 931, 932, 933, 934, 935, 936] (by decide +kernel) (by decide +kernel)
set_option maxRecDepth 20000 in
theorem gL_law_X7_alike : GoodIn wsL_law (wsV RL 106 RX7 yX7_alike wsX7_alike) := goodIn_app (goodIn_of _ (by decide +kernel)) ggL_law_X7_alike
set_option maxRecDepth 20000 in
theorem ggL_law_X8_alike : GoodIn wsL_law wsX8_alike := goodIn_r _ [675, 386, 125, 562, 88, 388, 389, 390, 5, 391, 131, 132, 133, 906, 907, 908, 909, 910, 911, 912, 913, 914, 915, 916, 917, 918, 919, 920] (by decide +kernel) (by decide +kernel)
set_option maxRecDepth 20000 in
theorem gL_law_X8_alike : GoodIn wsL_law (wsV RL 109 RX8 yX8_alike wsX8_alike) := goodIn_app (goodIn_of _ (by decide +kernel)) ggL_law_X8_alike
set_option maxRecDepth 20000 in
theorem ggL_law_X7_guess : GoodIn wsL_law wsX7_guess := goodIn_r _ [679, 99, 23, 430, 431, 432, 2, 433, 680, 351, 352, 22, 353, 237, 681, 371, 372, 373, 66, 897, 898, 899, 900, 901, 902, 903, 904, 905, 927, 928, 929, 930, 931, 932, 933, 934, 935, 936] (by decide +kernel) (by decide +kernel)
set_option maxRecDepth 20000 in
theorem gL_law_X7_guess : GoodIn wsL_law (wsV RL 110 RX7 yX7_guess wsX7_guess) := goodIn_app (goodIn_of _ (by decide +kernel)) ggL_law_X7_guess
set_option maxRecDepth 20000 in
theorem ggL_law_X8_guess : GoodIn wsL_law wsX8_guess := goodIn_r _ [685, 125, 88, 442, 443, 444, 5, 445, 131, 132, 133, 906, 907, 908, 909, 910, 911, 912, 913, 914, 915, 916, 917, 918, 919, 920] (by decide +kernel) (by decide +kernel)
set_option maxRecDepth 20000 in
theorem gL_law_X8_guess : GoodIn wsL_law (wsV RL 113 RX8 yX8_guess wsX8_guess) := goodIn_app (goodIn_of _ (by decide +kernel)) ggL_law_X8_guess
set_option maxRecDepth 20000 in
theorem ggL_law_X7_fits : GoodIn wsL_law wsX7_fits := goodIn_r _ [689, 99, 15, 27, 23, 430, 431, 432, 2, 433, 100, 101, 102, 103, 104, 105, 143, 144, 145, 14, 146, 42, 106, 107, 108, 109, 110, 111, 147, 148, 149, 150, 43, 690, 691, 692, 26, 693, 73, 519, 259, 260, 22, 261, 64, 262, 168, 169, 170, 65, 66, 67, 68, 237, 238, 239, 240, 241, 694, 695, 696, 697, 698, 699, 700, 701, 591, 592, 593, 594, 595, 596, 597, 598, 350, 351, 352, 353, 620, 621, 622, 623, 346, 347, 348, 349, 354, 355, 356, 357, 358, 359, 360, 361, 374, 375, 376, 377, 378, 379, 380, 381, 590, 435, 436, 437, 116, 117, 118, 119, 897, 898, 899, 900, 901, 902, 903, 904, 905, 921, 922, 923, 927, 928, 929, 930, 931, 932, 933, 934, 935, 936, 937, 938] (by decide +kernel) (by decide +kernel)
set_option maxRecDepth 20000 in
theorem gL_law_X7_fits : GoodIn wsL_law (wsV RL 114 RX7 yX7_fits wsX7_fits) := goodIn_app (goodIn_of _ (by decide +kernel)) ggL_law_X7_fits
set_option maxRecDepth 20000 in
theorem ggL_law_X8_fits : GoodIn wsL_law wsX8_fits := goodIn_r _ [705, 706, 488, 125, 126, 88, 442, 443, 444, 5, 445, 131, 132, 133, 127, 128, 129, 130, 159, 160, 161, 162, 90, 134, 135, 136, 137, 138, 530, 531, 532, 533, 311, 312, 313, 314, 707, 708, 709, 710, 92, 396, 397, 398, 399, 400, 401, 402, 403, 404, 405, 406, 407, 408, 409, 410, 411, 412, 413, 414, 415, 416, 417, 418, 419, 420, 421, 422, 423, 424, 425, 906, 907, 908, 909, 910, 911, 912, 913, 914, 915, 916, 917, 918, 919, 920] (by decide +kernel) (by decide +kernel)
set_option maxRecDepth 20000 in
theorem gL_law_X8_fits : GoodIn wsL_law (wsV RL 117 RX8 yX8_fits wsX8_fits) := goodIn_app (goodIn_of _ (by decide +kernel)) ggL_law_X8_fits
set_option maxRecDepth 20000 in
theorem ggL_law_X7_wind : GoodIn wsL_law wsX7_wind := goodIn_r _ [714, 715, 23, 27, 430, 431, 432, 2, 433, 103, 104, 105, 542, 543, 544, 716, 592, 593, 22, 594, 237, 595, 596, 597, 598, 64, 350, 351, 352, 353, 717, 718, 719, 26, 720, 721, 661, 662, 663, 241, 603, 604, 605, 606, 607, 608, 609, 722, 723, 724, 725, 726, 727, 73, 519, 259, 260, 261, 262, 168, 169, 170, 65, 66, 67, 68, 238, 239, 240, 620, 621, 622, 623, 346, 347, 348, 349, 354, 355, 356, 357, 358, 359, 360, 361, 374, 375, 376, 377, 378, 379, 380, 381, 590, 435, 436, 437, 660, 624, 728, 729, 730, 731, 897, 898, 899, 900, 901, 902, 903, 904, 905, 927, 928, 929, 930, 931, 932, 933, 934, 935, 936, 937, 938] (by decide +kernel) (by decide +kernel)
set_option maxRecDepth 20000 in
theorem gL_law_X7_wind : GoodIn wsL_law (wsV RL 118 RX7 yX7_wind wsX7_wind) := goodIn_app (goodIn_of _ (by decide +kernel)) ggL_law_X7_wind
set_option maxRecDepth 20000 in
theorem ggL_law_X8_wind : GoodIn wsL_law wsX8_wind := goodIn_r _ [735, 387, 736, 737, 88, 442, 443, 444, 5, 445, 131, 132, 133, 400, 401, 402, 530, 531, 532, 533, 311, 312, 313, 314, 534, 535, 536, 537, 396, 397, 398, 399, 403, 404, 405, 406, 407, 408, 409, 410, 411, 412, 413, 414, 415, 416, 417, 418, 419, 420, 421, 422, 423, 424, 425, 906, 907, 908, 909, 910, 911, 912, 913, 914, 915, 916, 917, 918, 919, 920] (by decide +kernel) (by decide +kernel)
set_option maxRecDepth 20000 in
theorem gL_law_X8_wind : GoodIn wsL_law (wsV RL 122 RX8 yX8_wind wsX8_wind) := goodIn_app (goodIn_of _ (by decide +kernel)) ggL_law_X8_wind
set_option maxRecDepth 20000 in
theorem ggL_law_X7_drawn : GoodIn wsL_law wsX7_drawn := goodIn_r _ [741, 327, 742, 99, 27, 23, 328, 329, 330, 2, 331, 103, 104, 105, 542, 543, 544, 743, 744, 745, 26, 746, 73, 747, 748, 519, 259, 260, 22, 261, 64, 262, 168, 169, 170, 65, 66, 67, 68, 237, 238, 239, 240, 241, 749, 750, 751, 752, 753, 754, 524, 343, 344, 345, 346, 347, 348, 349, 350, 351, 352, 353, 354, 355, 356, 357, 358, 359, 360, 361, 362, 363, 364, 365, 366, 367, 368, 369, 370, 371, 372, 373, 374, 375, 376, 377, 378, 379, 380, 381, 755, 756, 757, 758, 624, 604, 605, 606, 607, 608, 609, 897, 898, 899, 900, 901, 902, 903, 904, 905, 927, 928, 929, 930, 931, 932, 933, 934, 935, 936, 937, 938] (by decide +kernel) (by decide +kernel)
set_option maxRecDepth 20000 in
theorem gL_law_X7_drawn : GoodIn wsL_law (wsV RL 123 RX7 yX7_drawn wsX7_drawn) := goodIn_app (goodIn_of _ (by decide +kernel)) ggL_law_X7_drawn
set_option maxRecDepth 20000 in
theorem ggL_law_X8_drawn : GoodIn wsL_law wsX8_drawn := goodIn_r _ [762, 386, 529, 763, 125, 764, 765, 88, 488, 736, 388, 389, 390, 5, 391, 131, 132, 133, 530, 531, 532, 533, 311, 312, 313, 314, 396, 397, 398, 399, 400, 401, 402, 403, 404, 405, 406, 407, 408, 409, 410, 411, 412, 413, 414, 415, 416, 417, 418, 419, 420, 421, 422, 423, 424, 425, 630, 631, 632, 906, 907, 908, 909, 910, 911, 912, 913, 914, 915, 916, 917, 918, 919, 920] (by decide +kernel) (by decide +kernel)
set_option maxRecDepth 20000 in
theorem gL_law_X8_drawn : GoodIn wsL_law (wsV RL 126 RX8 yX8_drawn wsX8_drawn) := goodIn_app (goodIn_of _ (by decide +kernel)) ggL_law_X8_drawn
set_option maxRecDepth 20000 in
theorem ggL_law_X7_image : GoodIn wsL_law wsX7_image := goodIn_r _ [769, 99, 327, 32, 23, 103, 104, 2, 105, 328, 329, 330, 331, 258, 259, 260, 22, 261, 64, 262, 168, 169, 170, 65, 66, 67, 68, 237, 238, 239, 240, 241, 897, 898, 899, 900, 901, 902, 903, 904, 905, 927, 928, 929, 930, 931, 932, 933, 934, 935, 936] (by decide +kernel) (by decide +kernel)
set_option maxRecDepth 20000 in
theorem gL_law_X7_image : GoodIn wsL_law (wsV RL 127 RX7 yX7_image wsX7_image) := goodIn_app (goodIn_of _ (by decide +kernel)) ggL_law_X7_image
set_option maxRecDepth 20000 in
theorem ggL_law_X8_image : GoodIn wsL_law wsX8_image := goodIn_r _ [773, 125, 386, 131, 132, 5, 133, 388, 389, 390, 391, 88, 311, 312, 313, 314, 906, 907, 908, 909, 910, 911, 912, 913, 914, 915, 916, 917, 918, 919, 920] (by decide +kernel) (by decide +kernel)
set_option maxRecDepth 20000 in
theorem gL_law_X8_image : GoodIn wsL_law (wsV RL 130 RX8 yX8_image wsX8_image) := goodIn_app (goodIn_of _ (by decide +kernel)) ggL_law_X8_image
set_option maxRecDepth 20000 in
theorem ggL_law_X7_restore : GoodIn wsL_law wsX7_restore := goodIn_r _ [777, 99, 32, 327, 23, 31, 103, 104, 2, 105, 258, 259, 260, 22, 261, 64, 262, 168, 169, 170, 65, 66, 67, 68, 237, 238, 239, 240, 241, 263, 264, 265, 30, 266, 267, 897, 898, 899, 900, 901, 902, 903, 904, 905, 927, 928, 929, 930, 931, 932, 933, 934, 935, 936, 939, 940, 941] (by decide +kernel) (by decide +kernel)
set_option maxRecDepth 20000 in
theorem gL_law_X7_restore : GoodIn wsL_law (wsV RL 131 RX7 yX7_restore wsX7_restore) := goodIn_app (goodIn_of _ (by decide +kernel)) ggL_law_X7_restore
set_option maxRecDepth 20000 in
theorem ggL_law_X8_restore : GoodIn wsL_law wsX8_restore := goodIn_r _ [781, 125, 88, 386, 275, 131, 132, 5, 133, 311, 312, 313, 314, 906, 907, 908, 909, 910, 911, 912, 913, 914, 915, 916, 917, 918, 919, 920] (by decide +kernel) (by decide +kernel)
set_option maxRecDepth 20000 in
theorem gL_law_X8_restore : GoodIn wsL_law (wsV RL 134 RX8 yX8_restore wsX8_restore) := goodIn_app (goodIn_of _ (by decide +kernel)) ggL_law_X8_restore
set_option maxRecDepth 20000 in
theorem ggL_law_X7_kind : GoodIn wsL_law wsX7_kind := goodIn_r _ [785, 23, 99, 430, 431, 432, 2, 433, 897, 898, 899, 900, 901, 902, 903, 904, 905, 927, 928, 929, 930, 931, 932, 933, 934, 935, 936] (by decide +kernel) (by decide +kernel)
set_option maxRecDepth 20000 in
theorem gL_law_X7_kind : GoodIn wsL_law (wsV RL 135 RX7 yX7_kind wsX7_kind) := goodIn_app (goodIn_of _ (by decide +kernel)) ggL_law_X7_kind
set_option maxRecDepth 20000 in
theorem ggL_law_X8_kind : GoodIn wsL_law wsX8_kind := goodIn_r _ [789, 88, 125, 442, 443, 444, 5, 445, 131, 132, 133, 906, 907, 908, 909, 910, 911, 912, 913, 914, 915, 916, 917, 918, 919, 920] (by decide +kernel) (by decide +kernel)
set_option maxRecDepth 20000 in
theorem gL_law_X8_kind : GoodIn wsL_law (wsV RL 138 RX8 yX8_kind wsX8_kind) := goodIn_app (goodIn_of _ (by decide +kernel)) ggL_law_X8_kind
set_option maxRecDepth 20000 in
theorem ggL_law_X7_as : GoodIn wsL_law wsX7_as := goodIn_r _ [793, 99, 23, 430, 431, 432, 2, 433, 103, 104, 105, 794, 795, 796, 797, 116, 117, 118, 119, 110, 106, 107, 108, 109, 111, 897, 898, 899, 900, 901, 902, 903, 904, 905, 927, 928, 929, 930, 931, 932, 933, 934, 935, 936] (by decide +kernel) (by decide +kernel)
set_option maxRecDepth 20000 in
theorem gL_law_X7_as : GoodIn wsL_law (wsV RL 139 RX7 yX7_as wsX7_as) := goodIn_app (goodIn_of _ (by decide +kernel)) ggL_law_X7_as
set_option maxRecDepth 20000 in
theorem ggL_law_X8_as : GoodIn wsL_law wsX8_as := goodIn_r _ [801, 802, 125, 88, 126, 442, 443, 444, 5, 445, 131, 132, 133, 803, 804, 805, 134, 135, 136, 137, 138, 906, 907, 908, 909, 910, 911, 912, 913, 914, 915, 916, 917, 918, 919, 920] (by decide +kernel) (by decide +kernel)
set_option maxRecDepth 20000 in
theorem gL_law_X8_as : GoodIn wsL_law (wsV RL 142 RX8 yX8_as wsX8_as) := goodIn_app (goodIn_of _ (by decide +kernel)) ggL_law_X8_as
set_option maxRecDepth 20000 in
theorem ggL_law_X7_ask : GoodIn wsL_law wsX7_ask := goodIn_r _ [809, 99, 36, 23, 430, 431, 432, 2, 433, 542, 543, 544, 810, 811, 812, 585, 813, 814, 103, 104, 105, 815, 816, 817, 818, 819, 820, 35, 821, 822, 83, 897, 898, 899, 900, 901, 902, 903, 904, 905, 942, 943, 927, 928, 929, 930, 931, 932, 933, 934, 935, 936] (by decide +kernel) (by decide +kernel)
set_option maxRecDepth 20000 in
theorem gL_law_X7_ask : GoodIn wsL_law (wsV RL 143 RX7 yX7_ask wsX7_ask) := goodIn_app (goodIn_of _ (by decide +kernel)) ggL_law_X7_ask
set_option maxRecDepth 20000 in
theorem ggL_law_X8_ask : GoodIn wsL_law wsX8_ask := goodIn_r _ [826, 125, 827, 88, 442, 443, 444, 5, 445, 131, 132, 133, 828, 829, 830, 831, 832, 833, 834, 835, 94, 836, 837, 838, 839, 840, 841, 842, 843, 844, 845, 846, 847, 848, 849, 850, 851, 852, 853, 854, 855, 856, 857, 858, 859, 860, 861, 862, 863, 906, 907, 908, 909, 910, 911, 912, 913, 914, 915, 916, 917, 918, 919, 920] (by decide +kernel) (by decide +kernel)
set_option maxRecDepth 20000 in
theorem gL_law_X8_ask : GoodIn wsL_law (wsV RL 146 RX8 yX8_ask wsX8_ask) := goodIn_app (goodIn_of _ (by decide +kernel)) ggL_law_X8_ask
set_option maxRecDepth 20000 in
theorem ggL_law_X7_trace : GoodIn wsL_law wsX7_trace := goodIn_r _ [867, 36, 585, 103, 104, 2, 105, 897, 898, 899, 900, 901, 902, 903, 904, 905, 942, 943] (by decide +kernel) (by decide +kernel)
set_option maxRecDepth 20000 in
theorem gL_law_X7_trace : GoodIn wsL_law (wsV RL 147 RX7 yX7_trace wsX7_trace) := goodIn_app (goodIn_of _ (by decide +kernel)) ggL_law_X7_trace
set_option maxRecDepth 20000 in
theorem ggL_law_X8_trace : GoodIn wsL_law wsX8_trace := goodIn_r _ [871, 827, 94, 562, 131, 132, 5, 133, 906, 907, 908, 909, 910, 911, 912, 913, 914, 915, 916, 917, 918, 919, 920] (by decide +kernel) (by decide +kernel)
set_option maxRecDepth 20000 in
theorem gL_law_X8_trace : GoodIn wsL_law (wsV RL 150 RX8 yX8_trace wsX8_trace) := goodIn_app (goodIn_of _ (by decide +kernel)) ggL_law_X8_trace
set_option maxRecDepth 20000 in
theorem ggL_law_X7_count : GoodIn wsL_law wsX7_count := goodIn_r _ [875, 15, 23, 31, 19, 99, 876, 877, 878, 14, 879, 880, 144, 145, 146, 42, 505, 347, 348, 22, 349, 238, 240, 897, 898, 899, 900, 901, 902, 903, 904, 905, 927, 928, 929, 930, 931, 932, 933, 934, 935, 936, 939, 940, 941, 924, 925, 926, 921, 922, 923] (by decide +kernel) (by decide +kernel)
set_option maxRecDepth 20000 in
theorem gL_law_X7_count : GoodIn wsL_law (wsV RL 151 RX7 yX7_count wsX7_count) := goodIn_app (goodIn_of _ (by decide +kernel)) ggL_law_X7_count
set_option maxRecDepth 20000 in
theorem ggL_law_X8_count : GoodIn wsL_law wsX8_count := goodIn_r _ [884, 88, 275, 198, 125, 885, 886, 887, 5, 888, 90, 388, 389, 390, 391, 407, 408, 409, 410, 906, 907, 908, 909, 910, 911, 912, 913, 914, 915, 916, 917, 918, 919, 920] (by decide +kernel) (by decide +kernel)
set_option maxRecDepth 20000 in
theorem gL_law_X8_count : GoodIn wsL_law (wsV RL 154 RX8 yX8_count wsX8_count) := goodIn_app (goodIn_of _ (by decide +kernel)) ggL_law_X8_count
set_option maxRecDepth 20000 in
theorem ggL_law_X7_status : GoodIn wsL_law wsX7_status := goodIn_r _ [892, 110, 897, 898, 899, 900, 901, 902, 903, 904, 905] (by decide +kernel) (by decide +kernel)
set_option maxRecDepth 20000 in
theorem gL_law_X7_status : GoodIn wsL_law (wsV RL 155 RX7 yX7_status wsX7_status) := goodIn_app (goodIn_of _ (by decide +kernel)) ggL_law_X7_status
set_option maxRecDepth 20000 in
theorem ggL_law_X8_status : GoodIn wsL_law wsX8_status := goodIn_r _ [896, 126, 906, 907, 908, 909, 910, 911, 912, 913, 914, 915, 916, 917, 918, 919, 920] (by decide +kernel) (by decide +kernel)
set_option maxRecDepth 20000 in
theorem gL_law_X8_status : GoodIn wsL_law (wsV RL 158 RX8 yX8_status wsX8_status) := goodIn_app (goodIn_of _ (by decide +kernel)) ggL_law_X8_status
