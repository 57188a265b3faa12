set_option maxRecDepth 20000 in
theorem ggL_law_X6_init : GoodIn wsL_law wsX6_init := goodIn_r _ [9, 10, 11, 12, 13, 14, 15, 16, 17, 18, 19, 20, 21, 22, 23, 24, 25, 26, 27, 28, 29, 30, 31, 32, 33, 34, 35, 36, 37, 38, 39, 40, 41, 42, 43, 44, 45, 46, 47, 48, 49, 50, 51, 52, 53, 54, 55, 56, 57, 58, 59, 60, 61, 62, 63, 64, 65, 66, 67, 68, 69, 70, 71, 72, 73, 74, 6, 75, 76, 77, 78, 79, 80, 81, 82, 83, 84, 915, 916, 917, 918, 919, 883, 884, 885, 886, 887, 888, 889, 920, 921, 922, 923, 924, 925, 926, 927, 928, 929, 930, 931, 932, 933, 934, 935, 936, 937, 938, 939, 940] (by decide +kernel) (by decide +kernel)
set_option maxRecDepth 20000 in
theorem gL_law_X6_init : GoodIn wsL_law (wsX6_init) := ggL_law_X6_init
set_option maxRecDepth 20000 in
theorem ggL_law_X7_init : GoodIn wsL_law wsX7_init := goodIn_r _ [87, 88, 11, 12, 41, 89, 90, 44, 91, 92, 93, 94, 95, 96, 97, 98, 99, 100, 101, 6, 102, 103, 104, 105, 106, 107, 108, 890, 891, 892, 893, 894, 895, 896, 897, 898, 899, 900, 901, 902, 903, 904, 905, 906, 907, 908, 909, 910, 911, 912, 913, 914] (by decide +kernel) (by decide +kernel)
set_option maxRecDepth 20000 in
theorem gL_law_X7_init : GoodIn wsL_law (wsX7_init) := ggL_law_X7_init
set_option maxRecDepth 20000 in
theorem ggL_law_L_joint : GoodIn wsL_law wsL_joint := goodIn_ca (goodIn_ca (goodIn_r _ [112, 113, 114, 115, 116, 117, 2, 118, 16, 119, 120, 121, 122, 123, 124, 125, 126, 127, 128, 129, 130, 131, 132, 133, 15, 134, 47, 42, 43, 45, 46, 883, 884, 885, 886, 887, 888, 889, 915, 916, 917, 918, 919] (by decide +kernel) (by decide +kernel)) (goodIn_sub (fun _ h => List.mem_append_left _ (List.mem_append_left _ (List.mem_append_right _ h))) (by decide +kernel))) (goodIn_sub (fun _ h => List.mem_append_left _ (List.mem_append_right _ h)) (by decide +kernel))
set_option maxRecDepth 20000 in
theorem gL_law_L_joint : GoodIn wsL_law (va_wsS RL 93 yL_joint wsL_joint) := goodIn_app (goodIn_of _ (by decide +kernel)) ggL_law_L_joint
set_option maxRecDepth 20000 in
theorem ggL_law_X7_joint : GoodIn wsL_law wsX7_joint := goodIn_r _ [138, 139, 140, 141, 5, 142, 143, 144, 145, 146, 147, 148, 149, 150, 151, 152, 153, 154, 89, 90, 91, 92, 890, 891, 892, 893, 894, 895, 896, 897, 898, 899, 900, 901, 902, 903, 904, 905, 906, 907, 908, 909, 910, 911, 912, 913, 914] (by decide +kernel) (by decide +kernel)
set_option maxRecDepth 20000 in
theorem gL_law_X7_joint : GoodIn wsL_law (wsV RL 98 RX7 yX7_joint wsX7_joint) := goodIn_app (goodIn_of _ (by decide +kernel)) ggL_law_X7_joint
set_option maxRecDepth 20000 in
theorem ggL_law_X7_thrown : GoodIn wsL_law wsX7_thrown := goodIn_r _ [158, 150, 890, 891, 892, 893, 894, 895, 896, 897, 898, 899, 900, 901, 902, 903, 904, 905, 906, 907, 908, 909, 910, 911, 912, 913, 914] (by decide +kernel) (by decide +kernel)
set_option maxRecDepth 20000 in
theorem gL_law_X7_thrown : GoodIn wsL_law (wsV RL 99 RX7 yX7_thrown wsX7_thrown) := goodIn_app (goodIn_of _ (by decide +kernel)) ggL_law_X7_thrown
set_option maxRecDepth 20000 in
theorem ggL_law_L_move : GoodIn wsL_law wsL_move := goodIn_ca (goodIn_ca (goodIn_r _ [161, 162, 113, 163, 164, 165, 2, 166, 16, 167, 168, 169, 170, 171, 172, 173, 174, 175, 176, 177, 15, 178, 47, 119, 120, 121, 122, 123, 883, 884, 885, 886, 887, 888, 889, 915, 916, 917, 918, 919] (by decide +kernel) (by decide +kernel)) (goodIn_sub (fun _ h => List.mem_append_right _ h) (by decide +kernel))) (goodIn_sub (fun _ h => List.mem_append_left _ (List.mem_append_left _ (List.mem_append_right _ h))) (by decide +kernel))
set_option maxRecDepth 20000 in
theorem gL_law_L_move : GoodIn wsL_law (va_wsS RL 102 yL_move wsL_move) := goodIn_app (goodIn_of _ (by decide +kernel)) ggL_law_L_move
set_option maxRecDepth 20000 in
theorem ggL_law_X7_move : GoodIn wsL_law wsX7_move := goodIn_r _ [182, 89, 90, 183, 184, 185, 5, 186, 139, 143, 144, 145, 140, 141, 142, 146, 147, 148, 149, 150, 890, 891, 892, 893, 894, 895, 896, 897, 898, 899, 900, 901, 902, 903, 904, 905, 906, 907, 908, 909, 910, 911, 912, 913, 914] (by decide +kernel) (by decide +kernel)
set_option maxRecDepth 20000 in
theorem gL_law_X7_move : GoodIn wsL_law (wsV RL 105 RX7 yX7_move wsX7_move) := goodIn_app (goodIn_of _ (by decide +kernel)) ggL_law_X7_move
set_option maxRecDepth 20000 in
theorem ggL_law_L_pin : GoodIn wsL_law wsL_pin := goodIn_ca (goodIn_r _ [189, 162, 190, 191, 192, 2, 193, 16, 194, 169, 170, 171, 172, 173, 174, 175, 176, 177, 15, 178, 47, 883, 884, 885, 886, 887, 888, 889, 915, 916, 917, 918, 919] (by decide +kernel) (by decide +kernel)) (goodIn_sub (fun _ h => List.mem_append_right _ h) (by decide +kernel))
set_option maxRecDepth 20000 in
theorem gL_law_L_pin : GoodIn wsL_law (va_wsS RL 106 yL_pin wsL_pin) := goodIn_app (goodIn_of _ (by decide +kernel)) ggL_law_L_pin
set_option maxRecDepth 20000 in
theorem ggL_law_X7_pin : GoodIn wsL_law wsX7_pin := goodIn_r _ [198, 91, 183, 184, 185, 5, 186, 139, 143, 144, 145, 146, 147, 148, 149, 150, 890, 891, 892, 893, 894, 895, 896, 897, 898, 899, 900, 901, 902, 903, 904, 905, 906, 907, 908, 909, 910, 911, 912, 913, 914] (by decide +kernel) (by decide +kernel)
set_option maxRecDepth 20000 in
theorem gL_law_X7_pin : GoodIn wsL_law (wsV RL 109 RX7 yX7_pin wsX7_pin) := goodIn_app (goodIn_of _ (by decide +kernel)) ggL_law_X7_pin
set_option maxRecDepth 20000 in
theorem ggL_law_L_member : GoodIn wsL_law wsL_member := goodIn_ca (goodIn_ca (goodIn_ca (goodIn_r _ [201, 162, 113, 114, 202, 203, 204, 2, 205, 122, 123, 128, 129, 20, 169, 170, 171, 172, 173, 174, 16, 175, 176, 177, 15, 178, 47, 206, 207, 208, 209, 210, 211, 19, 212, 56, 213, 214, 215, 216, 55, 217, 218, 219, 220, 51, 52, 221, 222, 223, 224, 225, 226, 227, 228, 229, 53, 883, 884, 885, 886, 887, 888, 889, 915, 916, 917, 918, 919, 920, 921, 922, 923, 924, 925] (by decide +kernel) (by decide +kernel)) (goodIn_sub (fun _ h => List.mem_append_left _ (List.mem_append_left _ (List.mem_append_right _ h))) (by decide +kernel))) (goodIn_sub (fun _ h => List.mem_append_left _ (List.mem_append_right _ h)) (by decide +kernel))) (goodIn_sub (fun _ h => List.mem_append_right _ h) (by decide +kernel))
set_option maxRecDepth 20000 in
theorem gL_law_L_member : GoodIn wsL_law (va_wsS RL 110 yL_member wsL_member) := goodIn_app (goodIn_of _ (by decide +kernel)) ggL_law_L_member
set_option maxRecDepth 20000 in
theorem ggL_law_X7_member : GoodIn wsL_law wsX7_member := goodIn_r _ [233, 234, 183, 184, 185, 5, 186, 139, 143, 144, 145, 235, 236, 237, 238, 93, 94, 97, 146, 147, 148, 149, 150, 239, 240, 241, 242, 95, 890, 891, 892, 893, 894, 895, 896, 897, 898, 899, 900, 901, 902, 903, 904, 905, 906, 907, 908, 909, 910, 911, 912, 913, 914] (by decide +kernel) (by decide +kernel)
set_option maxRecDepth 20000 in
theorem gL_law_X7_member : GoodIn wsL_law (wsV RL 113 RX7 yX7_member wsX7_member) := goodIn_app (goodIn_of _ (by decide +kernel)) ggL_law_X7_member
set_option maxRecDepth 20000 in
theorem ggL_law_L_remove : GoodIn wsL_law wsL_remove := goodIn_ca (goodIn_r _ [245, 162, 246, 247, 248, 2, 249, 20, 250, 251, 252, 253, 254, 173, 174, 255, 214, 215, 19, 216, 56, 55, 256, 257, 258, 259, 260, 261, 262, 263, 213, 883, 884, 885, 886, 887, 888, 889, 920, 921, 922, 923, 924, 925] (by decide +kernel) (by decide +kernel)) (goodIn_sub (fun _ h => List.mem_append_right _ h) (by decide +kernel))
set_option maxRecDepth 20000 in
theorem gL_law_L_remove : GoodIn wsL_law (va_wsS RL 114 yL_remove wsL_remove) := goodIn_app (goodIn_of _ (by decide +kernel)) ggL_law_L_remove
set_option maxRecDepth 20000 in
theorem ggL_law_X7_remove : GoodIn wsL_law wsX7_remove := goodIn_r _ [267, 97, 268, 269, 270, 5, 271, 234, 143, 144, 145, 146, 147, 148, 149, 150, 272, 273, 274, 275, 890, 891, 892, 893, 894, 895, 896, 897, 898, 899, 900, 901, 902, 903, 904, 905, 906, 907, 908, 909, 910, 911, 912, 913, 914] (by decide +kernel) (by decide +kernel)
set_option maxRecDepth 20000 in
theorem gL_law_X7_remove : GoodIn wsL_law (wsV RL 117 RX7 yX7_remove wsX7_remove) := goodIn_app (goodIn_of _ (by decide +kernel)) ggL_law_X7_remove
set_option maxRecDepth 20000 in
theorem ggL_law_X6_rank : GoodIn wsL_law wsX6_rank := goodIn_r _ [279, 28, 16, 280, 281, 282, 27, 283, 70, 284, 67, 285, 68, 286, 287, 69, 288, 289, 290, 2, 291, 32, 292, 293, 294, 295, 20, 296, 225, 297, 298, 256, 257, 258, 19, 259, 56, 260, 261, 262, 263, 213, 214, 215, 216, 55, 255, 299, 300, 301, 31, 302, 303, 304, 305, 306, 307, 308, 309, 77, 78, 75, 310, 311, 312, 313, 314, 315, 316, 317, 318, 319, 320, 321, 322, 323, 324, 325, 326, 327, 328, 329, 330, 331, 332, 333, 76, 334, 335, 336, 337, 338, 339, 340, 341, 342, 343, 344, 345, 346, 347, 348, 349, 350, 351, 352, 353, 354, 355, 356, 357, 883, 884, 885, 886, 887, 888, 889, 930, 931, 932, 933, 915, 916, 917, 918, 919, 920, 921, 922, 923, 924, 925, 934, 935, 936, 937] (by decide +kernel) (by decide +kernel)
set_option maxRecDepth 20000 in
theorem gL_law_X6_rank : GoodIn wsL_law (wsV RL 118 RX6 yX6_rank wsX6_rank) := goodIn_app (goodIn_of _ (by decide +kernel)) ggL_law_X6_rank
set_option maxRecDepth 20000 in
theorem ggL_law_X7_rank : GoodIn wsL_law wsX7_rank := goodIn_r _ [361, 150, 362, 363, 364, 5, 365, 366, 367, 368, 369, 370, 139, 102, 89, 103, 90, 104, 91, 371, 372, 373, 374, 105, 234, 97, 93, 94, 375, 376, 377, 378, 379, 380, 381, 382, 383, 384, 385, 386, 106, 387, 388, 389, 390, 391, 392, 393, 394, 395, 396, 397, 398, 399, 890, 891, 892, 893, 894, 895, 896, 897, 898, 899, 900, 901, 902, 903, 904, 905, 906, 907, 908, 909, 910, 911, 912, 913, 914] (by decide +kernel) (by decide +kernel)
set_option maxRecDepth 20000 in
theorem gL_law_X7_rank : GoodIn wsL_law (wsV RL 121 RX7 yX7_rank wsX7_rank) := goodIn_app (goodIn_of _ (by decide +kernel)) ggL_law_X7_rank
set_option maxRecDepth 20000 in
theorem ggL_law_X6_motions : GoodIn wsL_law wsX6_motions := goodIn_r _ [403, 28, 16, 296, 280, 281, 282, 27, 283, 70, 284, 67, 285, 68, 286, 287, 69, 288, 289, 290, 2, 291, 32, 292, 293, 294, 295, 20, 225, 297, 298, 256, 257, 258, 19, 259, 56, 260, 261, 262, 263, 213, 214, 215, 216, 55, 255, 299, 300, 301, 31, 302, 303, 304, 305, 306, 307, 308, 309, 77, 78, 75, 310, 311, 312, 313, 314, 315, 316, 317, 318, 319, 320, 321, 322, 323, 324, 325, 326, 327, 328, 329, 330, 331, 332, 333, 76, 334, 335, 336, 337, 338, 339, 340, 341, 342, 343, 344, 345, 346, 347, 348, 349, 350, 351, 352, 353, 354, 355, 356, 357, 883, 884, 885, 886, 887, 888, 889, 930, 931, 932, 933, 915, 916, 917, 918, 919, 920, 921, 922, 923, 924, 925, 934, 935, 936, 937] (by decide +kernel) (by decide +kernel)
set_option maxRecDepth 20000 in
theorem gL_law_X6_motions : GoodIn wsL_law (wsV RL 122 RX6 yX6_motions wsX6_motions) := goodIn_app (goodIn_of _ (by decide +kernel)) ggL_law_X6_motions
set_option maxRecDepth 20000 in
theorem ggL_law_X7_motions : GoodIn wsL_law wsX7_motions := goodIn_r _ [407, 150, 366, 362, 363, 364, 5, 365, 367, 368, 369, 370, 139, 102, 89, 103, 90, 104, 91, 371, 372, 373, 374, 105, 234, 97, 93, 94, 375, 376, 377, 378, 379, 380, 381, 382, 383, 384, 385, 386, 106, 387, 388, 389, 390, 391, 392, 393, 394, 395, 396, 397, 398, 399, 890, 891, 892, 893, 894, 895, 896, 897, 898, 899, 900, 901, 902, 903, 904, 905, 906, 907, 908, 909, 910, 911, 912, 913, 914] (by decide +kernel) (by decide +kernel)
set_option maxRecDepth 20000 in
theorem gL_law_X7_motions : GoodIn wsL_law (wsV RL 125 RX7 yX7_motions wsX7_motions) := goodIn_app (goodIn_of _ (by decide +kernel)) ggL_law_X7_motions
set_option maxRecDepth 20000 in
theorem ggL_law_X6_stresses : GoodIn wsL_law wsX6_stresses := goodIn_r _ [411, 28, 16, 20, 280, 281, 282, 27, 283, 70, 284, 67, 285, 68, 286, 287, 69, 256, 257, 258, 19, 259, 56, 260, 261, 262, 263, 213, 214, 215, 216, 55, 288, 289, 290, 2, 291, 32, 292, 293, 294, 295, 296, 225, 297, 298, 255, 299, 300, 301, 31, 302, 303, 304, 305, 306, 307, 308, 309, 77, 78, 75, 310, 311, 312, 313, 314, 315, 316, 317, 318, 319, 320, 321, 322, 323, 324, 325, 326, 327, 328, 329, 330, 331, 332, 333, 76, 334, 335, 336, 337, 338, 339, 340, 341, 342, 343, 344, 345, 346, 347, 348, 349, 350, 351, 352, 353, 354, 355, 356, 357, 883, 884, 885, 886, 887, 888, 889, 930, 931, 932, 933, 915, 916, 917, 918, 919, 920, 921, 922, 923, 924, 925, 934, 935, 936, 937] (by decide +kernel) (by decide +kernel)
set_option maxRecDepth 20000 in
theorem gL_law_X6_stresses : GoodIn wsL_law (wsV RL 126 RX6 yX6_stresses wsX6_stresses) := goodIn_app (goodIn_of _ (by decide +kernel)) ggL_law_X6_stresses
set_option maxRecDepth 20000 in
theorem ggL_law_X7_stresses : GoodIn wsL_law wsX7_stresses := goodIn_r _ [415, 150, 272, 273, 274, 5, 275, 234, 97, 362, 363, 364, 365, 366, 367, 368, 369, 370, 139, 102, 89, 103, 90, 104, 91, 371, 372, 373, 374, 105, 93, 94, 375, 376, 377, 378, 379, 380, 381, 382, 383, 384, 385, 386, 106, 387, 388, 389, 390, 391, 392, 393, 394, 395, 396, 397, 398, 399, 890, 891, 892, 893, 894, 895, 896, 897, 898, 899, 900, 901, 902, 903, 904, 905, 906, 907, 908, 909, 910, 911, 912, 913, 914] (by decide +kernel) (by decide +kernel)
set_option maxRecDepth 20000 in
theorem gL_law_X7_stresses : GoodIn wsL_law (wsV RL 129 RX7 yX7_stresses wsX7_stresses) := goodIn_app (goodIn_of _ (by decide +kernel)) ggL_law_X7_stresses
set_option maxRecDepth 20000 in
theorem ggL_law_L_isRedundant : GoodIn wsL_law wsL_isRedundant := goodIn_ca (goodIn_r _ [418, 162, 419, 420, 421, 2, 422, 28, 16, 251, 252, 253, 254, 173, 174, 20, 255, 214, 215, 19, 216, 56, 55, 280, 281, 282, 27, 283, 70, 284, 67, 285, 68, 286, 287, 69, 288, 289, 290, 291, 32, 292, 293, 294, 295, 296, 225, 297, 298, 256, 257, 258, 259, 260, 261, 262, 263, 213, 299, 300, 301, 31, 302, 303, 304, 305, 306, 307, 308, 309, 77, 78, 75, 310, 311, 312, 313, 314, 315, 316, 317, 318, 319, 320, 321, 322, 323, 324, 325, 326, 327, 328, 329, 330, 331, 332, 333, 76, 334, 335, 336, 337, 338, 339, 340, 341, 342, 343, 344, 345, 346, 347, 348, 349, 350, 351, 352, 353, 354, 355, 356, 357, 883, 884, 885, 886, 887, 888, 889, 920, 921, 922, 923, 924, 925, 930, 931, 932, 933, 915, 916, 917, 918, 919, 934, 935, 936, 937] (by decide +kernel) (by decide +kernel)) (goodIn_sub (fun _ h => List.mem_append_right _ h) (by decide +kernel))
set_option maxRecDepth 20000 in
theorem gL_law_L_isRedundant : GoodIn wsL_law (va_wsS RL 130 yL_isRedundant wsL_isRedundant) := goodIn_app (goodIn_of _ (by decide +kernel)) ggL_law_L_isRedundant
set_option maxRecDepth 20000 in
theorem ggL_law_X7_isRedundant : GoodIn wsL_law wsX7_isRedundant := goodIn_r _ [426, 268, 269, 270, 5, 271, 234, 97, 143, 144, 145, 146, 147, 148, 149, 150, 362, 363, 364, 365, 366, 367, 368, 369, 370, 139, 102, 89, 103, 90, 104, 91, 371, 372, 373, 374, 105, 93, 94, 375, 376, 377, 378, 379, 380, 381, 382, 383, 384, 385, 386, 106, 387, 388, 389, 390, 391, 392, 393, 394, 395, 396, 397, 398, 399, 890, 891, 892, 893, 894, 895, 896, 897, 898, 899, 900, 901, 902, 903, 904, 905, 906, 907, 908, 909, 910, 911, 912, 913, 914] (by decide +kernel) (by decide +kernel)
set_option maxRecDepth 20000 in
theorem gL_law_X7_isRedundant : GoodIn wsL_law (wsV RL 132 RX7 yX7_isRedundant wsX7_isRedundant) := goodIn_app (goodIn_of _ (by decide +kernel)) ggL_law_X7_isRedundant
set_option maxRecDepth 20000 in
theorem ggL_law_L_flex : GoodIn wsL_law wsL_flex := goodIn_ca (goodIn_r _ [429, 162, 430, 431, 432, 2, 433, 28, 16, 32, 316, 169, 170, 171, 172, 173, 174, 175, 176, 177, 15, 178, 47, 434, 435, 436, 280, 281, 282, 27, 283, 70, 284, 67, 285, 68, 286, 287, 69, 292, 293, 294, 295, 20, 296, 225, 297, 298, 256, 257, 258, 19, 259, 56, 260, 261, 262, 263, 213, 214, 215, 216, 55, 255, 299, 300, 301, 31, 302, 303, 304, 305, 306, 307, 308, 309, 77, 78, 75, 310, 311, 312, 313, 314, 315, 317, 318, 319, 320, 321, 322, 323, 324, 325, 326, 327, 328, 329, 330, 331, 332, 333, 76, 334, 335, 336, 337, 338, 339, 340, 341, 342, 343, 344, 345, 346, 347, 348, 349, 350, 351, 352, 353, 354, 355, 356, 357, 437, 438, 439, 440, 441, 442, 443, 444, 883, 884, 885, 886, 887, 888, 889, 930, 931, 932, 933, 915, 916, 917, 918, 919, 920, 921, 922, 923, 924, 925, 934, 935, 936, 937] (by decide +kernel) (by decide +kernel)) (goodIn_sub (fun _ h => List.mem_append_right _ h) (by decide +kernel))
set_option maxRecDepth 20000 in
theorem gL_law_L_flex : GoodIn wsL_law (va_wsS RL 133 yL_flex wsL_flex) := goodIn_app (goodIn_of _ (by decide +kernel)) ggL_law_L_flex
set_option maxRecDepth 20000 in
theorem ggL_law_X7_flex : GoodIn wsL_law wsX7_flex := goodIn_r _ [448, 366, 104, 183, 184, 185, 5, 186, 139, 143, 144, 145, 146, 147, 148, 149, 150, 362, 363, 364, 365, 367, 368, 369, 370, 102, 89, 103, 90, 91, 371, 372, 373, 374, 105, 234, 97, 93, 94, 375, 376, 377, 378, 379, 380, 381, 382, 383, 384, 385, 386, 106, 387, 388, 389, 390, 391, 392, 393, 394, 395, 396, 397, 398, 399, 449, 450, 451, 452, 453, 454, 455, 456, 890, 891, 892, 893, 894, 895, 896, 897, 898, 899, 900, 901, 902, 903, 904, 905, 906, 907, 908, 909, 910, 911, 912, 913, 914] (by decide +kernel) (by decide +kernel)
set_option maxRecDepth 20000 in
theorem gL_law_X7_flex : GoodIn wsL_law (wsV RL 136 RX7 yX7_flex wsX7_flex) := goodIn_app (goodIn_of _ (by decide +kernel)) ggL_law_X7_flex
set_option maxRecDepth 20000 in
theorem ggL_law_L_balance : GoodIn wsL_law wsL_balance := goodIn_ca (goodIn_r _ [459, 162, 460, 461, 462, 2, 463, 28, 16, 32, 20, 251, 252, 253, 254, 173, 174, 255, 214, 215, 19, 216, 56, 55, 434, 435, 436, 280, 281, 282, 27, 283, 70, 284, 67, 285, 68, 286, 287, 69, 292, 293, 294, 295, 296, 225, 297, 298, 256, 257, 258, 259, 260, 261, 262, 263, 213, 299, 300, 301, 31, 302, 303, 304, 305, 306, 307, 308, 309, 77, 78, 75, 310, 311, 312, 313, 314, 315, 316, 317, 318, 319, 320, 321, 322, 323, 324, 325, 326, 327, 328, 329, 464, 465, 466, 467, 330, 331, 332, 333, 76, 334, 335, 336, 337, 338, 339, 340, 341, 342, 343, 344, 345, 346, 347, 348, 349, 350, 351, 352, 353, 354, 355, 356, 357, 437, 438, 439, 440, 468, 441, 442, 443, 444, 883, 884, 885, 886, 887, 888, 889, 920, 921, 922, 923, 924, 925, 930, 931, 932, 933, 915, 916, 917, 918, 919, 934, 935, 936, 937] (by decide +kernel) (by decide +kernel)) (goodIn_sub (fun _ h => List.mem_append_right _ h) (by decide +kernel))
set_option maxRecDepth 20000 in
theorem gL_law_L_balance : GoodIn wsL_law (va_wsS RL 137 yL_balance wsL_balance) := goodIn_app (goodIn_of _ (by decide +kernel)) ggL_law_L_balance
set_option maxRecDepth 20000 in
theorem ggL_law_X7_balance : GoodIn wsL_law wsX7_balance := goodIn_r _ [472, 366, 97, 268, 269, 270, 5, 271, 234, 143, 144, 145, 146, 147, 148, 149, 150, 367, 368, 369, 370, 139, 102, 89, 103, 90, 104, 91, 371, 372, 373, 374, 105, 93, 94, 375, 376, 377, 378, 379, 380, 381, 382, 383, 384, 385, 386, 106, 387, 388, 389, 390, 391, 392, 393, 394, 395, 396, 397, 398, 399, 449, 450, 451, 452, 453, 454, 455, 456, 890, 891, 892, 893, 894, 895, 896, 897, 898, 899, 900, 901, 902, 903, 904, 905, 906, 907, 908, 909, 910, 911, 912, 913, 914] (by decide +kernel) (by decide +kernel)
set_option maxRecDepth 20000 in
theorem gL_law_X7_balance : GoodIn wsL_law (wsV RL 139 RX7 yX7_balance wsX7_balance) := goodIn_app (goodIn_of _ (by decide +kernel)) ggL_law_X7_balance
set_option maxRecDepth 20000 in
theorem ggL_law_L_rankAt : GoodIn wsL_law wsL_rankAt := goodIn_ca (goodIn_r _ [475, 113, 476, 477, 478, 2, 479, 122, 123, 480, 28, 16, 130, 481, 482, 483, 27, 484, 67, 68, 69, 70, 485, 486, 487, 488, 489, 490, 491, 492, 493, 288, 289, 290, 291, 32, 292, 293, 294, 295, 20, 296, 225, 297, 298, 256, 257, 258, 19, 259, 56, 260, 261, 262, 263, 213, 214, 215, 216, 55, 255, 299, 300, 301, 31, 302, 303, 304, 305, 306, 307, 308, 309, 77, 78, 75, 310, 311, 312, 313, 314, 315, 316, 317, 318, 319, 320, 321, 322, 323, 324, 325, 326, 327, 328, 329, 330, 331, 332, 333, 76, 334, 335, 336, 337, 338, 339, 340, 341, 342, 343, 344, 345, 346, 347, 348, 349, 350, 351, 352, 353, 354, 355, 356, 357, 883, 884, 885, 886, 887, 888, 889, 915, 916, 917, 918, 919, 930, 931, 932, 933, 920, 921, 922, 923, 924, 925, 934, 935, 936, 937] (by decide +kernel) (by decide +kernel)) (goodIn_sub (fun _ h => List.mem_append_left _ (List.mem_append_left _ (List.mem_append_right _ h))) (by decide +kernel))
set_option maxRecDepth 20000 in
theorem gL_law_L_rankAt : GoodIn wsL_law (va_wsS RL 140 yL_rankAt wsL_rankAt) := goodIn_app (goodIn_of _ (by decide +kernel)) ggL_law_L_rankAt
set_option maxRecDepth 20000 in
theorem ggL_law_X7_rankAt : GoodIn wsL_law wsX7_rankAt := goodIn_r _ [497, 498, 139, 499, 500, 382, 102, 103, 104, 366, 143, 144, 5, 145, 146, 147, 148, 149, 150, 371, 372, 373, 374, 105, 234, 97, 93, 94, 375, 376, 377, 378, 379, 380, 381, 383, 384, 385, 386, 106, 387, 388, 389, 390, 391, 392, 393, 394, 395, 396, 397, 398, 399, 890, 891, 892, 893, 894, 895, 896, 897, 898, 899, 900, 901, 902, 903, 904, 905, 906, 907, 908, 909, 910, 911, 912, 913, 914] (by decide +kernel) (by decide +kernel)
set_option maxRecDepth 20000 in
theorem gL_law_X7_rankAt : GoodIn wsL_law (wsV RL 142 RX7 yX7_rankAt wsX7_rankAt) := goodIn_app (goodIn_of _ (by decide +kernel)) ggL_law_X7_rankAt
set_option maxRecDepth 20000 in
theorem ggL_law_X6_kept : GoodIn wsL_law wsX6_kept := goodIn_r _ [504, 505, 506, 507, 2, 508, 36, 37, 20, 225, 297, 298, 509, 510, 511, 35, 512, 82, 255, 214, 215, 19, 216, 56, 55, 513, 514, 515, 516, 517, 518, 519, 520, 521, 522, 523, 524, 525, 526, 527, 528, 83, 84, 529, 530, 531, 532, 533, 534, 535, 536, 537, 538, 539, 540, 541, 542, 543, 544, 545, 546, 547, 548, 549, 550, 551, 883, 884, 885, 886, 887, 888, 889, 920, 921, 922, 923, 924, 925, 938, 939, 940] (by decide +kernel) (by decide +kernel)
set_option maxRecDepth 20000 in
theorem gL_law_X6_kept : GoodIn wsL_law (wsV RL 143 RX6 yX6_kept wsX6_kept) := goodIn_app (goodIn_of _ (by decide +kernel)) ggL_law_X6_kept
set_option maxRecDepth 20000 in
theorem ggL_law_X7_kept : GoodIn wsL_law wsX7_kept := goodIn_r _ [555, 150, 556, 557, 558, 5, 559, 139, 108, 234, 107, 97, 93, 94, 560, 561, 562, 563, 564, 565, 566, 567, 568, 569, 570, 890, 891, 892, 893, 894, 895, 896, 897, 898, 899, 900, 901, 902, 903, 904, 905, 906, 907, 908, 909, 910, 911, 912, 913, 914] (by decide +kernel) (by decide +kernel)
set_option maxRecDepth 20000 in
theorem gL_law_X7_kept : GoodIn wsL_law (wsV RL 146 RX7 yX7_kept wsX7_kept) := goodIn_app (goodIn_of _ (by decide +kernel)) ggL_law_X7_kept
set_option maxRecDepth 20000 in
theorem ggL_law_L_isKept : GoodIn wsL_law wsL_isKept := goodIn_ca (goodIn_r _ [573, 162, 574, 575, 576, 2, 577, 37, 251, 252, 253, 254, 173, 174, 20, 255, 214, 215, 19, 216, 56, 55, 505, 506, 507, 508, 36, 225, 297, 298, 509, 510, 511, 35, 512, 82, 513, 514, 515, 516, 517, 518, 519, 520, 521, 522, 523, 524, 525, 526, 527, 528, 83, 84, 529, 530, 531, 532, 533, 534, 535, 536, 537, 538, 539, 540, 541, 542, 543, 544, 545, 546, 547, 548, 549, 550, 551, 578, 883, 884, 885, 886, 887, 888, 889, 920, 921, 922, 923, 924, 925, 938, 939, 940] (by decide +kernel) (by decide +kernel)) (goodIn_sub (fun _ h => List.mem_append_right _ h) (by decide +kernel))
set_option maxRecDepth 20000 in
theorem gL_law_L_isKept : GoodIn wsL_law (va_wsS RL 147 yL_isKept wsL_isKept) := goodIn_app (goodIn_of _ (by decide +kernel)) ggL_law_L_isKept
set_option maxRecDepth 20000 in
theorem ggL_law_X7_isKept : GoodIn wsL_law wsX7_isKept := goodIn_r _ [582, 107, 268, 269, 270, 5, 271, 234, 97, 143, 144, 145, 146, 147, 148, 149, 150, 556, 557, 558, 559, 139, 108, 93, 94, 560, 561, 562, 563, 564, 565, 566, 567, 568, 569, 570, 890, 891, 892, 893, 894, 895, 896, 897, 898, 899, 900, 901, 902, 903, 904, 905, 906, 907, 908, 909, 910, 911, 912, 913, 914] (by decide +kernel) (by decide +kernel)
set_option maxRecDepth 20000 in
theorem gL_law_X7_isKept : GoodIn wsL_law (wsV RL 149 RX7 yX7_isKept wsX7_isKept) := goodIn_app (goodIn_of _ (by decide +kernel)) ggL_law_X7_isKept
set_option maxRecDepth 20000 in
theorem ggL_law_L_block : GoodIn wsL_law wsL_block := goodIn_ca (goodIn_r _ [585, 162, 586, 587, 588, 2, 589, 20, 297, 298, 16, 130, 251, 252, 253, 254, 173, 174, 255, 214, 215, 19, 216, 56, 55, 505, 506, 507, 508, 36, 37, 225, 509, 510, 511, 35, 512, 82, 513, 514, 515, 516, 517, 518, 519, 520, 521, 522, 523, 524, 525, 526, 527, 528, 83, 84, 529, 530, 531, 532, 533, 534, 535, 536, 537, 538, 539, 540, 541, 542, 543, 544, 545, 546, 547, 548, 549, 550, 551, 590, 591, 592, 593, 594, 883, 884, 885, 886, 887, 888, 889, 920, 921, 922, 923, 924, 925, 915, 916, 917, 918, 919, 938, 939, 940] (by decide +kernel) (by decide +kernel)) (goodIn_sub (fun _ h => List.mem_append_right _ h) (by decide +kernel))
set_option maxRecDepth 20000 in
theorem gL_law_L_block : GoodIn wsL_law (va_wsS RL 150 yL_block wsL_block) := goodIn_app (goodIn_of _ (by decide +kernel)) ggL_law_L_block
set_option maxRecDepth 20000 in
theorem ggL_law_X7_block : GoodIn wsL_law wsX7_block := goodIn_r _ [598, 93, 94, 139, 268, 269, 270, 5, 271, 234, 97, 143, 144, 145, 146, 147, 148, 149, 150, 556, 557, 558, 559, 108, 107, 560, 561, 562, 563, 564, 565, 566, 567, 568, 569, 570, 890, 891, 892, 893, 894, 895, 896, 897, 898, 899, 900, 901, 902, 903, 904, 905, 906, 907, 908, 909, 910, 911, 912, 913, 914] (by decide +kernel) (by decide +kernel)
set_option maxRecDepth 20000 in
theorem gL_law_X7_block : GoodIn wsL_law (wsV RL 152 RX7 yX7_block wsX7_block) := goodIn_app (goodIn_of _ (by decide +kernel)) ggL_law_X7_block
set_option maxRecDepth 20000 in
theorem ggL_law_X6_lacks : GoodIn wsL_law wsX6_lacks := goodIn_r _ [602, 16, 130, 603, 604, 605, 2, 606, 505, 506, 507, 508, 36, 37, 20, 225, 297, 298, 509, 510, 511, 35, 512, 82, 255, 214, 215, 19, 216, 56, 55, 513, 514, 515, 516, 517, 518, 519, 520, 521, 522, 523, 524, 525, 526, 527, 528, 83, 84, 529, 530, 531, 532, 533, 534, 535, 536, 537, 538, 539, 540, 541, 542, 543, 544, 545, 546, 547, 548, 549, 550, 551, 883, 884, 885, 886, 887, 888, 889, 915, 916, 917, 918, 919, 920, 921, 922, 923, 924, 925, 938, 939, 940] (by decide +kernel) (by decide +kernel)
set_option maxRecDepth 20000 in
theorem gL_law_X6_lacks : GoodIn wsL_law (wsV RL 153 RX6 yX6_lacks wsX6_lacks) := goodIn_app (goodIn_of _ (by decide +kernel)) ggL_law_X6_lacks
set_option maxRecDepth 20000 in
theorem ggL_law_X7_lacks : GoodIn wsL_law wsX7_lacks := goodIn_r _ [610, 150, 139, 611, 612, 613, 5, 614, 556, 557, 558, 559, 108, 234, 107, 97, 93, 94, 560, 561, 562, 563, 564, 565, 566, 567, 568, 569, 570, 890, 891, 892, 893, 894, 895, 896, 897, 898, 899, 900, 901, 902, 903, 904, 905, 906, 907, 908, 909, 910, 911, 912, 913, 914] (by decide +kernel) (by decide +kernel)
set_option maxRecDepth 20000 in
theorem gL_law_X7_lacks : GoodIn wsL_law (wsV RL 156 RX7 yX7_lacks wsX7_lacks) := goodIn_app (goodIn_of _ (by decide +kernel)) ggL_law_X7_lacks
set_option maxRecDepth 20000 in
theorem ggL_law_X6_isGlobal : GoodIn wsL_law wsX6_isGlobal := goodIn_r _ [618, 16, 130, 37, 619, 620, 621, 2, 622, 20, 256, 257, 258, 19, 259, 56, 260, 261, 262, 263, 213, 214, 215, 216, 55, 505, 506, 507, 508, 36, 225, 297, 298, 509, 510, 511, 35, 512, 82, 255, 513, 514, 515, 516, 517, 518, 519, 520, 521, 522, 523, 524, 525, 526, 527, 528, 83, 84, 529, 530, 531, 532, 533, 534, 535, 536, 537, 538, 539, 540, 541, 542, 543, 544, 545, 546, 547, 548, 549, 550, 551, 603, 604, 605, 606, 623, 624, 625, 626, 627, 628, 629, 15, 630, 47, 590, 631, 632, 633, 634, 635, 636, 637, 638, 51, 52, 639, 640, 641, 642, 578, 883, 884, 885, 886, 887, 888, 889, 915, 916, 917, 918, 919, 920, 921, 922, 923, 924, 925, 938, 939, 940] (by decide +kernel) (by decide +kernel)
set_option maxRecDepth 20000 in
theorem gL_law_X6_isGlobal : GoodIn wsL_law (wsV RL 157 RX6 yX6_isGlobal wsX6_isGlobal) := goodIn_app (goodIn_of _ (by decide +kernel)) ggL_law_X6_isGlobal
set_option maxRecDepth 20000 in
theorem ggL_law_X7_isGlobal : GoodIn wsL_law wsX7_isGlobal := goodIn_r _ [646, 150, 139, 234, 97, 647, 648, 649, 5, 650, 651, 652, 653, 654, 93, 94, 568, 569, 570, 611, 612, 613, 614, 556, 557, 558, 559, 108, 107, 560, 561, 562, 563, 564, 565, 566, 567, 655, 656, 657, 658, 890, 891, 892, 893, 894, 895, 896, 897, 898, 899, 900, 901, 902, 903, 904, 905, 906, 907, 908, 909, 910, 911, 912, 913, 914] (by decide +kernel) (by decide +kernel)
set_option maxRecDepth 20000 in
theorem gL_law_X7_isGlobal : GoodIn wsL_law (wsV RL 161 RX7 yX7_isGlobal wsX7_isGlobal) := goodIn_app (goodIn_of _ (by decide +kernel)) ggL_law_X7_isGlobal
set_option maxRecDepth 20000 in
theorem ggL_law_L_grow : GoodIn wsL_law wsL_grow := goodIn_ca (goodIn_ca (goodIn_ca (goodIn_r _ [661, 162, 113, 114, 662, 663, 664, 2, 665, 16, 20, 24, 169, 170, 171, 172, 173, 174, 175, 176, 177, 15, 178, 47, 206, 207, 208, 122, 123, 119, 120, 121, 124, 125, 126, 127, 128, 129, 130, 221, 222, 223, 224, 225, 131, 132, 133, 134, 42, 43, 45, 46, 226, 227, 228, 19, 229, 56, 51, 52, 53, 666, 667, 668, 23, 669, 63, 60, 61, 62, 883, 884, 885, 886, 887, 888, 889, 915, 916, 917, 918, 919, 920, 921, 922, 923, 924, 925, 926, 927, 928, 929] (by decide +kernel) (by decide +kernel)) (goodIn_sub (fun _ h => List.mem_append_right _ h) (by decide +kernel))) (goodIn_sub (fun _ h => List.mem_append_left _ (List.mem_append_left _ (List.mem_append_right _ h))) (by decide +kernel))) (goodIn_sub (fun _ h => List.mem_append_left _ (List.mem_append_right _ h)) (by decide +kernel))
set_option maxRecDepth 20000 in
theorem gL_law_L_grow : GoodIn wsL_law (va_wsS RL 162 yL_grow wsL_grow) := goodIn_app (goodIn_of _ (by decide +kernel)) ggL_law_L_grow
set_option maxRecDepth 20000 in
theorem ggL_law_X7_grow : GoodIn wsL_law wsX7_grow := goodIn_r _ [673, 139, 234, 183, 184, 185, 5, 186, 143, 144, 145, 140, 141, 142, 146, 147, 148, 149, 150, 674, 675, 676, 677, 98, 678, 99, 100, 101, 151, 152, 153, 154, 89, 90, 91, 92, 239, 240, 241, 242, 93, 94, 95, 890, 891, 892, 893, 894, 895, 896, 897, 898, 899, 900, 901, 902, 903, 904, 905, 906, 907, 908, 909, 910, 911, 912, 913, 914] (by decide +kernel) (by decide +kernel)
set_option maxRecDepth 20000 in
theorem gL_law_X7_grow : GoodIn wsL_law (wsV RL 165 RX7 yX7_grow wsX7_grow) := goodIn_app (goodIn_of _ (by decide +kernel)) ggL_law_X7_grow
set_option maxRecDepth 20000 in
theorem ggL_law_L_split : GoodIn wsL_law wsL_split := goodIn_ca (goodIn_ca (goodIn_ca (goodIn_r _ [681, 162, 113, 114, 682, 683, 684, 2, 685, 122, 123, 20, 16, 250, 297, 298, 24, 251, 252, 253, 254, 173, 174, 255, 214, 215, 19, 216, 56, 55, 169, 170, 171, 172, 175, 176, 177, 15, 178, 47, 686, 218, 219, 220, 51, 52, 119, 120, 121, 124, 125, 126, 127, 128, 129, 130, 221, 222, 223, 224, 225, 131, 132, 133, 134, 42, 43, 45, 46, 226, 227, 228, 229, 53, 666, 667, 668, 23, 669, 63, 60, 61, 62, 883, 884, 885, 886, 887, 888, 889, 920, 921, 922, 923, 924, 925, 915, 916, 917, 918, 919, 926, 927, 928, 929] (by decide +kernel) (by decide +kernel)) (goodIn_sub (fun _ h => List.mem_append_left _ (List.mem_append_left _ (List.mem_append_right _ h))) (by decide +kernel))) (goodIn_sub (fun _ h => List.mem_append_right _ h) (by decide +kernel))) (goodIn_sub (fun _ h => List.mem_append_left _ (List.mem_append_right _ h)) (by decide +kernel))
set_option maxRecDepth 20000 in
theorem gL_law_L_split : GoodIn wsL_law (va_wsS RL 166 yL_split wsL_split) := goodIn_app (goodIn_of _ (by decide +kernel)) ggL_law_L_split
set_option maxRecDepth 20000 in
theorem ggL_law_X7_split : GoodIn wsL_law wsX7_split := goodIn_r _ [690, 93, 94, 139, 234, 97, 268, 269, 270, 5, 271, 143, 144, 145, 183, 184, 185, 186, 140, 141, 142, 146, 147, 148, 149, 150, 674, 675, 676, 677, 98, 678, 99, 100, 101, 151, 152, 153, 154, 89, 90, 91, 92, 239, 240, 241, 242, 95, 890, 891, 892, 893, 894, 895, 896, 897, 898, 899, 900, 901, 902, 903, 904, 905, 906, 907, 908, 909, 910, 911, 912, 913, 914] (by decide +kernel) (by decide +kernel)
set_option maxRecDepth 20000 in
theorem gL_law_X7_split : GoodIn wsL_law (wsV RL 168 RX7 yX7_split wsX7_split) := goodIn_app (goodIn_of _ (by decide +kernel)) ggL_law_X7_split
set_option maxRecDepth 20000 in
theorem ggL_law_L_undo : GoodIn wsL_law wsL_undo := goodIn_ca (goodIn_r _ [693, 114, 694, 695, 696, 2, 697, 128, 129, 24, 698, 20, 250, 699, 16, 700, 701, 702, 703, 704, 705, 130, 194, 706, 707, 708, 23, 709, 62, 255, 214, 215, 19, 216, 56, 55, 710, 711, 712, 713, 213, 217, 218, 219, 220, 51, 52, 714, 715, 716, 15, 717, 47, 718, 719, 720, 721, 297, 298, 209, 210, 211, 212, 722, 723, 724, 725, 63, 883, 884, 885, 886, 887, 888, 889, 926, 927, 928, 929, 920, 921, 922, 923, 924, 925, 915, 916, 917, 918, 919] (by decide +kernel) (by decide +kernel)) (goodIn_sub (fun _ h => List.mem_append_left _ (List.mem_append_right _ h)) (by decide +kernel))
set_option maxRecDepth 20000 in
theorem gL_law_L_undo : GoodIn wsL_law (va_wsS RL 169 yL_undo wsL_undo) := goodIn_app (goodIn_of _ (by decide +kernel)) ggL_law_L_undo
set_option maxRecDepth 20000 in
theorem ggL_law_X7_undo : GoodIn wsL_law wsX7_undo := goodIn_r _ [729, 678, 99, 100, 97, 139, 101, 93, 94, 730, 731, 732, 5, 733, 98, 91, 651, 652, 653, 654, 234, 568, 569, 570, 146, 147, 148, 149, 150, 235, 236, 237, 238, 890, 891, 892, 893, 894, 895, 896, 897, 898, 899, 900, 901, 902, 903, 904, 905, 906, 907, 908, 909, 910, 911, 912, 913, 914] (by decide +kernel) (by decide +kernel)
set_option maxRecDepth 20000 in
theorem gL_law_X7_undo : GoodIn wsL_law (wsV RL 172 RX7 yX7_undo wsX7_undo) := goodIn_app (goodIn_of _ (by decide +kernel)) ggL_law_X7_undo
set_option maxRecDepth 20000 in
theorem ggL_law_L_stress : GoodIn wsL_law wsL_stress := goodIn_ca (goodIn_ca (goodIn_r _ [736, 162, 113, 737, 738, 739, 2, 740, 122, 123, 20, 741, 251, 252, 253, 254, 173, 174, 255, 214, 215, 19, 216, 56, 55, 883, 884, 885, 886, 887, 888, 889, 920, 921, 922, 923, 924, 925] (by decide +kernel) (by decide +kernel)) (goodIn_sub (fun _ h => List.mem_append_left _ (List.mem_append_left _ (List.mem_append_right _ h))) (by decide +kernel))) (goodIn_sub (fun _ h => List.mem_append_right _ h) (by decide +kernel))
set_option maxRecDepth 20000 in
theorem gL_law_L_stress : GoodIn wsL_law (va_wsS RL 173 yL_stress wsL_stress) := goodIn_app (goodIn_of _ (by decide +kernel)) ggL_law_L_stress
set_option maxRecDepth 20000 in
theorem ggL_law_X7_stress : GoodIn wsL_law wsX7_stress := goodIn_r _ [745, 96, 268, 269, 270, 5, 271, 234, 97, 143, 144, 145, 146, 147, 148, 149, 150, 890, 891, 892, 893, 894, 895, 896, 897, 898, 899, 900, 901, 902, 903, 904, 905, 906, 907, 908, 909, 910, 911, 912, 913, 914] (by decide +kernel) (by decide +kernel)
set_option maxRecDepth 20000 in
theorem gL_law_X7_stress : GoodIn wsL_law (wsV RL 175 RX7 yX7_stress wsX7_stress) := goodIn_app (goodIn_of _ (by decide +kernel)) ggL_law_X7_stress
set_option maxRecDepth 20000 in
theorem ggL_law_X6_unbalanced : GoodIn wsL_law wsX6_unbalanced := goodIn_r _ [749, 16, 130, 194, 750, 751, 752, 2, 753, 20, 225, 297, 298, 741, 167, 168, 255, 214, 215, 19, 216, 56, 55, 686, 218, 219, 220, 51, 52, 590, 529, 530, 883, 884, 885, 886, 887, 888, 889, 915, 916, 917, 918, 919, 920, 921, 922, 923, 924, 925] (by decide +kernel) (by decide +kernel)
set_option maxRecDepth 20000 in
theorem gL_law_X6_unbalanced : GoodIn wsL_law (wsV RL 176 RX6 yX6_unbalanced wsX6_unbalanced) := goodIn_app (goodIn_of _ (by decide +kernel)) ggL_law_X6_unbalanced
set_option maxRecDepth 20000 in
theorem ggL_law_X7_unbalanced : GoodIn wsL_law wsX7_unbalanced := goodIn_r _ [757, 150, 758, 759, 760, 5, 761, 139, 91, 762, 763, 764, 765, 234, 97, 93, 94, 96, 89, 90, 890, 891, 892, 893, 894, 895, 896, 897, 898, 899, 900, 901, 902, 903, 904, 905, 906, 907, 908, 909, 910, 911, 912, 913, 914] (by decide +kernel) (by decide +kernel)
set_option maxRecDepth 20000 in
theorem gL_law_X7_unbalanced : GoodIn wsL_law (wsV RL 179 RX7 yX7_unbalanced wsX7_unbalanced) := goodIn_app (goodIn_of _ (by decide +kernel)) ggL_law_X7_unbalanced
set_option maxRecDepth 20000 in
theorem ggL_law_X6_isProper : GoodIn wsL_law wsX6_isProper := goodIn_r _ [769, 20, 225, 741, 255, 214, 215, 19, 216, 56, 55, 770, 771, 772, 773, 53, 54, 774, 747, 748, 2, 749, 16, 130, 194, 750, 751, 752, 753, 297, 298, 167, 168, 686, 218, 219, 220, 51, 52, 590, 529, 530, 883, 884, 885, 886, 887, 888, 889, 920, 921, 922, 923, 924, 925, 915, 916, 917, 918, 919] (by decide +kernel) (by decide +kernel)
set_option maxRecDepth 20000 in
theorem gL_law_X6_isProper : GoodIn wsL_law (wsV RL 180 RX6 yX6_isProper wsX6_isProper) := goodIn_app (goodIn_of _ (by decide +kernel)) ggL_law_X6_isProper
set_option maxRecDepth 20000 in
theorem ggL_law_X7_isProper : GoodIn wsL_law wsX7_isProper := goodIn_r _ [778, 150, 234, 97, 96, 95, 758, 759, 760, 5, 761, 139, 91, 762, 763, 764, 765, 93, 94, 89, 90, 890, 891, 892, 893, 894, 895, 896, 897, 898, 899, 900, 901, 902, 903, 904, 905, 906, 907, 908, 909, 910, 911, 912, 913, 914] (by decide +kernel) (by decide +kernel)
set_option maxRecDepth 20000 in
theorem gL_law_X7_isProper : GoodIn wsL_law (wsV RL 183 RX7 yX7_isProper wsX7_isProper) := goodIn_app (goodIn_of _ (by decide +kernel)) ggL_law_X7_isProper
set_option maxRecDepth 20000 in
theorem ggL_law_X6_matrix : GoodIn wsL_law wsX6_matrix := goodIn_r _ [782, 32, 16, 130, 20, 225, 297, 298, 741, 299, 300, 301, 31, 302, 303, 304, 305, 306, 307, 308, 309, 77, 78, 75, 255, 214, 215, 19, 216, 56, 55, 321, 322, 323, 324, 325, 326, 327, 328, 329, 330, 331, 332, 333, 76, 334, 335, 336, 337, 338, 339, 340, 341, 342, 343, 344, 345, 346, 347, 348, 349, 350, 351, 352, 353, 354, 355, 356, 357, 883, 884, 885, 886, 887, 888, 889, 915, 916, 917, 918, 919, 920, 921, 922, 923, 924, 925, 934, 935, 936, 937] (by decide +kernel) (by decide +kernel)
set_option maxRecDepth 20000 in
theorem gL_law_X6_matrix : GoodIn wsL_law (wsV RL 184 RX6 yX6_matrix wsX6_matrix) := goodIn_app (goodIn_of _ (by decide +kernel)) ggL_law_X6_matrix
set_option maxRecDepth 20000 in
theorem ggL_law_X7_matrix : GoodIn wsL_law wsX7_matrix := goodIn_r _ [786, 150, 105, 234, 97, 93, 94, 96, 139, 379, 380, 5, 381, 382, 383, 384, 385, 386, 106, 387, 388, 389, 390, 391, 392, 393, 394, 395, 396, 397, 398, 399, 890, 891, 892, 893, 894, 895, 896, 897, 898, 899, 900, 901, 902, 903, 904, 905, 906, 907, 908, 909, 910, 911, 912, 913, 914] (by decide +kernel) (by decide +kernel)
set_option maxRecDepth 20000 in
theorem gL_law_X7_matrix : GoodIn wsL_law (wsV RL 187 RX7 yX7_matrix wsX7_matrix) := goodIn_app (goodIn_of _ (by decide +kernel)) ggL_law_X7_matrix
set_option maxRecDepth 20000 in
theorem ggL_law_L_reaches : GoodIn wsL_law wsL_reaches := goodIn_ca (goodIn_r _ [789, 113, 790, 791, 792, 2, 793, 122, 123, 794, 795, 304, 305, 306, 796, 797, 798, 799] (by decide +kernel) (by decide +kernel)) (goodIn_sub (fun _ h => List.mem_append_left _ (List.mem_append_left _ (List.mem_append_right _ h))) (by decide +kernel))
set_option maxRecDepth 20000 in
theorem gL_law_L_reaches : GoodIn wsL_law (va_wsS RL 188 yL_reaches wsL_reaches) := goodIn_app (goodIn_of _ (by decide +kernel)) ggL_law_L_reaches
set_option maxRecDepth 20000 in
theorem ggL_law_X7_reaches : GoodIn wsL_law wsX7_reaches := goodIn_r _ [803, 804, 805, 143, 144, 5, 145, 146, 147, 148, 149, 150, 890, 891, 892, 893, 894, 895, 896, 897, 898, 899, 900, 901, 902, 903, 904, 905, 906, 907, 908, 909, 910, 911, 912, 913, 914] (by decide +kernel) (by decide +kernel)
set_option maxRecDepth 20000 in
theorem gL_law_X7_reaches : GoodIn wsL_law (wsV RL 190 RX7 yX7_reaches wsX7_reaches) := goodIn_app (goodIn_of _ (by decide +kernel)) ggL_law_X7_reaches
set_option maxRecDepth 20000 in
theorem ggL_law_L_folds : GoodIn wsL_law wsL_folds := goodIn_ca (goodIn_r _ [808, 113, 809, 810, 811, 2, 812, 122, 123, 813, 814, 815, 816, 817, 818, 819, 820, 821, 822] (by decide +kernel) (by decide +kernel)) (goodIn_sub (fun _ h => List.mem_append_left _ (List.mem_append_left _ (List.mem_append_right _ h))) (by decide +kernel))
set_option maxRecDepth 20000 in
theorem gL_law_L_folds : GoodIn wsL_law (va_wsS RL 191 yL_folds wsL_folds) := goodIn_app (goodIn_of _ (by decide +kernel)) ggL_law_L_folds
set_option maxRecDepth 20000 in
theorem ggL_law_X7_folds : GoodIn wsL_law wsX7_folds := goodIn_r _ [826, 143, 144, 5, 145, 146, 147, 148, 149, 150, 568, 569, 570, 890, 891, 892, 893, 894, 895, 896, 897, 898, 899, 900, 901, 902, 903, 904, 905, 906, 907, 908, 909, 910, 911, 912, 913, 914] (by decide +kernel) (by decide +kernel)
set_option maxRecDepth 20000 in
theorem gL_law_X7_folds : GoodIn wsL_law (wsV RL 194 RX7 yX7_folds wsX7_folds) := goodIn_app (goodIn_of _ (by decide +kernel)) ggL_law_X7_folds
set_option maxRecDepth 20000 in
theorem ggL_law_L_range : GoodIn wsL_law wsL_range := goodIn_ca (goodIn_ca (goodIn_r _ [829, 162, 113, 830, 831, 832, 2, 833, 122, 123, 16, 834, 169, 170, 171, 172, 173, 174, 175, 176, 177, 15, 178, 47, 883, 884, 885, 886, 887, 888, 889, 915, 916, 917, 918, 919] (by decide +kernel) (by decide +kernel)) (goodIn_sub (fun _ h => List.mem_append_left _ (List.mem_append_left _ (List.mem_append_right _ h))) (by decide +kernel))) (goodIn_sub (fun _ h => List.mem_append_right _ h) (by decide +kernel))
set_option maxRecDepth 20000 in
theorem gL_law_L_range : GoodIn wsL_law (va_wsS RL 195 yL_range wsL_range) := goodIn_app (goodIn_of _ (by decide +kernel)) ggL_law_L_range
set_option maxRecDepth 20000 in
theorem ggL_law_X7_range : GoodIn wsL_law wsX7_range := goodIn_r _ [838, 92, 183, 184, 185, 5, 186, 139, 143, 144, 145, 146, 147, 148, 149, 150, 890, 891, 892, 893, 894, 895, 896, 897, 898, 899, 900, 901, 902, 903, 904, 905, 906, 907, 908, 909, 910, 911, 912, 913, 914] (by decide +kernel) (by decide +kernel)
set_option maxRecDepth 20000 in
theorem gL_law_X7_range : GoodIn wsL_law (wsV RL 197 RX7 yX7_range wsX7_range) := goodIn_app (goodIn_of _ (by decide +kernel)) ggL_law_X7_range
set_option maxRecDepth 20000 in
theorem ggL_law_L_places : GoodIn wsL_law wsL_places := goodIn_ca (goodIn_r _ [841, 113, 842, 843, 844, 2, 845, 16, 846, 847, 848, 122, 123, 849, 850, 851, 15, 852, 47, 46, 42, 43, 883, 884, 885, 886, 887, 888, 889, 915, 916, 917, 918, 919] (by decide +kernel) (by decide +kernel)) (goodIn_sub (fun _ h => List.mem_append_left _ (List.mem_append_left _ (List.mem_append_right _ h))) (by decide +kernel))
set_option maxRecDepth 20000 in
theorem gL_law_L_places : GoodIn wsL_law (va_wsS RL 198 yL_places wsL_places) := goodIn_app (goodIn_of _ (by decide +kernel)) ggL_law_L_places
set_option maxRecDepth 20000 in
theorem ggL_law_X7_places : GoodIn wsL_law wsX7_places := goodIn_r _ [856, 143, 144, 5, 145, 146, 147, 148, 149, 150, 857, 858, 859, 860, 139, 89, 90, 92, 890, 891, 892, 893, 894, 895, 896, 897, 898, 899, 900, 901, 902, 903, 904, 905, 906, 907, 908, 909, 910, 911, 912, 913, 914] (by decide +kernel) (by decide +kernel)
set_option maxRecDepth 20000 in
theorem gL_law_X7_places : GoodIn wsL_law (wsV RL 200 RX7 yX7_places wsX7_places) := goodIn_app (goodIn_of _ (by decide +kernel)) ggL_law_X7_places
set_option maxRecDepth 20000 in
theorem ggL_law_L_place : GoodIn wsL_law wsL_place := goodIn_ca (goodIn_ca (goodIn_r _ [863, 162, 113, 864, 865, 866, 2, 867, 16, 434, 435, 436, 173, 174, 846, 847, 848, 122, 123, 849, 850, 851, 15, 852, 47, 46, 42, 43, 883, 884, 885, 886, 887, 888, 889, 915, 916, 917, 918, 919] (by decide +kernel) (by decide +kernel)) (goodIn_sub (fun _ h => List.mem_append_right _ h) (by decide +kernel))) (goodIn_sub (fun _ h => List.mem_append_left _ (List.mem_append_left _ (List.mem_append_right _ h))) (by decide +kernel))
set_option maxRecDepth 20000 in
theorem gL_law_L_place : GoodIn wsL_law (va_wsS RL 201 yL_place wsL_place) := goodIn_app (goodIn_of _ (by decide +kernel)) ggL_law_L_place
set_option maxRecDepth 20000 in
theorem ggL_law_X7_place : GoodIn wsL_law wsX7_place := goodIn_r _ [871, 143, 144, 5, 145, 146, 147, 148, 149, 150, 857, 858, 859, 860, 139, 89, 90, 92, 890, 891, 892, 893, 894, 895, 896, 897, 898, 899, 900, 901, 902, 903, 904, 905, 906, 907, 908, 909, 910, 911, 912, 913, 914] (by decide +kernel) (by decide +kernel)
set_option maxRecDepth 20000 in
theorem gL_law_X7_place : GoodIn wsL_law (wsV RL 203 RX7 yX7_place wsX7_place) := goodIn_app (goodIn_of _ (by decide +kernel)) ggL_law_X7_place
set_option maxRecDepth 20000 in
theorem ggL_law_L_ofJoint : GoodIn wsL_law wsL_ofJoint := goodIn_ca (goodIn_ca (goodIn_r _ [874, 162, 113, 875, 876, 877, 2, 878, 122, 123, 16, 167, 168, 20, 169, 170, 171, 172, 173, 174, 175, 176, 177, 15, 178, 47, 710, 711, 712, 19, 713, 56, 213, 214, 215, 216, 55, 217, 218, 219, 220, 51, 52, 883, 884, 885, 886, 887, 888, 889, 915, 916, 917, 918, 919, 920, 921, 922, 923, 924, 925] (by decide +kernel) (by decide +kernel)) (goodIn_sub (fun _ h => List.mem_append_left _ (List.mem_append_left _ (List.mem_append_right _ h))) (by decide +kernel))) (goodIn_sub (fun _ h => List.mem_append_right _ h) (by decide +kernel))
set_option maxRecDepth 20000 in
theorem gL_law_L_ofJoint : GoodIn wsL_law (va_wsS RL 204 yL_ofJoint wsL_ofJoint) := goodIn_app (goodIn_of _ (by decide +kernel)) ggL_law_L_ofJoint
set_option maxRecDepth 20000 in
theorem ggL_law_X7_ofJoint : GoodIn wsL_law wsX7_ofJoint := goodIn_r _ [882, 89, 90, 183, 184, 185, 5, 186, 139, 143, 144, 145, 146, 147, 148, 149, 150, 651, 652, 653, 654, 234, 97, 93, 94, 568, 569, 570, 890, 891, 892, 893, 894, 895, 896, 897, 898, 899, 900, 901, 902, 903, 904, 905, 906, 907, 908, 909, 910, 911, 912, 913, 914] (by decide +kernel) (by decide +kernel)
set_option maxRecDepth 20000 in
theorem gL_law_X7_ofJoint : GoodIn wsL_law (wsV RL 206 RX7 yX7_ofJoint wsX7_ofJoint) := goodIn_app (goodIn_of _ (by decide +kernel)) ggL_law_X7_ofJoint
