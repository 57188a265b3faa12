set_option maxRecDepth 20000 in
theorem gi_L_isWhole_c : GoodIn wsL_law [.code yL_isWhole cL_isWhole 9 (some .boolean)] := fun w hw => by
  rw [List.mem_singleton.mp hw]
  exact ⟨(List.mem_append_left _ (List.mem_append_left _ (List.mem_append_left _ (List.mem_append_left _ (List.mem_append_left _ (List.mem_append_left _ (List.mem_append_left _ (List.mem_append_left _ (List.mem_append_left _ (List.mem_append_left _ (List.mem_append_left _ (List.mem_append_right _ (List.mem_append_right _ (List.mem_append_right _ (List.mem_append_right _ (List.mem_append_right _ (List.mem_append_right _ (List.mem_append_right _ (List.mem_append_right _ (List.mem_append_right _ (List.mem_append_right _ (List.mem_append_right _ (List.mem_append_right _ (List.mem_append_right _ (List.mem_append_right _ (List.mem_append_right _ (List.mem_append_right _ (List.mem_append_right _ (List.mem_append_right _ (List.mem_append_right _ (List.mem_append_right _ (List.mem_append_right _ (List.mem_append_left _ (List.mem_of_getElem? (l := wsL_law0_r22) (i := 12) rfl)))))))))))))))))))))))))))))))))), good_of_word (by decide +kernel)⟩
set_option maxRecDepth 20000 in
theorem gi_L_isWhole_r1 : GoodIn wsL_law wsL_isWhole_r1 := goodIn_r _ [304, 305, 306, 2, 307, 266, 267, 13, 252, 253, 17, 308, 309, 310, 311, 312, 313, 314, 315, 316, 12, 317, 43, 318] (by decide +kernel) (by decide +kernel)
set_option maxRecDepth 20000 in
theorem gi_L_isWhole_r2 : GoodIn wsL_law wsL_isWhole_r2 := goodIn_r _ [319, 320, 16, 321, 52, 174, 103, 104, 105, 51, 322, 255, 256, 257, 47, 48, 517, 518, 519, 520, 25, 165, 149, 150] (by decide +kernel) (by decide +kernel)
set_option maxRecDepth 20000 in
theorem gi_L_isWhole_r3 : GoodIn wsL_law wsL_isWhole_r3 := goodIn_r _ [151, 24, 152, 66, 153, 63, 154, 64, 155, 156, 65, 157, 158, 159, 160, 29, 161, 162, 163, 164, 95, 96, 97, 166] (by decide +kernel) (by decide +kernel)
set_option maxRecDepth 20000 in
theorem gi_L_isWhole_r4 : GoodIn wsL_law wsL_isWhole_r4 := goodIn_r _ [167, 168, 169, 170, 171, 172, 173, 102, 175, 176, 177, 28, 178, 179, 180, 181, 182, 183, 184, 185, 74, 75, 72, 186] (by decide +kernel) (by decide +kernel)
set_option maxRecDepth 20000 in
theorem gi_L_isWhole_r5 : GoodIn wsL_law wsL_isWhole_r5 := goodIn_r _ [187, 188, 189, 190, 191, 192, 193, 194, 195, 196, 197, 198, 199, 200, 201, 202, 203, 204, 205, 206, 207, 208, 209, 73] (by decide +kernel) (by decide +kernel)
set_option maxRecDepth 20000 in
theorem gi_L_isWhole_r6 : GoodIn wsL_law wsL_isWhole_r6 := goodIn_r _ [210, 211, 212, 213, 214, 215, 216, 217, 218, 219, 220, 221, 222, 223, 224, 225, 226, 227, 228, 229, 230, 231, 232, 233] (by decide +kernel) (by decide +kernel)
set_option maxRecDepth 20000 in
theorem gi_L_isWhole_r7 : GoodIn wsL_law wsL_isWhole_r7 := goodIn_r _ [521, 522, 523, 524, 323, 324, 325, 326, 91, 92, 93, 94, 33, 34, 98, 99, 100, 32, 101, 79, 106, 107, 108, 109] (by decide +kernel) (by decide +kernel)
set_option maxRecDepth 20000 in
theorem gi_L_isWhole_r8 : GoodIn wsL_law wsL_isWhole_r8 := goodIn_r _ [110, 111, 112, 113, 114, 115, 116, 117, 118, 119, 120, 121, 80, 81, 122, 123, 124, 125, 126, 127, 128, 129, 130, 131] (by decide +kernel) (by decide +kernel)
set_option maxRecDepth 20000 in
theorem gi_L_isWhole_r9 : GoodIn wsL_law wsL_isWhole_r9 := goodIn_r _ [132, 133, 134, 135, 136, 137, 138, 139, 140, 141, 142, 143, 144, 145, 146, 147, 148, 525, 526, 527, 528, 386, 387, 388] (by decide +kernel) (by decide +kernel)
set_option maxRecDepth 20000 in
theorem gi_L_isWhole_r10 : GoodIn wsL_law wsL_isWhole_r10 := goodIn_r _ [393, 394, 395, 396, 398, 399, 400, 401, 82, 83, 84, 85, 86, 87, 88, 89, 90, 529, 244, 245, 246, 247, 248, 249] (by decide +kernel) (by decide +kernel)
set_option maxRecDepth 20000 in
theorem gi_L_isWhole_r11 : GoodIn wsL_law wsL_isWhole_r11 := goodIn_r _ [250, 251, 238, 254, 258, 234, 235, 236, 237, 239, 240, 241, 242, 49, 50, 243, 530, 531, 274, 532, 533, 371, 372, 373] (by decide +kernel) (by decide +kernel)
set_option maxRecDepth 20000 in
theorem gi_L_isWhole_r12 : GoodIn wsL_law wsL_isWhole_r12 := goodIn_r _ [331, 374, 375, 376, 377, 363, 364, 365, 366, 367, 378, 379, 380, 381, 382, 383, 384, 385, 389, 390, 391, 392, 397, 402] (by decide +kernel) (by decide +kernel)
set_option maxRecDepth 20000 in
theorem gi_L_isWhole_r13 : GoodIn wsL_law wsL_isWhole_r13 := goodIn_r _ [403, 404, 405, 534, 535, 536, 406, 407, 408, 409] (by decide +kernel) (by decide +kernel)
set_option maxRecDepth 20000 in
theorem gi_L_isWhole_X6 : GoodIn wsL_law wsX60 := goodIn_sub (fun w h => inlX6 w h) (by decide +kernel)
set_option maxRecDepth 20000 in
theorem gi_L_isWhole_X1 : GoodIn wsL_law wsX10 := goodIn_sub (fun w h => inlX1 w h) (by decide +kernel)
set_option maxRecDepth 20000 in
theorem gi_L_isWhole_X3 : GoodIn wsL_law wsX30 := goodIn_sub (fun w h => inlX3 w h) (by decide +kernel)
set_option maxRecDepth 20000 in
theorem gi_L_isWhole_X2 : GoodIn wsL_law wsX20 := goodIn_sub (fun w h => inlX2 w h) (by decide +kernel)
set_option maxRecDepth 20000 in
theorem gi_L_isWhole_X0 : GoodIn wsL_law wsX00 := goodIn_sub (fun w h => inlX0 w h) (by decide +kernel)
set_option maxRecDepth 20000 in
theorem gi_L_isWhole_X4 : GoodIn wsL_law wsX40 := goodIn_sub (fun w h => inlX4 w h) (by decide +kernel)
set_option maxRecDepth 20000 in
theorem gi_L_isWhole_t88 : GoodIn wsL_law ((vx_atS RX6 88 "java/lang/IllegalArgumentException" ["java/lang/RuntimeException", "java/lang/Exception"]).filter goodWord) := goodIn_sub (fun _ h => List.mem_append_left _ (List.mem_append_left _ (List.mem_append_right _ h))) (by decide +kernel)
set_option maxRecDepth 20000 in
theorem gi_L_isWhole_t292 : GoodIn wsL_law ((vx_atS RX6 292 "java/lang/IndexOutOfBoundsException" ["java/lang/RuntimeException", "java/lang/Exception"]).filter goodWord) := goodIn_sub (fun _ h => List.mem_append_right _ h) (by decide +kernel)
theorem ggL_law_L_isWhole : GoodIn wsL_law wsL_isWhole := gi_cons gi_L_isWhole_c (goodIn_app (goodIn_app (goodIn_app (goodIn_app (goodIn_app (goodIn_app (goodIn_app (goodIn_app (goodIn_app gi_L_isWhole_r1 (goodIn_app gi_L_isWhole_r2 (goodIn_app gi_L_isWhole_r3 (goodIn_app gi_L_isWhole_r4 (goodIn_app gi_L_isWhole_r5 (goodIn_app gi_L_isWhole_r6 (goodIn_app gi_L_isWhole_r7 (goodIn_app gi_L_isWhole_r8 (goodIn_app gi_L_isWhole_r9 (goodIn_app gi_L_isWhole_r10 (goodIn_app gi_L_isWhole_r11 (goodIn_app gi_L_isWhole_r12 gi_L_isWhole_r13)))))))))))) gi_L_isWhole_X6) gi_L_isWhole_X1) gi_L_isWhole_X3) gi_L_isWhole_X2) gi_L_isWhole_X0) gi_L_isWhole_X4) gi_L_isWhole_t88) gi_L_isWhole_t292)
set_option maxRecDepth 20000 in
theorem gL_law_L_isWhole : GoodIn wsL_law (va_wsS RL 158 yL_isWhole wsL_isWhole) := goodIn_app (goodIn_of _ (by decide +kernel)) ggL_law_L_isWhole
