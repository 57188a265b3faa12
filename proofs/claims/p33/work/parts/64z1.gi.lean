theorem gi_cons {big ws : List Cond} {c : Cond} (hc : GoodIn big [c]) (h : GoodIn big ws) : GoodIn big (c :: ws) := fun w hw => (List.mem_cons.mp hw).elim (fun e => hc w (by rw [e]; exact List.mem_cons_self)) (h w)
set_option maxRecDepth 20000 in
theorem inlX0 : ∀ w ∈ wsX00, w ∈ wsL_law := fun _ h => List.mem_append_left _ (List.mem_append_left _ (List.mem_append_left _ (List.mem_append_left _ (List.mem_append_left _ (List.mem_append_right _ h)))))
set_option maxRecDepth 20000 in
theorem inlX1 : ∀ w ∈ wsX10, w ∈ wsL_law := fun _ h => List.mem_append_left _ (List.mem_append_left _ (List.mem_append_left _ (List.mem_append_left _ (List.mem_append_left _ (List.mem_append_left _ (List.mem_append_left _ (List.mem_append_left _ (List.mem_append_left _ (List.mem_append_right _ h)))))))))
set_option maxRecDepth 20000 in
theorem inlX2 : ∀ w ∈ wsX20, w ∈ wsL_law := fun _ h => List.mem_append_left _ (List.mem_append_left _ (List.mem_append_left _ (List.mem_append_left _ (List.mem_append_left _ (List.mem_append_left _ (List.mem_append_right _ h))))))
set_option maxRecDepth 20000 in
theorem inlX3 : ∀ w ∈ wsX30, w ∈ wsL_law := fun _ h => List.mem_append_left _ (List.mem_append_left _ (List.mem_append_left _ (List.mem_append_left _ (List.mem_append_left _ (List.mem_append_left _ (List.mem_append_left _ (List.mem_append_left _ (List.mem_append_right _ h))))))))
set_option maxRecDepth 20000 in
theorem inlX4 : ∀ w ∈ wsX40, w ∈ wsL_law := fun _ h => List.mem_append_left _ (List.mem_append_left _ (List.mem_append_left _ (List.mem_append_left _ (List.mem_append_right _ h))))
set_option maxRecDepth 20000 in
theorem inlX5 : ∀ w ∈ wsX50, w ∈ wsL_law := fun _ h => List.mem_append_left _ (List.mem_append_left _ (List.mem_append_left _ (List.mem_append_left _ (List.mem_append_left _ (List.mem_append_left _ (List.mem_append_left _ (List.mem_append_right _ h)))))))
set_option maxRecDepth 20000 in
theorem inlX6 : ∀ w ∈ wsX60, w ∈ wsL_law := fun _ h => List.mem_append_left _ (List.mem_append_left _ (List.mem_append_left _ (List.mem_append_left _ (List.mem_append_left _ (List.mem_append_left _ (List.mem_append_left _ (List.mem_append_left _ (List.mem_append_left _ (List.mem_append_left _ (List.mem_append_right _ h))))))))))
set_option maxRecDepth 20000 in
theorem gi_L_step_c : GoodIn wsL_law [.code yL_step cL_step 19 (some .boolean)] := fun w hw => by
  rw [List.mem_singleton.mp hw]
  exact ⟨(List.mem_append_left _ (List.mem_append_left _ (List.mem_append_left _ (List.mem_append_left _ (List.mem_append_left _ (List.mem_append_left _ (List.mem_append_left _ (List.mem_append_left _ (List.mem_append_left _ (List.mem_append_left _ (List.mem_append_left _ (List.mem_append_right _ (List.mem_append_right _ (List.mem_append_right _ (List.mem_append_right _ (List.mem_append_right _ (List.mem_append_right _ (List.mem_append_right _ (List.mem_append_right _ (List.mem_append_right _ (List.mem_append_right _ (List.mem_append_right _ (List.mem_append_left _ (List.mem_of_getElem? (l := wsL_law0_r12) (i := 17) rfl)))))))))))))))))))))))), good_of_word (by decide +kernel)⟩
set_option maxRecDepth 20000 in
theorem gi_L_step_r1 : GoodIn wsL_law wsL_step_r1 := goodIn_r _ [282, 283, 284, 274, 285, 286, 287, 288, 289, 2, 290, 13, 291, 292, 293, 266, 267, 294, 295, 296, 297, 298, 299, 86] (by decide +kernel) (by decide +kernel)
set_option maxRecDepth 20000 in
theorem gi_L_step_r2 : GoodIn wsL_law wsL_step_r2 := goodIn_r _ [300, 301, 302, 12, 303, 43, 38, 39, 41, 42, 304, 305, 306, 307, 252, 253, 17, 308, 309, 310, 311, 312, 313, 314] (by decide +kernel) (by decide +kernel)
set_option maxRecDepth 20000 in
theorem gi_L_step_r3 : GoodIn wsL_law wsL_step_r3 := goodIn_r _ [315, 316, 317, 318, 319, 320, 16, 321, 52, 174, 103, 104, 105, 51, 322, 255, 256, 257, 47, 48, 323, 324, 325, 326] (by decide +kernel) (by decide +kernel)
set_option maxRecDepth 20000 in
theorem gi_L_step_r4 : GoodIn wsL_law wsL_step_r4 := goodIn_r _ [91, 92, 93, 94, 33, 34, 95, 96, 97, 98, 99, 100, 32, 101, 79, 102, 106, 107, 108, 109, 110, 111, 112, 113] (by decide +kernel) (by decide +kernel)
set_option maxRecDepth 20000 in
theorem gi_L_step_r5 : GoodIn wsL_law wsL_step_r5 := goodIn_r _ [114, 115, 116, 117, 118, 119, 120, 121, 80, 81, 122, 123, 124, 125, 126, 127, 128, 129, 130, 131, 132, 133, 134, 135] (by decide +kernel) (by decide +kernel)
set_option maxRecDepth 20000 in
theorem gi_L_step_r6 : GoodIn wsL_law wsL_step_r6 := goodIn_r _ [136, 137, 138, 139, 140, 141, 142, 143, 144, 327, 328, 329, 330, 331, 332, 333, 334, 335, 336, 337, 338, 339, 340, 341] (by decide +kernel) (by decide +kernel)
set_option maxRecDepth 20000 in
theorem gi_L_step_r7 : GoodIn wsL_law wsL_step_r7 := goodIn_r _ [342, 343, 344, 345, 346, 347, 348, 349, 350, 49, 351, 352, 353, 354, 21, 355, 356, 357, 20, 358, 59, 56, 57, 58] (by decide +kernel) (by decide +kernel)
set_option maxRecDepth 20000 in
theorem gi_L_step_r8 : GoodIn wsL_law wsL_step_r8 := goodIn_r _ [359, 360, 361, 362, 363, 364, 365, 366, 367, 254, 368, 369, 370, 371, 372, 373, 374, 375, 376, 377, 166, 167, 168, 169] (by decide +kernel) (by decide +kernel)
set_option maxRecDepth 20000 in
theorem gi_L_step_r9 : GoodIn wsL_law wsL_step_r9 := goodIn_r _ [170, 171, 172, 173, 378, 379, 380, 381, 238, 382, 383, 384, 385, 25, 29, 386, 387, 388, 149, 150, 151, 24, 152, 66] (by decide +kernel) (by decide +kernel)
set_option maxRecDepth 20000 in
theorem gi_L_step_r10 : GoodIn wsL_law wsL_step_r10 := goodIn_r _ [153, 63, 154, 64, 155, 156, 65, 161, 162, 163, 164, 165, 175, 176, 177, 28, 178, 179, 180, 181, 182, 183, 184, 185] (by decide +kernel) (by decide +kernel)
set_option maxRecDepth 20000 in
theorem gi_L_step_r11 : GoodIn wsL_law wsL_step_r11 := goodIn_r _ [74, 75, 72, 186, 187, 188, 189, 190, 191, 192, 193, 194, 195, 196, 197, 198, 199, 200, 201, 202, 203, 204, 205, 389] (by decide +kernel) (by decide +kernel)
set_option maxRecDepth 20000 in
theorem gi_L_step_r12 : GoodIn wsL_law wsL_step_r12 := goodIn_r _ [390, 391, 392, 206, 207, 208, 209, 73, 210, 211, 212, 213, 214, 215, 216, 217, 218, 219, 220, 221, 222, 223, 224, 225] (by decide +kernel) (by decide +kernel)
set_option maxRecDepth 20000 in
theorem gi_L_step_r13 : GoodIn wsL_law wsL_step_r13 := goodIn_r _ [226, 227, 228, 229, 230, 231, 232, 233, 393, 394, 395, 396, 397, 398, 399, 400, 401, 402, 403, 404, 405, 157, 158, 159] (by decide +kernel) (by decide +kernel)
set_option maxRecDepth 20000 in
theorem gi_L_step_r14 : GoodIn wsL_law wsL_step_r14 := goodIn_r _ [160, 406, 407, 408, 409, 247, 145, 146, 147, 148, 410, 411, 412, 413, 414, 415, 416, 417, 418, 419, 420, 421, 422, 423] (by decide +kernel) (by decide +kernel)
set_option maxRecDepth 20000 in
theorem gi_L_step_r15 : GoodIn wsL_law wsL_step_r15 := goodIn_r _ [424, 425, 426, 427, 428, 429, 430, 431, 432, 433, 434, 435, 436, 437, 438, 439, 440, 441, 442, 443, 444, 445, 446, 447] (by decide +kernel) (by decide +kernel)
set_option maxRecDepth 20000 in
theorem gi_L_step_r16 : GoodIn wsL_law wsL_step_r16 := goodIn_r _ [448, 449, 450, 451, 452, 453, 454, 455, 456, 457, 458, 259, 260, 261, 262, 263, 264, 265, 268, 269, 270, 271, 459, 460] (by decide +kernel) (by decide +kernel)
set_option maxRecDepth 20000 in
theorem gi_L_step_r17 : GoodIn wsL_law wsL_step_r17 := goodIn_r _ [461, 462, 463, 464, 465, 466, 467, 468, 469, 470, 471, 472, 473, 474, 475, 476, 477, 478, 479, 480, 481, 482, 483, 484] (by decide +kernel) (by decide +kernel)
set_option maxRecDepth 20000 in
theorem gi_L_step_r18 : GoodIn wsL_law wsL_step_r18 := goodIn_r _ [485, 486, 487, 488, 489, 490, 491, 492, 87, 88, 89, 90, 493, 494, 495, 496, 497, 498, 499, 500, 258, 501, 502, 503] (by decide +kernel) (by decide +kernel)
set_option maxRecDepth 20000 in
theorem gi_L_step_r19 : GoodIn wsL_law wsL_step_r19 := goodIn_r _ [504, 505, 506, 507, 508, 509, 510, 511, 512, 513, 82, 83, 84, 85] (by decide +kernel) (by decide +kernel)
set_option maxRecDepth 20000 in
theorem gi_L_step_X6 : GoodIn wsL_law wsX60 := goodIn_sub (fun w h => inlX6 w h) (by decide +kernel)
set_option maxRecDepth 20000 in
theorem gi_L_step_X1 : GoodIn wsL_law wsX10 := goodIn_sub (fun w h => inlX1 w h) (by decide +kernel)
set_option maxRecDepth 20000 in
theorem gi_L_step_X3 : GoodIn wsL_law wsX30 := goodIn_sub (fun w h => inlX3 w h) (by decide +kernel)
set_option maxRecDepth 20000 in
theorem gi_L_step_X4 : GoodIn wsL_law wsX40 := goodIn_sub (fun w h => inlX4 w h) (by decide +kernel)
set_option maxRecDepth 20000 in
theorem gi_L_step_X5 : GoodIn wsL_law wsX50 := goodIn_sub (fun w h => inlX5 w h) (by decide +kernel)
set_option maxRecDepth 20000 in
theorem gi_L_step_X2 : GoodIn wsL_law wsX20 := goodIn_sub (fun w h => inlX2 w h) (by decide +kernel)
set_option maxRecDepth 20000 in
theorem gi_L_step_X0 : GoodIn wsL_law wsX00 := goodIn_sub (fun w h => inlX0 w h) (by decide +kernel)
set_option maxRecDepth 20000 in
theorem gi_L_step_t88 : GoodIn wsL_law ((vx_atS RX6 88 "java/lang/IllegalArgumentException" ["java/lang/RuntimeException", "java/lang/Exception"]).filter goodWord) := goodIn_sub (fun _ h => List.mem_append_left _ (List.mem_append_left _ (List.mem_append_right _ h))) (by decide +kernel)
set_option maxRecDepth 20000 in
theorem gi_L_step_t99 : GoodIn wsL_law ((vx_atS RX6 99 "java/lang/IllegalStateException" ["java/lang/RuntimeException", "java/lang/Exception"]).filter goodWord) := goodIn_sub (fun _ h => List.mem_append_left _ (List.mem_append_right _ h)) (by decide +kernel)
set_option maxRecDepth 20000 in
theorem gi_L_step_t292 : GoodIn wsL_law ((vx_atS RX6 292 "java/lang/IndexOutOfBoundsException" ["java/lang/RuntimeException", "java/lang/Exception"]).filter goodWord) := goodIn_sub (fun _ h => List.mem_append_right _ h) (by decide +kernel)
theorem ggL_law_L_step : GoodIn wsL_law wsL_step := gi_cons gi_L_step_c (goodIn_app (goodIn_app (goodIn_app (goodIn_app (goodIn_app (goodIn_app (goodIn_app (goodIn_app (goodIn_app (goodIn_app (goodIn_app gi_L_step_r1 (goodIn_app gi_L_step_r2 (goodIn_app gi_L_step_r3 (goodIn_app gi_L_step_r4 (goodIn_app gi_L_step_r5 (goodIn_app gi_L_step_r6 (goodIn_app gi_L_step_r7 (goodIn_app gi_L_step_r8 (goodIn_app gi_L_step_r9 (goodIn_app gi_L_step_r10 (goodIn_app gi_L_step_r11 (goodIn_app gi_L_step_r12 (goodIn_app gi_L_step_r13 (goodIn_app gi_L_step_r14 (goodIn_app gi_L_step_r15 (goodIn_app gi_L_step_r16 (goodIn_app gi_L_step_r17 (goodIn_app gi_L_step_r18 gi_L_step_r19)))))))))))))))))) gi_L_step_X6) gi_L_step_X1) gi_L_step_X3) gi_L_step_X4) gi_L_step_X5) gi_L_step_X2) gi_L_step_X0) gi_L_step_t88) gi_L_step_t99) gi_L_step_t292)
set_option maxRecDepth 20000 in
theorem gL_law_L_step : GoodIn wsL_law (va_wsS RL 155 yL_step wsL_step) := goodIn_app (goodIn_of _ (by decide +kernel)) ggL_law_L_step
