set_option maxRecDepth 20000 in
theorem gg5_L_isDone_r1 : GoodIn wsL_law wsL_isDone_r1 := goodIn_r _ [125, 118, 119, 115, 120, 121, 57, 58, 59, 2, 60, 61, 62, 63, 64, 65, 15, 66, 67, 68, 13, 69, 70, 71] (by decide +kernel) (by decide +kernel)
set_option maxRecDepth 20000 in
theorem gg5_L_isDone_r2 : GoodIn wsL_law wsL_isDone_r2 := goodIn_r _ [72, 73, 74, 75, 76, 12, 77, 78, 79, 80, 81, 82, 83, 84, 85, 86, 87, 88, 89, 90, 91, 92, 93, 94] (by decide +kernel) (by decide +kernel)
set_option maxRecDepth 20000 in
theorem gg5_L_isDone_r3 : GoodIn wsL_law wsL_isDone_r3 := goodIn_r _ [95, 96, 17, 97, 98, 99, 100, 101, 102, 103, 104, 105, 106, 107, 108, 109, 110, 111, 112, 126, 127, 128, 129, 130] (by decide +kernel) (by decide +kernel)
set_option maxRecDepth 20000 in
theorem gg5_L_isDone_r4 : GoodIn wsL_law wsL_isDone_r4 := goodIn_r _ [19, 131, 132, 133, 134, 135, 136, 137, 138, 139, 140, 141, 142, 143, 23, 144, 145, 146, 147, 148, 149, 150, 151, 152] (by decide +kernel) (by decide +kernel)
set_option maxRecDepth 20000 in
theorem gg5_L_isDone_r5 : GoodIn wsL_law wsL_isDone_r5 := goodIn_r _ [153, 154, 155, 156, 157, 158, 159, 160, 161, 162, 163, 164, 165, 166, 167, 168, 169, 33, 170, 171, 172, 173, 174, 175] (by decide +kernel) (by decide +kernel)
set_option maxRecDepth 20000 in
theorem gg5_L_isDone_r6 : GoodIn wsL_law wsL_isDone_r6 := goodIn_r _ [176, 177, 29, 178, 179, 180, 28, 181, 182, 51, 183, 184, 185, 186, 187, 188, 49, 189, 190, 191, 192, 193, 53, 194] (by decide +kernel) (by decide +kernel)
set_option maxRecDepth 20000 in
theorem gg5_L_isDone_r7 : GoodIn wsL_law wsL_isDone_r7 := goodIn_r _ [195, 196, 197, 198, 199, 200, 201, 202, 203, 204, 205, 206, 207, 208, 209, 210, 211, 212, 213, 214, 215, 216, 217, 218] (by decide +kernel) (by decide +kernel)
set_option maxRecDepth 20000 in
theorem gg5_L_isDone_r8 : GoodIn wsL_law wsL_isDone_r8 := goodIn_r _ [219, 220, 221, 222, 223, 224, 225, 226, 227, 228, 229, 230, 231, 232, 233, 234, 235, 236, 237, 238, 239, 240, 241, 242] (by decide +kernel) (by decide +kernel)
set_option maxRecDepth 20000 in
theorem gg5_L_isDone_r9 : GoodIn wsL_law wsL_isDone_r9 := goodIn_r _ [243, 244, 245, 246, 247, 248, 249, 250, 251, 252, 253, 254, 255, 256, 257, 258, 259, 260, 261, 262, 263, 264, 265, 266] (by decide +kernel) (by decide +kernel)
set_option maxRecDepth 20000 in
theorem gg5_L_isDone_r10 : GoodIn wsL_law wsL_isDone_r10 := goodIn_r _ [267, 268, 269, 270, 271, 272, 273, 274, 275, 276, 277, 278, 279, 280, 281, 282, 283, 21, 284, 285, 286, 287, 288, 289] (by decide +kernel) (by decide +kernel)
set_option maxRecDepth 20000 in
theorem gg5_L_isDone_r11 : GoodIn wsL_law wsL_isDone_r11 := goodIn_r _ [290, 291, 292, 293, 294, 295, 296, 297, 298, 299, 300, 301, 302, 303, 304, 305, 306, 307, 308, 309, 310, 311, 312, 313] (by decide +kernel) (by decide +kernel)
set_option maxRecDepth 20000 in
theorem gg5_L_isDone_r12 : GoodIn wsL_law wsL_isDone_r12 := goodIn_r _ [314, 315, 316, 317, 318, 319, 320, 8, 9, 321, 322, 323, 324, 325, 326, 327, 328, 329, 330, 331, 332, 333, 334, 335] (by decide +kernel) (by decide +kernel)
set_option maxRecDepth 20000 in
theorem gg5_L_isDone_r13 : GoodIn wsL_law wsL_isDone_r13 := goodIn_r _ [336, 337, 338, 339, 340, 341, 342, 343, 344, 345, 346, 347, 25, 348, 349, 350, 351, 352, 353, 354, 355, 356, 357, 358] (by decide +kernel) (by decide +kernel)
set_option maxRecDepth 20000 in
theorem gg5_L_isDone_r14 : GoodIn wsL_law wsL_isDone_r14 := goodIn_r _ [359, 360, 361, 362, 363, 364] (by decide +kernel) (by decide +kernel)
set_option maxRecDepth 20000 in
theorem gg5_L_isDone_c : GoodIn wsL_law [.codeWith yL_isDone cL_isDone 5 (some .boolean) [(15, 397, 401, 82), (15, 397, 405, 84), (15, 397, 409, 86)]] := goodIn_r _ [124] (by decide +kernel) (by decide +kernel)
theorem gg5_L_isDone_uX7 : GoodIn wsL_law wsX70 := goodIn_sub inlX7 (by decide +kernel)
theorem gg5_L_isDone_uX0 : GoodIn wsL_law wsX00 := goodIn_sub inlX0 (by decide +kernel)
theorem gg5_L_isDone_uX5 : GoodIn wsL_law wsX50 := goodIn_sub inlX5 (by decide +kernel)
theorem gg5_L_isDone_uX6 : GoodIn wsL_law wsX60 := goodIn_sub inlX6 (by decide +kernel)
theorem gg5_L_isDone_uX2 : GoodIn wsL_law wsX20 := goodIn_sub inlX2 (by decide +kernel)
theorem gg5_L_isDone_uX1 : GoodIn wsL_law wsX10 := goodIn_sub inlX1 (by decide +kernel)
theorem gg5_L_isDone_uX3 : GoodIn wsL_law wsX30 := goodIn_sub inlX3 (by decide +kernel)
theorem gg5_L_isDone_uX4 : GoodIn wsL_law wsX40 := goodIn_sub inlX4 (by decide +kernel)
set_option maxRecDepth 20000 in
theorem gg5_L_isDone_core : GoodIn wsL_law (.codeWith yL_isDone cL_isDone 5 (some .boolean) [(15, 397, 401, 82), (15, 397, 405, 84), (15, 397, 409, 86)] :: ((wsL_isDone_r1 ++ (wsL_isDone_r2 ++ (wsL_isDone_r3 ++ (wsL_isDone_r4 ++ (wsL_isDone_r5 ++ (wsL_isDone_r6 ++ (wsL_isDone_r7 ++ (wsL_isDone_r8 ++ (wsL_isDone_r9 ++ (wsL_isDone_r10 ++ (wsL_isDone_r11 ++ (wsL_isDone_r12 ++ (wsL_isDone_r13 ++ wsL_isDone_r14))))))))))))) ++ wsX70 ++ wsX00 ++ wsX50 ++ wsX60 ++ wsX20 ++ wsX10 ++ wsX30 ++ wsX40)) := fun w h => (List.mem_cons.mp h).elim (fun e => gg5_L_isDone_c w (List.mem_cons.mpr (Or.inl e))) (fun h => (goodIn_app (goodIn_app (goodIn_app (goodIn_app (goodIn_app (goodIn_app (goodIn_app (goodIn_app (goodIn_app gg5_L_isDone_r1 (goodIn_app gg5_L_isDone_r2 (goodIn_app gg5_L_isDone_r3 (goodIn_app gg5_L_isDone_r4 (goodIn_app gg5_L_isDone_r5 (goodIn_app gg5_L_isDone_r6 (goodIn_app gg5_L_isDone_r7 (goodIn_app gg5_L_isDone_r8 (goodIn_app gg5_L_isDone_r9 (goodIn_app gg5_L_isDone_r10 (goodIn_app gg5_L_isDone_r11 (goodIn_app gg5_L_isDone_r12 (goodIn_app gg5_L_isDone_r13 gg5_L_isDone_r14))))))))))))) gg5_L_isDone_uX7) gg5_L_isDone_uX0) gg5_L_isDone_uX5) gg5_L_isDone_uX6) gg5_L_isDone_uX2) gg5_L_isDone_uX1) gg5_L_isDone_uX3) gg5_L_isDone_uX4) w h)
set_option maxRecDepth 20000 in
theorem ggL_law_L_isDone : GoodIn wsL_law wsL_isDone := goodIn_ca (goodIn_ca (goodIn_ca gg5_L_isDone_core (goodIn_sub (fun _ h => List.mem_append_left _ (List.mem_append_left _ (List.mem_append_right _ h))) (by decide +kernel))) (goodIn_sub (fun _ h => List.mem_append_left _ (List.mem_append_right _ h)) (by decide +kernel))) (goodIn_sub (fun _ h => List.mem_append_right _ h) (by decide +kernel))
set_option maxRecDepth 20000 in
theorem gL_law_L_isDone : GoodIn wsL_law (va_wsS RL 29 yL_isDone wsL_isDone) := goodIn_app (goodIn_of _ (by decide +kernel)) ggL_law_L_isDone
set_option maxRecDepth 20000 in
theorem gg5_L_isAsked_r1 : GoodIn wsL_law wsL_isAsked_r1 := goodIn_r _ [392, 393, 394, 2, 395, 396, 397, 65, 15, 66, 29, 245, 398, 267, 268, 269, 61, 62, 13, 164, 87, 157, 158, 159] (by decide +kernel) (by decide +kernel)
set_option maxRecDepth 20000 in
theorem gg5_L_isAsked_r2 : GoodIn wsL_law wsL_isAsked_r2 := goodIn_r _ [270, 271, 130, 143, 272, 254, 273, 274, 275, 12, 276, 169, 277, 278, 279, 280, 19, 281, 282, 283, 21, 284, 285, 286] (by decide +kernel) (by decide +kernel)
set_option maxRecDepth 20000 in
theorem gg5_L_isAsked_r3 : GoodIn wsL_law wsL_isAsked_r3 := goodIn_r _ [287, 288, 289, 28, 290, 182, 190, 291, 292, 293, 294, 51, 189, 191, 192, 193, 53, 194, 195, 196, 197, 198, 199, 295] (by decide +kernel) (by decide +kernel)
set_option maxRecDepth 20000 in
theorem gg5_L_isAsked_r4 : GoodIn wsL_law wsL_isAsked_r4 := goodIn_r _ [399, 369, 370, 371, 67, 204, 68, 69, 152, 301, 88, 89, 90, 91, 92, 93, 71, 72, 73, 228, 229, 230, 17, 231] (by decide +kernel) (by decide +kernel)
set_option maxRecDepth 20000 in
theorem gg5_L_isAsked_r5 : GoodIn wsL_law wsL_isAsked_r5 := goodIn_r _ [232, 94, 95, 96, 97, 98, 99, 100, 101, 102, 103, 104, 105, 106, 107, 108, 109, 110, 111, 112, 324, 325, 326, 316] (by decide +kernel) (by decide +kernel)
set_option maxRecDepth 20000 in
theorem gg5_L_isAsked_r6 : GoodIn wsL_law wsL_isAsked_r6 := goodIn_r _ [259, 260, 208, 209, 210, 211, 212, 213, 214, 400, 263, 264, 265, 401, 402, 403, 404, 405, 354, 355, 356, 357, 358, 359] (by decide +kernel) (by decide +kernel)
set_option maxRecDepth 20000 in
theorem gg5_L_isAsked_r7 : GoodIn wsL_law wsL_isAsked_r7 := goodIn_r _ [360, 361, 362, 363, 364, 241, 242, 243, 244, 406, 407, 408, 409, 410, 411, 412, 413, 414, 415, 416, 417, 418, 419, 420] (by decide +kernel) (by decide +kernel)
set_option maxRecDepth 20000 in
theorem gg5_L_isAsked_r8 : GoodIn wsL_law wsL_isAsked_r8 := goodIn_r _ [8, 9, 421, 422, 423, 424, 425, 426, 427, 428, 429, 430, 431, 432, 433, 434, 435, 436, 437, 438, 439, 440, 441, 442] (by decide +kernel) (by decide +kernel)
set_option maxRecDepth 20000 in
theorem gg5_L_isAsked_r9 : GoodIn wsL_law wsL_isAsked_r9 := goodIn_r _ [443, 444, 445, 446, 447, 448, 449, 450, 451, 452, 453, 454, 455, 456, 457, 458, 459, 460, 461, 462, 463, 464, 465, 466] (by decide +kernel) (by decide +kernel)
set_option maxRecDepth 20000 in
theorem gg5_L_isAsked_r10 : GoodIn wsL_law wsL_isAsked_r10 := goodIn_r _ [467, 468, 469, 470, 471, 472, 473, 474, 475, 476, 477, 478, 479, 480, 481, 482, 483, 484, 485, 486, 487, 488, 489, 490] (by decide +kernel) (by decide +kernel)
set_option maxRecDepth 20000 in
theorem gg5_L_isAsked_r11 : GoodIn wsL_law wsL_isAsked_r11 := goodIn_r _ [491, 492, 493, 494, 495, 496, 497, 498, 499, 500, 501, 502, 503, 504, 505, 506, 507, 508, 509, 510, 511, 512, 513, 514] (by decide +kernel) (by decide +kernel)
set_option maxRecDepth 20000 in
theorem gg5_L_isAsked_r12 : GoodIn wsL_law wsL_isAsked_r12 := goodIn_r _ [515, 516, 517, 518, 519, 520, 521, 522, 523, 524, 525, 526, 527, 528, 529, 530, 531, 532, 533, 534, 535, 536, 537, 538] (by decide +kernel) (by decide +kernel)
set_option maxRecDepth 20000 in
theorem gg5_L_isAsked_r13 : GoodIn wsL_law wsL_isAsked_r13 := goodIn_r _ [539, 540, 541, 542, 543, 544, 545, 546, 547, 548, 549, 550, 551, 552, 553, 554, 555, 556, 557, 558, 559, 560, 561, 562] (by decide +kernel) (by decide +kernel)
set_option maxRecDepth 20000 in
theorem gg5_L_isAsked_r14 : GoodIn wsL_law wsL_isAsked_r14 := goodIn_r _ [563, 564, 565, 566, 567, 568, 569, 570, 571, 572, 573, 574, 575, 576, 577, 578, 579, 580, 581, 582, 583, 584, 585, 586] (by decide +kernel) (by decide +kernel)
set_option maxRecDepth 20000 in
theorem gg5_L_isAsked_r15 : GoodIn wsL_law wsL_isAsked_r15 := goodIn_r _ [587, 588, 589, 590, 591, 592, 593, 594, 595, 596, 597, 598, 599, 600, 601, 602, 603, 604, 605, 606, 607, 608, 609, 610] (by decide +kernel) (by decide +kernel)
set_option maxRecDepth 20000 in
theorem gg5_L_isAsked_r16 : GoodIn wsL_law wsL_isAsked_r16 := goodIn_r _ [611, 612, 613, 614, 615, 616, 617, 618, 619, 620, 621, 622, 623, 624, 625, 626, 627, 628, 373, 374, 375, 376, 377, 378] (by decide +kernel) (by decide +kernel)
set_option maxRecDepth 20000 in
theorem gg5_L_isAsked_r17 : GoodIn wsL_law wsL_isAsked_r17 := goodIn_r _ [379, 74, 75, 76, 77, 78, 380, 381, 382, 383, 384, 385, 386, 387, 388, 266, 368, 118, 119, 115, 120, 121, 629, 630] (by decide +kernel) (by decide +kernel)
set_option maxRecDepth 20000 in
theorem gg5_L_isAsked_r18 : GoodIn wsL_law wsL_isAsked_r18 := goodIn_r _ [631, 632, 633, 300, 303, 304, 305, 136, 137, 138, 306, 307, 308, 309, 310, 311, 312, 313, 314, 315, 317, 318, 319, 320] (by decide +kernel) (by decide +kernel)
set_option maxRecDepth 20000 in
theorem gg5_L_isAsked_r19 : GoodIn wsL_law wsL_isAsked_r19 := goodIn_r _ [321, 322, 323, 327, 328, 329, 330, 331, 332, 333, 334, 131, 70, 335, 336, 337, 338, 339, 340, 341, 342, 343, 344, 23] (by decide +kernel) (by decide +kernel)
set_option maxRecDepth 20000 in
theorem gg5_L_isAsked_r20 : GoodIn wsL_law wsL_isAsked_r20 := goodIn_r _ [345, 346, 347, 25, 348, 349, 350, 351, 352, 205, 206, 207, 262, 634, 635, 636] (by decide +kernel) (by decide +kernel)
set_option maxRecDepth 20000 in
theorem gg5_L_isAsked_c : GoodIn wsL_law [.code yL_isAsked cL_isAsked 9 (some .boolean)] := goodIn_r _ [391] (by decide +kernel) (by decide +kernel)
theorem gg5_L_isAsked_uX7 : GoodIn wsL_law wsX70 := goodIn_sub inlX7 (by decide +kernel)
theorem gg5_L_isAsked_uX0 : GoodIn wsL_law wsX00 := goodIn_sub inlX0 (by decide +kernel)
theorem gg5_L_isAsked_uX1 : GoodIn wsL_law wsX10 := goodIn_sub inlX1 (by decide +kernel)
theorem gg5_L_isAsked_uX5 : GoodIn wsL_law wsX50 := goodIn_sub inlX5 (by decide +kernel)
theorem gg5_L_isAsked_uX6 : GoodIn wsL_law wsX60 := goodIn_sub inlX6 (by decide +kernel)
theorem gg5_L_isAsked_uX3 : GoodIn wsL_law wsX30 := goodIn_sub inlX3 (by decide +kernel)
theorem gg5_L_isAsked_uJ4 : GoodIn wsL_law wsJ40 := goodIn_sub inlJ4 (by decide +kernel)
theorem gg5_L_isAsked_uJ0 : GoodIn wsL_law wsJ00 := goodIn_sub inlJ0 (by decide +kernel)
theorem gg5_L_isAsked_uX4 : GoodIn wsL_law wsX40 := goodIn_sub inlX4 (by decide +kernel)
theorem gg5_L_isAsked_uX2 : GoodIn wsL_law wsX20 := goodIn_sub inlX2 (by decide +kernel)
set_option maxRecDepth 20000 in
theorem gg5_L_isAsked_core : GoodIn wsL_law (.code yL_isAsked cL_isAsked 9 (some .boolean) :: ((wsL_isAsked_r1 ++ (wsL_isAsked_r2 ++ (wsL_isAsked_r3 ++ (wsL_isAsked_r4 ++ (wsL_isAsked_r5 ++ (wsL_isAsked_r6 ++ (wsL_isAsked_r7 ++ (wsL_isAsked_r8 ++ (wsL_isAsked_r9 ++ (wsL_isAsked_r10 ++ (wsL_isAsked_r11 ++ (wsL_isAsked_r12 ++ (wsL_isAsked_r13 ++ (wsL_isAsked_r14 ++ (wsL_isAsked_r15 ++ (wsL_isAsked_r16 ++ (wsL_isAsked_r17 ++ (wsL_isAsked_r18 ++ (wsL_isAsked_r19 ++ wsL_isAsked_r20))))))))))))))))))) ++ wsX70 ++ wsX00 ++ wsX10 ++ wsX50 ++ wsX60 ++ wsX30 ++ wsJ40 ++ wsJ00 ++ wsX40 ++ wsX20)) := fun w h => (List.mem_cons.mp h).elim (fun e => gg5_L_isAsked_c w (List.mem_cons.mpr (Or.inl e))) (fun h => (goodIn_app (goodIn_app (goodIn_app (goodIn_app (goodIn_app (goodIn_app (goodIn_app (goodIn_app (goodIn_app (goodIn_app (goodIn_app gg5_L_isAsked_r1 (goodIn_app gg5_L_isAsked_r2 (goodIn_app gg5_L_isAsked_r3 (goodIn_app gg5_L_isAsked_r4 (goodIn_app gg5_L_isAsked_r5 (goodIn_app gg5_L_isAsked_r6 (goodIn_app gg5_L_isAsked_r7 (goodIn_app gg5_L_isAsked_r8 (goodIn_app gg5_L_isAsked_r9 (goodIn_app gg5_L_isAsked_r10 (goodIn_app gg5_L_isAsked_r11 (goodIn_app gg5_L_isAsked_r12 (goodIn_app gg5_L_isAsked_r13 (goodIn_app gg5_L_isAsked_r14 (goodIn_app gg5_L_isAsked_r15 (goodIn_app gg5_L_isAsked_r16 (goodIn_app gg5_L_isAsked_r17 (goodIn_app gg5_L_isAsked_r18 (goodIn_app gg5_L_isAsked_r19 gg5_L_isAsked_r20))))))))))))))))))) gg5_L_isAsked_uX7) gg5_L_isAsked_uX0) gg5_L_isAsked_uX1) gg5_L_isAsked_uX5) gg5_L_isAsked_uX6) gg5_L_isAsked_uX3) gg5_L_isAsked_uJ4) gg5_L_isAsked_uJ0) gg5_L_isAsked_uX4) gg5_L_isAsked_uX2) w h)
set_option maxRecDepth 20000 in
theorem ggL_law_L_isAsked : GoodIn wsL_law wsL_isAsked := goodIn_ca (goodIn_ca gg5_L_isAsked_core (goodIn_sub (fun _ h => List.mem_append_left _ (List.mem_append_left _ (List.mem_append_right _ h))) (by decide +kernel))) (goodIn_sub (fun _ h => List.mem_append_right _ h) (by decide +kernel))
set_option maxRecDepth 20000 in
theorem gL_law_L_isAsked : GoodIn wsL_law (va_wsS RL 44 yL_isAsked wsL_isAsked) := goodIn_app (goodIn_of _ (by decide +kernel)) ggL_law_L_isAsked
