/-! the law: its callees' words among its own, part c. Packed by wip/gen25/p25names.py -/
set_option maxRecDepth 100000 in
theorem gkL_isRefused_L_all_r7 : GoodIn wsL_isRefused wsL_all_r7 := goodIn_r _ [149, 150, 151, 152, 153, 154, 155, 156, 157, 158, 159, 160, 161] (by decide +kernel) (by decide +kernel) -- ggL
set_option maxRecDepth 20000 in
theorem ggL_isRefused_L_all : GoodIn wsL_isRefused wsL_all := goodIn_ca ((goodIn_cc (goodIn_r _ [4] (by decide +kernel) (by decide +kernel)) (goodIn_app (goodIn_app (goodIn_app (goodIn_app (goodIn_app (goodIn_app gkL_isRefused_L_all_r1 (goodIn_app gkL_isRefused_L_all_r2 (goodIn_app gkL_isRefused_L_all_r3 (goodIn_app gkL_isRefused_L_all_r4 (goodIn_app gkL_isRefused_L_all_r5 (goodIn_app gkL_isRefused_L_all_r6 gkL_isRefused_L_all_r7)))))) (goodIn_r _ [568, 569, 570, 571, 572, 573, 574, 575] (by decide +kernel) (by decide +kernel))) (goodIn_r _ [576, 577, 578, 579, 580, 581, 582, 583, 584, 585, 586, 587, 588] (by decide +kernel) (by decide +kernel))) (goodIn_r _ [589, 590, 591] (by decide +kernel) (by decide +kernel))) (goodIn_r _ [592, 593, 594] (by decide +kernel) (by decide +kernel))) (goodIn_r _ [595, 596, 597, 598, 599, 600, 601, 602, 603, 604, 605, 606, 607] (by decide +kernel) (by decide +kernel))))) (goodIn_sub (fun _ h => List.mem_cons_of_mem _ (List.mem_append_left _ (List.mem_append_left _ (List.mem_append_right _ h)))) (by decide +kernel))
set_option maxRecDepth 20000 in
theorem gL_isRefused_L_all : GoodIn wsL_isRefused (va_wsS RL 105 yL_all wsL_all) := goodIn_app (goodIn_of _ (by decide +kernel)) ggL_isRefused_L_all
set_option maxRecDepth 100000 in
theorem gkL_isRefused_L_does_r1 : GoodIn wsL_isRefused wsL_does_r1 := goodIn_r _ [165, 166, 167, 168, 169, 170, 11, 171, 172, 173, 174, 175, 176, 177, 178, 179, 180, 181, 182, 183, 184, 185, 186, 187] (by decide +kernel) (by decide +kernel) -- ggL
set_option maxRecDepth 100000 in
theorem gkL_isRefused_L_does_r2 : GoodIn wsL_isRefused wsL_does_r2 := goodIn_r _ [188, 189, 190, 191, 192, 193, 194, 195, 196, 197, 198, 199, 200, 201, 145, 202, 203, 13, 127, 204, 205, 206, 207, 141] (by decide +kernel) (by decide +kernel) -- ggL
set_option maxRecDepth 100000 in
theorem gkL_isRefused_L_does_r3 : GoodIn wsL_isRefused wsL_does_r3 := goodIn_r _ [142, 143, 144, 125, 126, 208, 209, 210, 211, 212, 213, 214, 129, 68, 69, 70, 71, 72, 215, 216, 217, 218, 219, 220] (by decide +kernel) (by decide +kernel) -- ggL
set_option maxRecDepth 100000 in
theorem gkL_isRefused_L_does_r4 : GoodIn wsL_isRefused wsL_does_r4 := goodIn_r _ [221, 222, 223, 224, 225, 226, 227, 228, 98, 229, 230, 231, 232, 233, 234, 235, 89, 236, 237, 238, 239, 240, 241, 242] (by decide +kernel) (by decide +kernel) -- ggL
set_option maxRecDepth 100000 in
theorem gkL_isRefused_L_does_r5 : GoodIn wsL_isRefused wsL_does_r5 := goodIn_r _ [243, 244, 245, 246, 247, 248, 249, 250, 251, 252, 253, 254, 255, 256, 257, 258, 259, 260, 261, 262, 263, 264, 265, 266] (by decide +kernel) (by decide +kernel) -- ggL
set_option maxRecDepth 100000 in
theorem gkL_isRefused_L_does_r6 : GoodIn wsL_isRefused wsL_does_r6 := goodIn_r _ [267, 268, 269, 270, 271, 272, 273, 274, 275, 276, 277, 278, 279, 280, 281, 282, 283, 284, 285, 286, 287, 288, 289, 100] (by decide +kernel) (by decide +kernel) -- ggL
set_option maxRecDepth 100000 in
theorem gkL_isRefused_L_does_r7 : GoodIn wsL_isRefused wsL_does_r7 := goodIn_r _ [290, 101, 102, 291, 292, 293, 294, 295, 296, 297, 298, 299, 300, 301, 302, 303, 304, 305, 306, 307, 308, 309, 310, 311] (by decide +kernel) (by decide +kernel) -- ggL
set_option maxRecDepth 100000 in
theorem gkL_isRefused_L_does_r8 : GoodIn wsL_isRefused wsL_does_r8 := goodIn_r _ [312, 313, 314, 315, 316, 17, 317, 66, 116, 65, 94, 111, 318, 319, 320, 321, 20, 322, 36, 156, 323, 324, 325, 326] (by decide +kernel) (by decide +kernel) -- ggL
set_option maxRecDepth 100000 in
theorem gkL_isRefused_L_does_r9 : GoodIn wsL_isRefused wsL_does_r9 := goodIn_r _ [67, 73, 74, 75, 76, 77, 78, 79, 80, 81, 82, 83, 84, 85, 86, 87, 88, 327, 328, 329, 330, 331, 332, 333] (by decide +kernel) (by decide +kernel) -- ggL
set_option maxRecDepth 100000 in
theorem gkL_isRefused_L_does_r10 : GoodIn wsL_isRefused wsL_does_r10 := goodIn_r _ [334, 335, 336, 337, 338, 339, 340, 341, 342, 343, 344, 345, 112, 113, 114, 115, 346, 347, 348, 349, 350, 351, 352, 353] (by decide +kernel) (by decide +kernel) -- ggL
set_option maxRecDepth 100000 in
theorem gkL_isRefused_L_does_r11 : GoodIn wsL_isRefused wsL_does_r11 := goodIn_r _ [354, 355, 356, 357, 358, 359, 360, 361, 362, 363, 364, 365, 366, 367, 368, 369, 370, 371, 372, 373, 374, 375, 376, 377] (by decide +kernel) (by decide +kernel) -- ggL
set_option maxRecDepth 100000 in
theorem gkL_isRefused_L_does_r12 : GoodIn wsL_isRefused wsL_does_r12 := goodIn_r _ [378, 379, 380, 381, 382, 383, 384, 385, 386, 387, 388, 27, 389, 390, 391, 392, 393, 394, 395, 396, 397, 398, 28, 29] (by decide +kernel) (by decide +kernel) -- ggL
set_option maxRecDepth 100000 in
theorem gkL_isRefused_L_does_r13 : GoodIn wsL_isRefused wsL_does_r13 := goodIn_r _ [30, 31, 32, 33, 34, 35, 399, 400, 401, 402, 403, 404, 405, 406, 407, 408, 409, 410, 411, 44, 412, 46, 413, 414] (by decide +kernel) (by decide +kernel) -- ggL
set_option maxRecDepth 100000 in
theorem gkL_isRefused_L_does_r14 : GoodIn wsL_isRefused wsL_does_r14 := goodIn_r _ [415, 416, 417, 47, 418, 56, 419, 420, 421, 422, 423, 424, 425, 426, 427, 428, 429, 430, 431, 432, 433, 434, 435, 436] (by decide +kernel) (by decide +kernel) -- ggL
set_option maxRecDepth 100000 in
theorem gkL_isRefused_L_does_r15 : GoodIn wsL_isRefused wsL_does_r15 := goodIn_r _ [437, 438, 439, 440, 441, 442, 443, 444, 153, 154, 155, 445, 446, 447, 448, 449, 450, 451, 452, 453, 454, 455, 456, 457] (by decide +kernel) (by decide +kernel) -- ggL
set_option maxRecDepth 100000 in
theorem gkL_isRefused_L_does_r16 : GoodIn wsL_isRefused wsL_does_r16 := goodIn_r _ [458, 459, 460, 461, 462, 463, 464, 21, 465, 466, 467, 468, 469, 470, 471, 472, 473, 474, 475, 121, 122, 123, 124, 128] (by decide +kernel) (by decide +kernel) -- ggL
set_option maxRecDepth 100000 in
theorem gkL_isRefused_L_does_r17 : GoodIn wsL_isRefused wsL_does_r17 := goodIn_r _ [130, 476, 477, 478, 479, 480, 481, 482, 483, 484, 485, 486, 487, 488, 489, 490, 491, 492, 493, 494, 495, 496, 497, 498] (by decide +kernel) (by decide +kernel) -- ggL
set_option maxRecDepth 100000 in
theorem gkL_isRefused_L_does_r18 : GoodIn wsL_isRefused wsL_does_r18 := goodIn_r _ [499, 137, 138, 139, 140, 146, 147, 148, 149, 150, 151, 152, 157, 158, 159, 160, 161, 24, 25, 26, 500, 501, 502, 503] (by decide +kernel) (by decide +kernel) -- ggL
set_option maxRecDepth 100000 in
theorem gkL_isRefused_L_does_r19 : GoodIn wsL_isRefused wsL_does_r19 := goodIn_r _ [504, 505, 506, 507, 508, 38, 39, 40, 41, 42, 43, 45, 509, 510, 511, 512, 513, 514, 515, 516, 517, 518, 104, 105] (by decide +kernel) (by decide +kernel) -- ggL
set_option maxRecDepth 100000 in
theorem gkL_isRefused_L_does_r20 : GoodIn wsL_isRefused wsL_does_r20 := goodIn_r _ [106, 107, 108, 109, 110, 519, 520, 521, 522, 523, 49, 50, 51, 52, 53, 54, 55, 524, 525, 526, 527, 528, 136, 117] (by decide +kernel) (by decide +kernel) -- ggL
set_option maxRecDepth 100000 in
theorem gkL_isRefused_L_does_r21 : GoodIn wsL_isRefused wsL_does_r21 := goodIn_r _ [118, 119, 120, 131, 132, 133, 134, 135] (by decide +kernel) (by decide +kernel) -- ggL
set_option maxRecDepth 20000 in
theorem ggL_isRefused_L_does : GoodIn wsL_isRefused wsL_does := goodIn_ca (goodIn_ca (goodIn_ca ((goodIn_cc (goodIn_r _ [164] (by decide +kernel) (by decide +kernel)) (goodIn_app (goodIn_app (goodIn_app (goodIn_app (goodIn_app (goodIn_app (goodIn_app (goodIn_app (goodIn_app gkL_isRefused_L_does_r1 (goodIn_app gkL_isRefused_L_does_r2 (goodIn_app gkL_isRefused_L_does_r3 (goodIn_app gkL_isRefused_L_does_r4 (goodIn_app gkL_isRefused_L_does_r5 (goodIn_app gkL_isRefused_L_does_r6 (goodIn_app gkL_isRefused_L_does_r7 (goodIn_app gkL_isRefused_L_does_r8 (goodIn_app gkL_isRefused_L_does_r9 (goodIn_app gkL_isRefused_L_does_r10 (goodIn_app gkL_isRefused_L_does_r11 (goodIn_app gkL_isRefused_L_does_r12 (goodIn_app gkL_isRefused_L_does_r13 (goodIn_app gkL_isRefused_L_does_r14 (goodIn_app gkL_isRefused_L_does_r15 (goodIn_app gkL_isRefused_L_does_r16 (goodIn_app gkL_isRefused_L_does_r17 (goodIn_app gkL_isRefused_L_does_r18 (goodIn_app gkL_isRefused_L_does_r19 (goodIn_app gkL_isRefused_L_does_r20 gkL_isRefused_L_does_r21)))))))))))))))))))) (goodIn_r _ [568, 569, 570, 571, 572, 573, 574, 575] (by decide +kernel) (by decide +kernel))) (goodIn_r _ [595, 596, 597, 598, 599, 600, 601, 602, 603, 604, 605, 606, 607] (by decide +kernel) (by decide +kernel))) (goodIn_r _ [608, 609] (by decide +kernel) (by decide +kernel))) (goodIn_r _ [592, 593, 594] (by decide +kernel) (by decide +kernel))) (goodIn_r _ [610, 611, 612] (by decide +kernel) (by decide +kernel))) (goodIn_r _ [576, 577, 578, 579, 580, 581, 582, 583, 584, 585, 586, 587, 588] (by decide +kernel) (by decide +kernel))) (goodIn_r _ [613, 614, 615, 616] (by decide +kernel) (by decide +kernel))) (goodIn_r _ [589, 590, 591] (by decide +kernel) (by decide +kernel))))) (goodIn_sub (fun _ h => List.mem_cons_of_mem _ (List.mem_append_left _ (List.mem_append_right _ h))) (by decide +kernel))) (goodIn_sub (fun _ h => List.mem_cons_of_mem _ (List.mem_append_right _ h)) (by decide +kernel))) (goodIn_sub (fun _ h => List.mem_cons_of_mem _ (List.mem_append_left _ (List.mem_append_left _ (List.mem_append_right _ h)))) (by decide +kernel))
set_option maxRecDepth 20000 in
theorem gL_isRefused_L_does : GoodIn wsL_isRefused (va_wsS RL 109 yL_does wsL_does) := goodIn_app (goodIn_of _ (by decide +kernel)) ggL_isRefused_L_does
set_option maxRecDepth 100000 in
theorem gkL_isRefused_L_silent_r1 : GoodIn wsL_isRefused wsL_silent_r1 := goodIn_r _ [165, 166, 167, 532, 533, 3, 534, 535, 536, 537, 11, 538, 172, 173, 187, 539, 540, 357, 229, 121, 122, 123, 124, 125] (by decide +kernel) (by decide +kernel) -- ggL
set_option maxRecDepth 100000 in
theorem gkL_isRefused_L_silent_r2 : GoodIn wsL_isRefused wsL_silent_r2 := goodIn_r _ [126, 127, 128, 129, 68, 69, 70, 71, 72, 130, 74, 75, 76, 77, 78, 79, 80, 81, 82, 83, 84, 85, 86, 87] (by decide +kernel) (by decide +kernel) -- ggL
set_option maxRecDepth 100000 in
theorem gkL_isRefused_L_silent_r3 : GoodIn wsL_isRefused wsL_silent_r3 := goodIn_r _ [88, 89, 485, 486, 487, 541, 542, 543, 544, 287, 288, 545, 546, 359, 364, 547, 548, 549, 550, 174, 175, 551, 552, 176] (by decide +kernel) (by decide +kernel) -- ggL
set_option maxRecDepth 100000 in
theorem gkL_isRefused_L_silent_r4 : GoodIn wsL_isRefused wsL_silent_r4 := goodIn_r _ [13, 553, 343, 344, 299, 345, 311, 554, 555, 556, 557, 312, 313, 314, 315, 316, 17, 317, 66, 116, 65, 94, 111, 318] (by decide +kernel) (by decide +kernel) -- ggL
set_option maxRecDepth 100000 in
theorem gkL_isRefused_L_silent_r5 : GoodIn wsL_isRefused wsL_silent_r5 := goodIn_r _ [319, 320, 321, 20, 322, 36, 156, 323, 324, 325, 326, 234, 235, 67, 73, 327, 328, 329, 330, 331, 332, 333, 334, 335] (by decide +kernel) (by decide +kernel) -- ggL
set_option maxRecDepth 100000 in
theorem gkL_isRefused_L_silent_r6 : GoodIn wsL_isRefused wsL_silent_r6 := goodIn_r _ [336, 337, 338, 339, 340, 341, 342, 112, 113, 114, 115, 346, 347, 348, 349, 350, 351, 352, 353, 354, 355, 356, 358, 360] (by decide +kernel) (by decide +kernel) -- ggL
set_option maxRecDepth 100000 in
theorem gkL_isRefused_L_silent_r7 : GoodIn wsL_isRefused wsL_silent_r7 := goodIn_r _ [361, 362, 363, 365, 366, 367, 368, 369, 370, 371, 372, 373, 374, 375, 376, 377, 378, 280, 281, 282, 379, 380, 381, 382] (by decide +kernel) (by decide +kernel) -- ggL
set_option maxRecDepth 100000 in
theorem gkL_isRefused_L_silent_r8 : GoodIn wsL_isRefused wsL_silent_r8 := goodIn_r _ [240, 241, 242, 243, 244, 245, 246, 247, 248, 249, 250, 251, 252, 253, 254, 255, 256, 257, 258, 259, 260, 261, 262, 263] (by decide +kernel) (by decide +kernel) -- ggL
set_option maxRecDepth 100000 in
theorem gkL_isRefused_L_silent_r9 : GoodIn wsL_isRefused wsL_silent_r9 := goodIn_r _ [264, 265, 266, 267, 268, 269, 270, 271, 272, 273, 274, 275, 276, 277, 278, 279, 383, 384, 385, 386, 387, 388, 27, 389] (by decide +kernel) (by decide +kernel) -- ggL
set_option maxRecDepth 100000 in
theorem gkL_isRefused_L_silent_r10 : GoodIn wsL_isRefused wsL_silent_r10 := goodIn_r _ [390, 391, 392, 393, 394, 395, 396, 397, 398, 28, 29, 30, 31, 32, 33, 34, 35, 399, 400, 401, 402, 403, 404, 405] (by decide +kernel) (by decide +kernel) -- ggL
set_option maxRecDepth 100000 in
theorem gkL_isRefused_L_silent_r11 : GoodIn wsL_isRefused wsL_silent_r11 := goodIn_r _ [406, 407, 408, 409, 410, 411, 44, 412, 46, 413, 414, 415, 416, 417, 47, 418, 56, 419, 420, 421, 422, 423, 424, 425] (by decide +kernel) (by decide +kernel) -- ggL
set_option maxRecDepth 100000 in
theorem gkL_isRefused_L_silent_r12 : GoodIn wsL_isRefused wsL_silent_r12 := goodIn_r _ [426, 427, 428, 429, 430, 431, 432, 433, 434, 435, 436, 437, 438, 439, 440, 441, 442, 443, 444, 153, 154, 155, 445, 446] (by decide +kernel) (by decide +kernel) -- ggL
set_option maxRecDepth 100000 in
theorem gkL_isRefused_L_silent_r13 : GoodIn wsL_isRefused wsL_silent_r13 := goodIn_r _ [447, 448, 449, 450, 451, 452, 453, 454, 455, 456, 457, 458, 459, 460, 461, 462, 463, 464, 21, 465, 466, 467, 468, 469] (by decide +kernel) (by decide +kernel) -- ggL
set_option maxRecDepth 100000 in
theorem gkL_isRefused_L_silent_r14 : GoodIn wsL_isRefused wsL_silent_r14 := goodIn_r _ [470, 471, 558, 559, 560, 561, 562, 563, 564, 565, 566, 567] (by decide +kernel) (by decide +kernel) -- ggL
set_option maxRecDepth 20000 in
theorem ggL_isRefused_L_silent : GoodIn wsL_isRefused wsL_silent := goodIn_ca (goodIn_ca (goodIn_ca ((goodIn_cc (goodIn_r _ [531] (by decide +kernel) (by decide +kernel)) (goodIn_app (goodIn_app (goodIn_app (goodIn_app (goodIn_app (goodIn_app (goodIn_app (goodIn_app (goodIn_app gkL_isRefused_L_silent_r1 (goodIn_app gkL_isRefused_L_silent_r2 (goodIn_app gkL_isRefused_L_silent_r3 (goodIn_app gkL_isRefused_L_silent_r4 (goodIn_app gkL_isRefused_L_silent_r5 (goodIn_app gkL_isRefused_L_silent_r6 (goodIn_app gkL_isRefused_L_silent_r7 (goodIn_app gkL_isRefused_L_silent_r8 (goodIn_app gkL_isRefused_L_silent_r9 (goodIn_app gkL_isRefused_L_silent_r10 (goodIn_app gkL_isRefused_L_silent_r11 (goodIn_app gkL_isRefused_L_silent_r12 (goodIn_app gkL_isRefused_L_silent_r13 gkL_isRefused_L_silent_r14))))))))))))) (goodIn_r _ [568, 569, 570, 571, 572, 573, 574, 575] (by decide +kernel) (by decide +kernel))) (goodIn_r _ [613, 614, 615, 616] (by decide +kernel) (by decide +kernel))) (goodIn_r _ [595, 596, 597, 598, 599, 600, 601, 602, 603, 604, 605, 606, 607] (by decide +kernel) (by decide +kernel))) (goodIn_r _ [592, 593, 594] (by decide +kernel) (by decide +kernel))) (goodIn_r _ [610, 611, 612] (by decide +kernel) (by decide +kernel))) (goodIn_r _ [576, 577, 578, 579, 580, 581, 582, 583, 584, 585, 586, 587, 588] (by decide +kernel) (by decide +kernel))) (goodIn_r _ [589, 590, 591] (by decide +kernel) (by decide +kernel))) (goodIn_r _ [608, 609] (by decide +kernel) (by decide +kernel))))) (goodIn_sub (fun _ h => List.mem_cons_of_mem _ (List.mem_append_left _ (List.mem_append_right _ h))) (by decide +kernel))) (goodIn_sub (fun _ h => List.mem_cons_of_mem _ (List.mem_append_left _ (List.mem_append_left _ (List.mem_append_right _ h)))) (by decide +kernel))) (goodIn_sub (fun _ h => List.mem_cons_of_mem _ (List.mem_append_right _ h)) (by decide +kernel))
set_option maxRecDepth 20000 in
theorem gL_isRefused_L_silent : GoodIn wsL_isRefused (va_wsS RL 113 yL_silent wsL_silent) := goodIn_app (goodIn_of _ (by decide +kernel)) ggL_isRefused_L_silent
set_option maxRecDepth 20000 in
theorem ggL_areSound_L_begins : GoodIn wsL_areSound wsL_begins := goodIn_r _ [4] (by decide +kernel) (by decide +kernel)
set_option maxRecDepth 20000 in
theorem gL_areSound_L_begins : GoodIn wsL_areSound (va_wsS RL 116 yL_begins wsL_begins) := goodIn_app (goodIn_of _ (by decide +kernel)) ggL_areSound_L_begins
set_option maxRecDepth 20000 in
theorem ggL_areSound_X6_state : GoodIn wsL_areSound wsX6_state := goodIn_ca (goodIn_r _ [9, 10, 11, 12, 13, 8, 14, 15, 16, 17, 18, 19, 20, 21, 22, 23, 24, 25, 26, 27, 28, 29, 30, 31, 32, 33, 34, 35, 36, 37, 38, 39, 40, 41, 42, 43, 44, 45, 46, 47, 516, 517, 518, 519, 520, 521, 522, 523, 524, 525, 526, 527, 528, 529, 530, 531, 532, 533, 534, 535, 536, 537, 538, 539] (by decide +kernel) (by decide +kernel)) (goodIn_sub (fun _ h => List.mem_cons_of_mem _ (List.mem_append_left _ (List.mem_append_left _ (List.mem_append_right _ h)))) (by decide +kernel))
set_option maxRecDepth 20000 in
theorem gL_areSound_X6_state : GoodIn wsL_areSound (wsV RL 59 RX6 yX6_state wsX6_state) := goodIn_app (goodIn_of _ (by decide +kernel)) ggL_areSound_X6_state
set_option maxRecDepth 20000 in
theorem ggL_areSound_X6_commences : GoodIn wsL_areSound wsX6_commences := goodIn_ca (goodIn_r _ [51, 10, 11, 12, 13, 8, 14, 15, 16, 17, 18, 19, 20, 21, 22, 23, 24, 25, 26, 27, 28, 29, 30, 31, 32, 33, 34, 35, 36, 37, 38, 39, 40, 41, 52, 53, 54, 45, 55, 56, 516, 517, 518, 519, 520, 521, 522, 523, 524, 525, 526, 527, 528, 529, 530, 531, 532, 533, 534, 535, 536, 537, 538, 539] (by decide +kernel) (by decide +kernel)) (goodIn_sub (fun _ h => List.mem_cons_of_mem _ (List.mem_append_left _ (List.mem_append_left _ (List.mem_append_right _ h)))) (by decide +kernel))
set_option maxRecDepth 20000 in
theorem gL_areSound_X6_commences : GoodIn wsL_areSound (wsV RL 62 RX6 yX6_commences wsX6_commences) := goodIn_app (goodIn_of _ (by decide +kernel)) ggL_areSound_X6_commences
set_option maxRecDepth 20000 in
theorem ggL_areSound_X6_provisionAt : GoodIn wsL_areSound wsX6_provisionAt := goodIn_ca (goodIn_r _ [60, 15, 16, 10, 61, 62, 63, 45, 64, 65, 66, 516, 517, 518, 519, 520, 521, 522, 523, 527, 528, 529, 530, 531, 532, 533, 534, 535, 536, 537, 538, 539] (by decide +kernel) (by decide +kernel)) (goodIn_sub (fun _ h => List.mem_cons_of_mem _ (List.mem_append_left _ (List.mem_append_left _ (List.mem_append_right _ h)))) (by decide +kernel))
set_option maxRecDepth 20000 in
theorem gL_areSound_X6_provisionAt : GoodIn wsL_areSound (wsV RL 34 RX6 yX6_provisionAt wsX6_provisionAt) := goodIn_app (goodIn_of _ (by decide +kernel)) ggL_areSound_X6_provisionAt
set_option maxRecDepth 20000 in
theorem ggL_areSound_X6_parent : GoodIn wsL_areSound wsX6_parent := goodIn_ca (goodIn_r _ [70, 10, 71, 72, 73, 8, 74, 15, 16, 75, 76, 77, 78, 45, 79, 80, 81, 82, 83, 84, 85, 86, 87, 88, 89, 516, 517, 518, 519, 520, 521, 522, 523, 527, 528, 529, 530, 531, 532, 533, 534, 535, 536, 537, 538, 539] (by decide +kernel) (by decide +kernel)) (goodIn_sub (fun _ h => List.mem_cons_of_mem _ (List.mem_append_left _ (List.mem_append_left _ (List.mem_append_right _ h)))) (by decide +kernel))
set_option maxRecDepth 20000 in
theorem gL_areSound_X6_parent : GoodIn wsL_areSound (wsV RL 40 RX6 yX6_parent wsX6_parent) := goodIn_app (goodIn_of _ (by decide +kernel)) ggL_areSound_X6_parent
set_option maxRecDepth 20000 in
theorem ggL_areSound_X6_words : GoodIn wsL_areSound wsX6_words := goodIn_ca (goodIn_r _ [93, 10, 71, 72, 73, 8, 74, 15, 16, 75, 94, 95, 96, 45, 97, 98, 99, 77, 78, 79, 80, 81, 82, 83, 84, 516, 517, 518, 519, 520, 521, 522, 523, 527, 528, 529, 530, 531, 532, 533, 534, 535, 536, 537, 538, 539, 540, 541, 542] (by decide +kernel) (by decide +kernel)) (goodIn_sub (fun _ h => List.mem_cons_of_mem _ (List.mem_append_left _ (List.mem_append_left _ (List.mem_append_right _ h)))) (by decide +kernel))
set_option maxRecDepth 20000 in
theorem gL_areSound_X6_words : GoodIn wsL_areSound (wsV RL 43 RX6 yX6_words wsX6_words) := goodIn_app (goodIn_of _ (by decide +kernel)) ggL_areSound_X6_words
set_option maxRecDepth 20000 in
theorem ggL_areSound_X6_label : GoodIn wsL_areSound wsX6_label := goodIn_ca (goodIn_r _ [103, 10, 71, 72, 73, 8, 74, 15, 16, 75, 104, 81, 82, 45, 83, 84, 516, 517, 518, 519, 520, 521, 522, 523, 527, 528, 529, 530, 531, 532, 533, 534, 535, 536, 537, 538, 539] (by decide +kernel) (by decide +kernel)) (goodIn_sub (fun _ h => List.mem_cons_of_mem _ (List.mem_append_left _ (List.mem_append_left _ (List.mem_append_right _ h)))) (by decide +kernel))
set_option maxRecDepth 20000 in
theorem gL_areSound_X6_label : GoodIn wsL_areSound (wsV RL 37 RX6 yX6_label wsX6_label) := goodIn_app (goodIn_of _ (by decide +kernel)) ggL_areSound_X6_label
set_option maxRecDepth 100000 in
theorem gkL_areSound_L_does_r1 : GoodIn wsL_areSound wsL_does_r1 := goodIn_r _ [108, 109, 110, 111, 112, 113, 8, 114, 115, 116, 117, 118, 119, 120, 121, 122, 123, 124, 125, 126, 127, 128, 129, 130] (by decide +kernel) (by decide +kernel) -- ggL
set_option maxRecDepth 100000 in
theorem gkL_areSound_L_does_r2 : GoodIn wsL_areSound wsL_does_r2 := goodIn_r _ [131, 132, 133, 134, 135, 136, 137, 138, 139, 140, 141, 142, 143, 144, 75, 145, 146, 10, 17, 147, 148, 149, 150, 71] (by decide +kernel) (by decide +kernel) -- ggL
set_option maxRecDepth 100000 in
theorem gkL_areSound_L_does_r3 : GoodIn wsL_areSound wsL_does_r3 := goodIn_r _ [72, 73, 74, 15, 16, 151, 152, 153, 154, 155, 156, 157, 19, 20, 21, 22, 23, 24, 158, 159, 160, 161, 162, 163] (by decide +kernel) (by decide +kernel) -- ggL
set_option maxRecDepth 100000 in
theorem gkL_areSound_L_does_r4 : GoodIn wsL_areSound wsL_does_r4 := goodIn_r _ [164, 165, 166, 167, 168, 169, 170, 171, 172, 173, 174, 175, 176, 177, 178, 179, 41, 180, 181, 182, 183, 184, 185, 186] (by decide +kernel) (by decide +kernel) -- ggL
set_option maxRecDepth 100000 in
theorem gkL_areSound_L_does_r5 : GoodIn wsL_areSound wsL_does_r5 := goodIn_r _ [187, 188, 189, 190, 191, 192, 193, 194, 195, 196, 197, 198, 199, 200, 201, 202, 203, 204, 205, 206, 207, 208, 209, 210] (by decide +kernel) (by decide +kernel) -- ggL
set_option maxRecDepth 100000 in
theorem gkL_areSound_L_does_r6 : GoodIn wsL_areSound wsL_does_r6 := goodIn_r _ [211, 212, 213, 214, 215, 216, 217, 218, 219, 220, 221, 222, 223, 224, 225, 226, 227, 228, 229, 230, 231, 232, 233, 234] (by decide +kernel) (by decide +kernel) -- ggL
set_option maxRecDepth 100000 in
theorem gkL_areSound_L_does_r7 : GoodIn wsL_areSound wsL_does_r7 := goodIn_r _ [235, 236, 237, 238, 239, 240, 241, 242, 243, 244, 245, 246, 247, 248, 249, 250, 251, 252, 253, 254, 255, 256, 257, 258] (by decide +kernel) (by decide +kernel) -- ggL
set_option maxRecDepth 100000 in
theorem gkL_areSound_L_does_r8 : GoodIn wsL_areSound wsL_does_r8 := goodIn_r _ [259, 260, 261, 262, 263, 45, 264, 265, 56, 266, 267, 47, 268, 269, 270, 271, 65, 272, 84, 89, 273, 274, 275, 276] (by decide +kernel) (by decide +kernel) -- ggL
set_option maxRecDepth 100000 in
theorem gkL_areSound_L_does_r9 : GoodIn wsL_areSound wsL_does_r9 := goodIn_r _ [277, 278, 26, 27, 28, 29, 30, 31, 32, 33, 34, 35, 36, 37, 38, 39, 40, 279, 280, 281, 282, 283, 284, 285] (by decide +kernel) (by decide +kernel) -- ggL
set_option maxRecDepth 100000 in
theorem gkL_areSound_L_does_r10 : GoodIn wsL_areSound wsL_does_r10 := goodIn_r _ [286, 287, 288, 289, 290, 291, 292, 293, 294, 295, 296, 297, 298, 53, 54, 55, 299, 300, 301, 302, 303, 304, 305, 306] (by decide +kernel) (by decide +kernel) -- ggL
set_option maxRecDepth 100000 in
theorem gkL_areSound_L_does_r11 : GoodIn wsL_areSound wsL_does_r11 := goodIn_r _ [307, 308, 309, 310, 311, 312, 313, 314, 315, 316, 317, 318, 319, 320, 321, 322, 323, 324, 325, 326, 327, 328, 329, 330] (by decide +kernel) (by decide +kernel) -- ggL
set_option maxRecDepth 100000 in
theorem gkL_areSound_L_does_r12 : GoodIn wsL_areSound wsL_does_r12 := goodIn_r _ [331, 332, 333, 334, 335, 336, 337, 338, 339, 340, 341, 98, 342, 343, 344, 345, 346, 347, 348, 349, 350, 351, 99, 77] (by decide +kernel) (by decide +kernel) -- ggL
set_option maxRecDepth 100000 in
theorem gkL_areSound_L_does_r13 : GoodIn wsL_areSound wsL_does_r13 := goodIn_r _ [78, 79, 80, 81, 82, 83, 352, 353, 354, 355, 356, 357, 358, 359, 360, 361, 362, 363, 364, 365, 366, 367, 368, 369] (by decide +kernel) (by decide +kernel) -- ggL
set_option maxRecDepth 100000 in
theorem gkL_areSound_L_does_r14 : GoodIn wsL_areSound wsL_does_r14 := goodIn_r _ [370, 371, 372, 373, 374, 375, 376, 377, 378, 379, 380, 381, 382, 383, 384, 385, 386, 387, 388, 389, 390, 391, 392, 393] (by decide +kernel) (by decide +kernel) -- ggL
set_option maxRecDepth 100000 in
theorem gkL_areSound_L_does_r15 : GoodIn wsL_areSound wsL_does_r15 := goodIn_r _ [394, 395, 396, 397, 398, 399, 400, 401, 86, 87, 88, 402, 403, 404, 405, 406, 407, 408, 409, 410, 411, 412, 413, 414] (by decide +kernel) (by decide +kernel) -- ggL
set_option maxRecDepth 100000 in
theorem gkL_areSound_L_does_r16 : GoodIn wsL_areSound wsL_does_r16 := goodIn_r _ [415, 416, 417, 418, 419, 420, 421, 66, 422, 423, 424, 425, 426, 427, 428, 429, 430, 431, 432, 11, 12, 13, 14, 18] (by decide +kernel) (by decide +kernel) -- ggL
set_option maxRecDepth 100000 in
theorem gkL_areSound_L_does_r17 : GoodIn wsL_areSound wsL_does_r17 := goodIn_r _ [25, 433, 434, 435, 436, 437, 438, 439, 440, 441, 442, 443, 444, 445, 446, 447, 448, 57, 58, 59, 60, 61, 62, 63] (by decide +kernel) (by decide +kernel) -- ggL
set_option maxRecDepth 100000 in
theorem gkL_areSound_L_does_r18 : GoodIn wsL_areSound wsL_does_r18 := goodIn_r _ [64, 100, 101, 102, 103, 104, 67, 68, 69, 70, 76, 85, 90, 91, 92, 93, 94, 95, 96, 97, 449, 450, 451, 452] (by decide +kernel) (by decide +kernel) -- ggL
set_option maxRecDepth 100000 in
theorem gkL_areSound_L_does_r19 : GoodIn wsL_areSound wsL_does_r19 := goodIn_r _ [453, 454, 455, 456, 457, 458, 459, 460, 461, 462, 463, 464, 465, 466, 467, 468, 469, 470, 471, 472, 473, 474, 475, 476] (by decide +kernel) (by decide +kernel) -- ggL
set_option maxRecDepth 100000 in
theorem gkL_areSound_L_does_r20 : GoodIn wsL_areSound wsL_does_r20 := goodIn_r _ [477, 478, 43, 44, 46, 479, 480, 481, 482, 483, 484, 485, 486, 487, 488, 489, 490, 491, 492, 493, 494, 495, 52, 5] (by decide +kernel) (by decide +kernel) -- ggL
set_option maxRecDepth 100000 in
theorem gkL_areSound_L_does_r21 : GoodIn wsL_areSound wsL_does_r21 := goodIn_r _ [6, 7, 9, 42, 48, 49, 50, 51] (by decide +kernel) (by decide +kernel) -- ggL
set_option maxRecDepth 20000 in
theorem ggL_areSound_L_does : GoodIn wsL_areSound wsL_does := goodIn_ca (goodIn_ca (goodIn_ca ((goodIn_cc (goodIn_r _ [107] (by decide +kernel) (by decide +kernel)) (goodIn_app (goodIn_app (goodIn_app (goodIn_app (goodIn_app (goodIn_app (goodIn_app (goodIn_app (goodIn_app gkL_areSound_L_does_r1 (goodIn_app gkL_areSound_L_does_r2 (goodIn_app gkL_areSound_L_does_r3 (goodIn_app gkL_areSound_L_does_r4 (goodIn_app gkL_areSound_L_does_r5 (goodIn_app gkL_areSound_L_does_r6 (goodIn_app gkL_areSound_L_does_r7 (goodIn_app gkL_areSound_L_does_r8 (goodIn_app gkL_areSound_L_does_r9 (goodIn_app gkL_areSound_L_does_r10 (goodIn_app gkL_areSound_L_does_r11 (goodIn_app gkL_areSound_L_does_r12 (goodIn_app gkL_areSound_L_does_r13 (goodIn_app gkL_areSound_L_does_r14 (goodIn_app gkL_areSound_L_does_r15 (goodIn_app gkL_areSound_L_does_r16 (goodIn_app gkL_areSound_L_does_r17 (goodIn_app gkL_areSound_L_does_r18 (goodIn_app gkL_areSound_L_does_r19 (goodIn_app gkL_areSound_L_does_r20 gkL_areSound_L_does_r21)))))))))))))))))))) (goodIn_r _ [516, 517, 518, 519, 520, 521, 522, 523] (by decide +kernel) (by decide +kernel))) (goodIn_r _ [543, 544, 545, 546, 547, 548, 549, 550, 551, 552, 553, 554, 555] (by decide +kernel) (by decide +kernel))) (goodIn_r _ [556, 557] (by decide +kernel) (by decide +kernel))) (goodIn_r _ [524, 525, 526] (by decide +kernel) (by decide +kernel))) (goodIn_r _ [558, 559, 560] (by decide +kernel) (by decide +kernel))) (goodIn_r _ [527, 528, 529, 530, 531, 532, 533, 534, 535, 536, 537, 538, 539] (by decide +kernel) (by decide +kernel))) (goodIn_r _ [561, 562, 563, 564] (by decide +kernel) (by decide +kernel))) (goodIn_r _ [540, 541, 542] (by decide +kernel) (by decide +kernel))))) (goodIn_sub (fun _ h => List.mem_cons_of_mem _ (List.mem_append_left _ (List.mem_append_right _ h))) (by decide +kernel))) (goodIn_sub (fun _ h => List.mem_cons_of_mem _ (List.mem_append_right _ h)) (by decide +kernel))) (goodIn_sub (fun _ h => List.mem_cons_of_mem _ (List.mem_append_left _ (List.mem_append_left _ (List.mem_append_right _ h)))) (by decide +kernel))
set_option maxRecDepth 20000 in
theorem gL_areSound_L_does : GoodIn wsL_areSound (va_wsS RL 109 yL_does wsL_does) := goodIn_app (goodIn_of _ (by decide +kernel)) ggL_areSound_L_does
set_option maxRecDepth 20000 in
theorem ggL_areSound_L_key : GoodIn wsL_areSound wsL_key := goodIn_r _ [498] (by decide +kernel) (by decide +kernel)
set_option maxRecDepth 20000 in
theorem gL_areSound_L_key : GoodIn wsL_areSound (va_wsS RL 120 yL_key wsL_key) := goodIn_app (goodIn_of _ (by decide +kernel)) ggL_areSound_L_key
set_option maxRecDepth 20000 in
theorem ggL_areSound_X6_wordAt : GoodIn wsL_areSound wsX6_wordAt := goodIn_ca (goodIn_r _ [452, 10, 453, 454, 455, 8, 456, 15, 16, 71, 72, 73, 74, 75, 94, 95, 96, 45, 97, 98, 99, 77, 78, 79, 80, 81, 82, 83, 84, 457, 458, 459, 460, 461, 462, 463, 365, 464, 367, 373, 516, 517, 518, 519, 520, 521, 522, 523, 527, 528, 529, 530, 531, 532, 533, 534, 535, 536, 537, 538, 539, 540, 541, 542] (by decide +kernel) (by decide +kernel)) (goodIn_sub (fun _ h => List.mem_cons_of_mem _ (List.mem_append_left _ (List.mem_append_left _ (List.mem_append_right _ h)))) (by decide +kernel))
set_option maxRecDepth 20000 in
theorem gL_areSound_X6_wordAt : GoodIn wsL_areSound (wsV RL 46 RX6 yX6_wordAt wsX6_wordAt) := goodIn_app (goodIn_of _ (by decide +kernel)) ggL_areSound_X6_wordAt
set_option maxRecDepth 20000 in
theorem ggL_areSound_X6_origin : GoodIn wsL_areSound wsX6_origin := goodIn_ca (goodIn_r _ [482, 10, 453, 454, 455, 8, 456, 15, 16, 71, 72, 73, 74, 75, 94, 95, 96, 45, 97, 98, 99, 77, 78, 79, 80, 81, 82, 83, 84, 483, 484, 485, 486, 487, 488, 489, 365, 490, 367, 375, 516, 517, 518, 519, 520, 521, 522, 523, 527, 528, 529, 530, 531, 532, 533, 534, 535, 536, 537, 538, 539, 540, 541, 542] (by decide +kernel) (by decide +kernel)) (goodIn_sub (fun _ h => List.mem_cons_of_mem _ (List.mem_append_left _ (List.mem_append_left _ (List.mem_append_right _ h)))) (by decide +kernel))
set_option maxRecDepth 20000 in
theorem gL_areSound_X6_origin : GoodIn wsL_areSound (wsV RL 53 RX6 yX6_origin wsX6_origin) := goodIn_app (goodIn_of _ (by decide +kernel)) ggL_areSound_X6_origin
set_option maxRecDepth 100000 in
theorem gkL_areSound_X6_refers_r1 : GoodIn wsL_areSound wsX6_refers_r1 := goodIn_r _ [10, 495, 17, 453, 454, 455, 8, 456, 15, 16, 71, 72, 73, 74, 75, 94, 95, 96, 45, 97, 98, 99, 77, 78] (by decide +kernel) (by decide +kernel) -- ggL
set_option maxRecDepth 100000 in
theorem gkL_areSound_X6_refers_r2 : GoodIn wsL_areSound wsX6_refers_r2 := goodIn_r _ [79, 80, 81, 82, 83, 84, 457, 458, 459, 460, 461, 462, 463, 365, 464, 367, 373, 104, 483, 484, 485, 486, 487, 488] (by decide +kernel) (by decide +kernel) -- ggL
set_option maxRecDepth 100000 in
theorem gkL_areSound_X6_refers_r3 : GoodIn wsL_areSound wsX6_refers_r3 := goodIn_r _ [489, 490, 375, 52, 53, 54, 55, 56, 445, 446, 447, 448, 303, 284, 304, 261, 262, 263, 264, 265, 266, 267, 47, 268] (by decide +kernel) (by decide +kernel) -- ggL
set_option maxRecDepth 100000 in
theorem gkL_areSound_X6_refers_r4 : GoodIn wsL_areSound wsX6_refers_r4 := goodIn_r _ [269, 270, 271, 65, 272, 89, 273, 274, 275, 22, 276, 178, 179, 41, 24, 277, 20, 21, 23, 278, 26, 27, 28, 29] (by decide +kernel) (by decide +kernel) -- ggL
set_option maxRecDepth 100000 in
theorem gkL_areSound_X6_refers_r5 : GoodIn wsL_areSound wsX6_refers_r5 := goodIn_r _ [30, 31, 32, 33, 34, 35, 36, 37, 38, 39, 40, 279, 280, 281, 282, 283, 285, 286, 287, 288, 289, 290, 291, 292] (by decide +kernel) (by decide +kernel) -- ggL
set_option maxRecDepth 100000 in
theorem gkL_areSound_X6_refers_r6 : GoodIn wsL_areSound wsX6_refers_r6 := goodIn_r _ [246, 293, 258, 294, 295, 296, 297, 298, 299, 300, 301, 302, 305, 306, 307, 308, 309, 310, 311, 312, 313, 314, 315, 316] (by decide +kernel) (by decide +kernel) -- ggL
set_option maxRecDepth 100000 in
theorem gkL_areSound_X6_refers_r7 : GoodIn wsL_areSound wsX6_refers_r7 := goodIn_r _ [317, 318, 319, 320, 321, 259, 260, 322, 323, 324, 325, 326, 327, 328, 329, 330, 331, 224, 225, 226, 332, 333, 334, 335] (by decide +kernel) (by decide +kernel) -- ggL
