/-! THE LAW'S WORDS: each run of them is in the tables, by its places -/
theorem mem_r {big : List Cond} (ws : List Cond) (ps : List Nat) (hp : ws = ps.filterMap (fun i => big[i]?)) : ∀ w ∈ ws, w ∈ big := by
  intro w hw
  rw [hp] at hw
  obtain ⟨i, -, hi⟩ := List.mem_filterMap.mp hw
  exact List.mem_of_getElem? hi
set_option maxRecDepth 20000 in
theorem wsL_law_r1_in : ∀ w ∈ wsL_law_r1, w ∈ lw_tbl := mem_r _ [62, 63, 50, 587, 588, 57, 64, 65, 66, 67, 68, 69, 70, 71, 51, 238, 239, 240, 241, 86, 87, 52, 242, 167] (by decide +kernel)
set_option maxRecDepth 20000 in
theorem wsL_law_r2_in : ∀ w ∈ wsL_law_r2, w ∈ lw_tbl := mem_r _ [168, 55, 243, 236, 93, 53, 244, 245, 72, 73, 74, 75, 85, 76, 78, 88, 89, 90, 91, 129, 130, 131, 92, 132] (by decide +kernel)
set_option maxRecDepth 20000 in
theorem wsL_law_r3_in : ∀ w ∈ wsL_law_r3, w ∈ lw_tbl := mem_r _ [108, 109, 54, 134, 127, 135, 136, 137, 138, 139, 140, 141, 94, 95, 96, 97, 98, 99, 100, 110, 111, 112, 113, 114] (by decide +kernel)
set_option maxRecDepth 20000 in
theorem wsL_law_r4_in : ∀ w ∈ wsL_law_r4, w ∈ lw_tbl := mem_r _ [115, 116, 117, 128, 169, 170, 171, 172, 193, 173, 194, 175, 196, 177, 178, 56, 198, 199, 200, 201, 202, 204, 205, 206] (by decide +kernel)
set_option maxRecDepth 20000 in
theorem wsL_law_r5_in : ∀ w ∈ wsL_law_r5, w ∈ lw_tbl := mem_r _ [207, 208, 174, 176, 179, 180, 181, 182, 183, 184, 185, 237, 589, 590, 591, 592, 593, 594, 596, 597, 599, 601, 602, 603] (by decide +kernel)
set_option maxRecDepth 20000 in
theorem wsL_law_r6_in : ∀ w ∈ wsL_law_r6, w ∈ lw_tbl := mem_r _ [604, 605, 606, 607, 263, 264, 265, 266, 267, 269, 0, 270, 271, 273, 1, 274, 275, 276, 277, 278, 279, 280, 281, 282] (by decide +kernel)
set_option maxRecDepth 20000 in
theorem wsL_law_r7_in : ∀ w ∈ wsL_law_r7, w ∈ lw_tbl := mem_r _ [283, 284, 285, 657, 658, 659, 660, 661, 662, 663, 664, 665, 666, 667, 669, 22, 670, 286, 287, 288, 289, 290, 291, 292] (by decide +kernel)
set_option maxRecDepth 20000 in
theorem wsL_law_r8_in : ∀ w ∈ wsL_law_r8, w ∈ lw_tbl := mem_r _ [293, 294, 295, 296, 297, 671, 672, 673, 674, 298, 299, 300, 301, 302, 303, 304, 305, 675, 676, 677, 678, 306, 307, 308] (by decide +kernel)
set_option maxRecDepth 20000 in
theorem wsL_law_r9_in : ∀ w ∈ wsL_law_r9, w ∈ lw_tbl := mem_r _ [309, 310, 311, 312, 313, 326, 327, 59, 328, 450, 451, 452, 314, 317, 318, 319, 320, 321, 322, 323, 58, 324, 325, 329] (by decide +kernel)
set_option maxRecDepth 20000 in
theorem wsL_law_r10_in : ∀ w ∈ wsL_law_r10, w ∈ lw_tbl := mem_r _ [331, 2, 332, 333, 334, 335, 336, 337, 338, 339, 340, 341, 342, 343, 344, 345, 346, 347, 348, 349, 350, 352, 3, 353] (by decide +kernel)
set_option maxRecDepth 20000 in
theorem wsL_law_r11_in : ∀ w ∈ wsL_law_r11, w ∈ lw_tbl := mem_r _ [354, 356, 4, 357, 358, 360, 5, 361, 362, 364, 6, 365, 366, 367, 368, 369, 370, 372, 7, 373, 374, 375, 59, 376] (by decide +kernel)
set_option maxRecDepth 20000 in
theorem wsL_law_r12_in : ∀ w ∈ wsL_law_r12, w ∈ lw_tbl := mem_r _ [377, 378, 379, 380, 381, 382, 383, 384, 385, 386, 387, 388, 389, 390, 391, 392, 393, 394, 395, 396, 397, 398, 399, 400] (by decide +kernel)
set_option maxRecDepth 20000 in
theorem wsL_law_r13_in : ∀ w ∈ wsL_law_r13, w ∈ lw_tbl := mem_r _ [401, 402, 403, 404, 406, 8, 407, 408, 409, 410, 411, 412, 413, 414, 415, 416, 417, 60, 418, 419, 420, 421, 422, 423] (by decide +kernel)
set_option maxRecDepth 20000 in
theorem wsL_law_r14_in : ∀ w ∈ wsL_law_r14, w ∈ lw_tbl := mem_r _ [424, 425, 426, 427, 428, 429, 430, 431, 432, 433, 434, 435, 436, 437, 438, 439, 440, 441, 442, 443, 444, 445, 447, 9] (by decide +kernel)
set_option maxRecDepth 20000 in
theorem wsL_law_r15_in : ∀ w ∈ wsL_law_r15, w ∈ lw_tbl := mem_r _ [448, 449, 702, 703, 704, 705, 706, 708, 23, 709, 598, 710, 711, 712, 713, 715, 24, 716, 600, 717, 719, 25, 720, 721] (by decide +kernel)
set_option maxRecDepth 20000 in
theorem wsL_law_r16_in : ∀ w ∈ wsL_law_r16, w ∈ lw_tbl := mem_r _ [723, 26, 724, 725, 727, 27, 728, 729, 731, 28, 732, 733, 735, 29, 736, 737, 739, 30, 740, 741, 743, 31, 744, 745] (by decide +kernel)
set_option maxRecDepth 20000 in
theorem wsL_law_r17_in : ∀ w ∈ wsL_law_r17, w ∈ lw_tbl := mem_r _ [747, 32, 748, 749, 751, 33, 752, 753, 754, 755, 756, 757, 758, 759, 761, 34, 762, 763, 765, 35, 766, 767, 769, 36] (by decide +kernel)
set_option maxRecDepth 20000 in
theorem wsL_law_r18_in : ∀ w ∈ wsL_law_r18, w ∈ lw_tbl := mem_r _ [770, 771, 772, 773, 695, 696, 697, 774, 776, 37, 777, 778, 780, 38, 781, 453, 454, 455, 456, 457, 458, 459, 460, 461] (by decide +kernel)
set_option maxRecDepth 20000 in
theorem wsL_law_r19_in : ∀ w ∈ wsL_law_r19, w ∈ lw_tbl := mem_r _ [462, 463, 464, 465, 466, 467, 468, 469, 471, 10, 472, 474, 475, 476, 477, 478, 479, 480, 481, 482, 484, 11, 485, 486] (by decide +kernel)
set_option maxRecDepth 20000 in
theorem wsL_law_r20_in : ∀ w ∈ wsL_law_r20, w ∈ lw_tbl := mem_r _ [488, 12, 489, 490, 491, 492, 493, 495, 496, 494, 497, 498, 499, 500, 501, 502, 504, 13, 505, 506, 508, 14, 509, 510] (by decide +kernel)
set_option maxRecDepth 20000 in
theorem wsL_law_r21_in : ∀ w ∈ wsL_law_r21, w ∈ lw_tbl := mem_r _ [512, 15, 513, 514, 515, 517, 16, 518, 519, 520, 522, 17, 523, 524, 526, 18, 527, 528, 529, 530, 532, 19, 533, 534] (by decide +kernel)
set_option maxRecDepth 20000 in
theorem wsL_law_r22_in : ∀ w ∈ wsL_law_r22, w ∈ lw_tbl := mem_r _ [535, 536, 537, 538, 540, 20, 541, 542, 544, 21, 545, 546, 547, 548, 549, 550, 551, 552, 553, 555, 554, 61, 782, 783] (by decide +kernel)
set_option maxRecDepth 20000 in
theorem wsL_law_r23_in : ∀ w ∈ wsL_law_r23, w ∈ lw_tbl := mem_r _ [784, 785, 608, 595, 786, 788, 39, 789, 790, 792, 40, 793, 613, 612, 794, 796, 41, 797, 609, 610, 611, 798, 800, 42] (by decide +kernel)
set_option maxRecDepth 20000 in
theorem wsL_law_r24_in : ∀ w ∈ wsL_law_r24, w ∈ lw_tbl := mem_r _ [801, 802, 803, 804, 806, 43, 807, 808, 810, 44, 811, 812, 814, 45, 815, 816, 818, 46, 819, 820, 822, 47, 823, 824] (by decide +kernel)
set_option maxRecDepth 20000 in
theorem wsL_law_r25_in : ∀ w ∈ wsL_law_r25, w ∈ lw_tbl := mem_r _ [826, 48, 827, 556, 557, 558, 559, 679, 680, 681, 682, 560, 561, 562, 563, 564, 683, 684, 685, 686, 565, 566, 567, 568] (by decide +kernel)
set_option maxRecDepth 20000 in
theorem wsL_law_r26_in : ∀ w ∈ wsL_law_r26, w ∈ lw_tbl := mem_r _ [569, 691, 692, 693, 694, 570, 571, 572, 573, 574, 575, 576, 577, 578, 698, 699, 700, 701, 579, 580, 581, 582, 828, 829] (by decide +kernel)
set_option maxRecDepth 20000 in
theorem wsL_law_r27_in : ∀ w ∈ wsL_law_r27, w ∈ lw_tbl := mem_r _ [830, 831, 583, 584, 585, 586, 687, 688, 689, 690] (by decide +kernel)
set_option maxRecDepth 20000 in
theorem wsX70_in : ∀ w ∈ wsX70, w ∈ lw_tbl := mem_r _ [246, 248, 250, 252, 254, 256, 258, 260] (by decide +kernel)
set_option maxRecDepth 20000 in
theorem wsX80_in : ∀ w ∈ wsX80, w ∈ lw_tbl := mem_r _ [614, 616, 618, 620, 622, 624, 626, 628, 630, 632, 634, 636, 638, 640, 642, 644, 646, 648, 650, 652, 654] (by decide +kernel)
set_option maxRecDepth 20000 in
theorem wsX60_in : ∀ w ∈ wsX60, w ∈ lw_tbl := mem_r _ [80, 82] (by decide +kernel)
set_option maxRecDepth 20000 in
theorem wsX30_in : ∀ w ∈ wsX30, w ∈ lw_tbl := mem_r _ [142, 144, 146, 148, 150, 152, 154, 156, 158, 160, 162, 164] (by decide +kernel)
set_option maxRecDepth 20000 in
theorem wsX20_in : ∀ w ∈ wsX20, w ∈ lw_tbl := mem_r _ [209, 211, 213, 215, 217, 219, 221, 223, 225, 227, 229, 231, 233] (by decide +kernel)
set_option maxRecDepth 20000 in
theorem wsX00_in : ∀ w ∈ wsX00, w ∈ lw_tbl := mem_r _ [101, 103, 105] (by decide +kernel)
set_option maxRecDepth 20000 in
theorem wsX40_in : ∀ w ∈ wsX40, w ∈ lw_tbl := mem_r _ [118, 120, 122, 124] (by decide +kernel)
set_option maxRecDepth 20000 in
theorem wsX50_in : ∀ w ∈ wsX50, w ∈ lw_tbl := mem_r _ [186, 188, 190] (by decide +kernel)
theorem wsL_runs_in : ∀ w ∈ (wsL_law_r1 ++ (wsL_law_r2 ++ (wsL_law_r3 ++ (wsL_law_r4 ++ (wsL_law_r5 ++ (wsL_law_r6 ++ (wsL_law_r7 ++ (wsL_law_r8 ++ (wsL_law_r9 ++ (wsL_law_r10 ++ (wsL_law_r11 ++ (wsL_law_r12 ++ (wsL_law_r13 ++ (wsL_law_r14 ++ (wsL_law_r15 ++ (wsL_law_r16 ++ (wsL_law_r17 ++ (wsL_law_r18 ++ (wsL_law_r19 ++ (wsL_law_r20 ++ (wsL_law_r21 ++ (wsL_law_r22 ++ (wsL_law_r23 ++ (wsL_law_r24 ++ (wsL_law_r25 ++ (wsL_law_r26 ++ (wsL_law_r27))))))))))))))))))))))))))), w ∈ lw_tbl := fun w h => (List.mem_append.mp h).elim (wsL_law_r1_in w) ((fun w h => (List.mem_append.mp h).elim (wsL_law_r2_in w) ((fun w h => (List.mem_append.mp h).elim (wsL_law_r3_in w) ((fun w h => (List.mem_append.mp h).elim (wsL_law_r4_in w) ((fun w h => (List.mem_append.mp h).elim (wsL_law_r5_in w) ((fun w h => (List.mem_append.mp h).elim (wsL_law_r6_in w) ((fun w h => (List.mem_append.mp h).elim (wsL_law_r7_in w) ((fun w h => (List.mem_append.mp h).elim (wsL_law_r8_in w) ((fun w h => (List.mem_append.mp h).elim (wsL_law_r9_in w) ((fun w h => (List.mem_append.mp h).elim (wsL_law_r10_in w) ((fun w h => (List.mem_append.mp h).elim (wsL_law_r11_in w) ((fun w h => (List.mem_append.mp h).elim (wsL_law_r12_in w) ((fun w h => (List.mem_append.mp h).elim (wsL_law_r13_in w) ((fun w h => (List.mem_append.mp h).elim (wsL_law_r14_in w) ((fun w h => (List.mem_append.mp h).elim (wsL_law_r15_in w) ((fun w h => (List.mem_append.mp h).elim (wsL_law_r16_in w) ((fun w h => (List.mem_append.mp h).elim (wsL_law_r17_in w) ((fun w h => (List.mem_append.mp h).elim (wsL_law_r18_in w) ((fun w h => (List.mem_append.mp h).elim (wsL_law_r19_in w) ((fun w h => (List.mem_append.mp h).elim (wsL_law_r20_in w) ((fun w h => (List.mem_append.mp h).elim (wsL_law_r21_in w) ((fun w h => (List.mem_append.mp h).elim (wsL_law_r22_in w) ((fun w h => (List.mem_append.mp h).elim (wsL_law_r23_in w) ((fun w h => (List.mem_append.mp h).elim (wsL_law_r24_in w) ((fun w h => (List.mem_append.mp h).elim (wsL_law_r25_in w) ((fun w h => (List.mem_append.mp h).elim (wsL_law_r26_in w) ((wsL_law_r27_in) w)) w)) w)) w)) w)) w)) w)) w)) w)) w)) w)) w)) w)) w)) w)) w)) w)) w)) w)) w)) w)) w)) w)) w)) w)) w)
theorem wsL_law_in : ∀ w ∈ wsL_law, w ∈ lw_tbl := (fun w h => (List.mem_append.mp h).elim ((fun w h => (List.mem_append.mp h).elim ((fun w h => (List.mem_append.mp h).elim ((fun w h => (List.mem_append.mp h).elim ((fun w h => (List.mem_append.mp h).elim ((fun w h => (List.mem_append.mp h).elim ((fun w h => (List.mem_append.mp h).elim ((fun w h => (List.mem_append.mp h).elim ((fun w h => (List.mem_append.mp h).elim (wsL_runs_in w) (wsX70_in w)) w) (wsX80_in w)) w) (wsX60_in w)) w) (wsX30_in w)) w) (wsX20_in w)) w) (wsX00_in w)) w) (wsX40_in w)) w) (wsX50_in w)) w) (fun h => absurd h List.not_mem_nil))
