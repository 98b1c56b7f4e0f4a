set_option maxRecDepth 20000 in
theorem lc_1 : ∀ w ∈ wsL_law_r1, w ∈ lw_tbl := fun w h => (goodIn_r wsL_law_r1 [52, 53, 41, 721, 722, 49, 54, 55, 56, 57, 58, 59, 60, 61, 42, 251, 209, 210, 48, 252, 249, 67, 43, 253] (by decide +kernel) (by decide +kernel) w h).1
set_option maxRecDepth 20000 in
theorem lc_2 : ∀ w ∈ wsL_law_r2, w ∈ lw_tbl := fun w h => (goodIn_r wsL_law_r2 [254, 63, 64, 65, 66, 192, 193, 194, 195, 69, 70, 71, 72, 73, 44, 147, 106, 107, 46, 149, 150, 127, 79, 45] (by decide +kernel) (by decide +kernel) w h).1
set_option maxRecDepth 20000 in
theorem lc_3 : ∀ w ∈ wsL_law_r3, w ∈ lw_tbl := fun w h => (goodIn_r wsL_law_r3 [151, 153, 129, 130, 47, 155, 101, 157, 75, 76, 77, 78, 102, 80, 81, 82, 83, 84, 85, 109, 110, 111, 112, 128] (by decide +kernel) (by decide +kernel) w h).1
set_option maxRecDepth 20000 in
theorem lc_4 : ∀ w ∈ wsL_law_r4, w ∈ lw_tbl := fun w h => (goodIn_r wsL_law_r4 [132, 133, 134, 135, 212, 213, 214, 248, 215, 723, 724, 725, 726, 727, 728, 729, 730, 733, 741, 264, 265, 266, 267, 268] (by decide +kernel) (by decide +kernel) w h).1
set_option maxRecDepth 20000 in
theorem lc_5 : ∀ w ∈ wsL_law_r5, w ∈ lw_tbl := fun w h => (goodIn_r wsL_law_r5 [270, 0, 271, 272, 273, 274, 275, 300, 289, 288, 51, 159, 160, 161, 162, 163, 164, 276, 277, 278, 279, 280, 281, 282] (by decide +kernel) (by decide +kernel) w h).1
set_option maxRecDepth 20000 in
theorem lc_6 : ∀ w ∈ wsL_law_r6, w ∈ lw_tbl := fun w h => (goodIn_r wsL_law_r6 [283, 86, 284, 285, 50, 286, 89, 287, 290, 291, 292, 293, 114, 116, 117, 294, 295, 296, 297, 298, 299, 136, 138, 301] (by decide +kernel) (by decide +kernel) w h).1
set_option maxRecDepth 20000 in
theorem lc_7 : ∀ w ∈ wsL_law_r7, w ∈ lw_tbl := fun w h => (goodIn_r wsL_law_r7 [302, 303, 304, 308, 321, 306, 307, 309, 310, 311, 312, 313, 315, 1, 316, 317, 318, 319, 320, 322, 323, 324, 325, 326] (by decide +kernel) (by decide +kernel) w h).1
set_option maxRecDepth 20000 in
theorem lc_8 : ∀ w ∈ wsL_law_r8, w ∈ lw_tbl := fun w h => (goodIn_r wsL_law_r8 [327, 328, 329, 330, 331, 332, 333, 334, 335, 336, 337, 338, 340, 2, 341, 342, 343, 344, 345, 196, 346, 773, 774, 775] (by decide +kernel) (by decide +kernel) w h).1
set_option maxRecDepth 20000 in
theorem lc_9 : ∀ w ∈ wsL_law_r9, w ∈ lw_tbl := fun w h => (goodIn_r wsL_law_r9 [776, 783, 788, 777, 778, 779, 780, 781, 782, 784, 786, 20, 787, 789, 791, 21, 792, 732, 731, 347, 348, 349, 350, 351] (by decide +kernel) (by decide +kernel) w h).1
set_option maxRecDepth 20000 in
theorem lc_10 : ∀ w ∈ wsL_law_r10, w ∈ lw_tbl := fun w h => (goodIn_r wsL_law_r10 [352, 353, 354, 355, 356, 357, 358, 359, 360, 361, 362, 363, 364, 365, 366, 367, 368, 369, 370, 371, 372, 373, 374, 375] (by decide +kernel) (by decide +kernel) w h).1
set_option maxRecDepth 20000 in
theorem lc_11 : ∀ w ∈ wsL_law_r11, w ∈ lw_tbl := fun w h => (goodIn_r wsL_law_r11 [377, 378, 379, 380, 381, 382, 383, 384, 386, 3, 387, 388, 389, 390, 391, 392, 393, 394, 396, 4, 397, 398, 399, 400] (by decide +kernel) (by decide +kernel) w h).1
set_option maxRecDepth 20000 in
theorem lc_12 : ∀ w ∈ wsL_law_r12, w ∈ lw_tbl := fun w h => (goodIn_r wsL_law_r12 [401, 403, 404, 793, 794, 795, 796, 839, 797, 799, 22, 800, 801, 802, 804, 23, 805, 806, 807, 808, 809, 811, 24, 812] (by decide +kernel) (by decide +kernel) w h).1
set_option maxRecDepth 20000 in
theorem lc_13 : ∀ w ∈ wsL_law_r13, w ∈ lw_tbl := fun w h => (goodIn_r wsL_law_r13 [813, 815, 25, 816, 817, 819, 26, 820, 821, 823, 27, 824, 825, 826, 827, 828, 830, 28, 831, 832, 834, 29, 835, 836] (by decide +kernel) (by decide +kernel) w h).1
set_option maxRecDepth 20000 in
theorem lc_14 : ∀ w ∈ wsL_law_r14, w ∈ lw_tbl := fun w h => (goodIn_r wsL_law_r14 [837, 838, 405, 406, 407, 408, 409, 410, 411, 412, 840, 841, 842, 843, 413, 414, 415, 416, 417, 418, 419, 420, 844, 845] (by decide +kernel) (by decide +kernel) w h).1
set_option maxRecDepth 20000 in
theorem lc_15 : ∀ w ∈ wsL_law_r15, w ∈ lw_tbl := fun w h => (goodIn_r wsL_law_r15 [846, 847, 421, 422, 423, 424, 425, 426, 427, 428, 429, 430, 431, 432, 433, 434, 435, 436, 437, 438, 440, 5, 441, 443] (by decide +kernel) (by decide +kernel) w h).1
set_option maxRecDepth 20000 in
theorem lc_16 : ∀ w ∈ wsL_law_r16, w ∈ lw_tbl := fun w h => (goodIn_r wsL_law_r16 [444, 445, 447, 6, 448, 450, 451, 453, 454, 455, 456, 457, 458, 459, 460, 461, 462, 463, 464, 465, 466, 467, 468, 470] (by decide +kernel) (by decide +kernel) w h).1
set_option maxRecDepth 20000 in
theorem lc_17 : ∀ w ∈ wsL_law_r17, w ∈ lw_tbl := fun w h => (goodIn_r wsL_law_r17 [7, 471, 472, 473, 474, 475, 476, 477, 478, 848, 849, 850, 851, 852, 854, 30, 855, 856, 858, 31, 859, 860, 861, 862] (by decide +kernel) (by decide +kernel) w h).1
set_option maxRecDepth 20000 in
theorem lc_18 : ∀ w ∈ wsL_law_r18, w ∈ lw_tbl := fun w h => (goodIn_r wsL_law_r18 [863, 864, 865, 866, 867, 868, 869, 871, 32, 872, 873, 875, 33, 876, 479, 480, 481, 482, 483, 484, 485, 486, 877, 878] (by decide +kernel) (by decide +kernel) w h).1
set_option maxRecDepth 20000 in
theorem lc_19 : ∀ w ∈ wsL_law_r19, w ∈ lw_tbl := fun w h => (goodIn_r wsL_law_r19 [879, 880, 487, 488, 489, 490, 491, 492, 493, 494, 495, 496, 497, 498, 881, 882, 883, 884, 499, 500, 501, 502, 503, 504] (by decide +kernel) (by decide +kernel) w h).1
set_option maxRecDepth 20000 in
theorem lc_20 : ∀ w ∈ wsL_law_r20, w ∈ lw_tbl := fun w h => (goodIn_r wsL_law_r20 [505, 506, 885, 886, 887, 888, 889, 890, 891, 892, 893, 894, 511, 512, 513, 514, 516, 515, 517, 518, 519, 520, 521, 522] (by decide +kernel) (by decide +kernel) w h).1
set_option maxRecDepth 20000 in
theorem lc_21 : ∀ w ∈ wsL_law_r21, w ∈ lw_tbl := fun w h => (goodIn_r wsL_law_r21 [895, 896, 897, 898, 523, 524, 525, 526, 527, 528, 529, 530, 531, 532, 899, 900, 901, 902, 533, 534, 535, 536, 537, 538] (by decide +kernel) (by decide +kernel) w h).1
set_option maxRecDepth 20000 in
theorem lc_22 : ∀ w ∈ wsL_law_r22, w ∈ lw_tbl := fun w h => (goodIn_r wsL_law_r22 [539, 540, 541, 543, 544, 903, 904, 905, 906, 545, 546, 547, 548, 549, 550, 551, 552, 553, 554, 556, 8, 557, 558, 907] (by decide +kernel) (by decide +kernel) w h).1
set_option maxRecDepth 20000 in
theorem lc_23 : ∀ w ∈ wsL_law_r23, w ∈ lw_tbl := fun w h => (goodIn_r wsL_law_r23 [908, 909, 910, 559, 560, 561, 562, 563, 564, 565, 566, 567, 569, 9, 570, 911, 912, 913, 914, 571, 572, 573, 574, 575] (by decide +kernel) (by decide +kernel) w h).1
set_option maxRecDepth 20000 in
theorem lc_24 : ∀ w ∈ wsL_law_r24, w ∈ lw_tbl := fun w h => (goodIn_r wsL_law_r24 [915, 916, 917, 918, 919, 920, 921, 576, 577, 578, 579, 580, 581, 582, 583, 584, 586, 10, 587, 588, 922, 923, 924, 925] (by decide +kernel) (by decide +kernel) w h).1
set_option maxRecDepth 20000 in
theorem lc_25 : ∀ w ∈ wsL_law_r25, w ∈ lw_tbl := fun w h => (goodIn_r wsL_law_r25 [589, 590, 591, 592, 593, 594, 595, 596, 597, 598, 599, 600, 601, 602, 603, 604, 606, 607, 608, 609, 926, 927, 928, 929] (by decide +kernel) (by decide +kernel) w h).1
set_option maxRecDepth 20000 in
theorem lc_26 : ∀ w ∈ wsL_law_r26, w ∈ lw_tbl := fun w h => (goodIn_r wsL_law_r26 [610, 611, 612, 613, 614, 615, 616, 617, 618, 619, 620, 621, 930, 931, 932, 933, 622, 623, 624, 625, 626, 627, 628, 629] (by decide +kernel) (by decide +kernel) w h).1
set_option maxRecDepth 20000 in
theorem lc_27 : ∀ w ∈ wsL_law_r27, w ∈ lw_tbl := fun w h => (goodIn_r wsL_law_r27 [630, 632, 11, 633, 934, 935, 936, 937, 734, 634, 635, 636, 637, 638, 639, 640, 641, 642, 643, 938, 939, 940, 941, 644] (by decide +kernel) (by decide +kernel) w h).1
set_option maxRecDepth 20000 in
theorem lc_28 : ∀ w ∈ wsL_law_r28, w ∈ lw_tbl := fun w h => (goodIn_r wsL_law_r28 [645, 646, 647, 648, 649, 650, 651, 216, 652, 942, 943, 944, 945, 653, 654, 655, 656, 946, 947, 948, 949, 657, 658, 659] (by decide +kernel) (by decide +kernel) w h).1
set_option maxRecDepth 20000 in
theorem lc_29 : ∀ w ∈ wsL_law_r29, w ∈ lw_tbl := fun w h => (goodIn_r wsL_law_r29 [660, 661, 662, 663, 664, 225, 218, 222, 665, 667, 12, 668, 219, 669, 671, 13, 672, 673, 675, 14, 676, 220, 677, 679] (by decide +kernel) (by decide +kernel) w h).1
set_option maxRecDepth 20000 in
theorem lc_30 : ∀ w ∈ wsL_law_r30, w ∈ lw_tbl := fun w h => (goodIn_r wsL_law_r30 [15, 680, 684, 681, 682, 683, 685, 687, 16, 688, 689, 691, 17, 692, 221, 693, 695, 18, 696, 224, 226, 697, 699, 19] (by decide +kernel) (by decide +kernel) w h).1
set_option maxRecDepth 20000 in
theorem lc_31 : ∀ w ∈ wsL_law_r31, w ∈ lw_tbl := fun w h => (goodIn_r wsL_law_r31 [700, 701, 702, 703, 704, 705, 706, 707, 708, 709, 710, 715, 711, 712, 713, 714, 950, 951, 952, 953, 736, 737, 738, 954] (by decide +kernel) (by decide +kernel) w h).1
set_option maxRecDepth 20000 in
theorem lc_32 : ∀ w ∈ wsL_law_r32, w ∈ lw_tbl := fun w h => (goodIn_r wsL_law_r32 [956, 34, 957, 735, 739, 958, 960, 35, 961, 740, 962, 964, 36, 965, 966, 968, 37, 969, 970, 972, 38, 973, 974, 976] (by decide +kernel) (by decide +kernel) w h).1
set_option maxRecDepth 20000 in
theorem lc_33 : ∀ w ∈ wsL_law_r33, w ∈ lw_tbl := fun w h => (goodIn_r wsL_law_r33 [39, 977, 978, 979, 980, 981, 982, 983, 716, 717, 718, 719, 720, 984, 985, 986, 987] (by decide +kernel) (by decide +kernel) w h).1
set_option maxRecDepth 20000 in
theorem lcX_0 : ∀ w ∈ wsX00, w ∈ lw_tbl := fun w h => (goodIn_r wsX00 [118, 120, 122, 124] (by decide +kernel) (by decide +kernel) w h).1
set_option maxRecDepth 20000 in
theorem lcX_1 : ∀ w ∈ wsX10, w ∈ lw_tbl := fun w h => (goodIn_r wsX10 [165, 167, 169, 171, 173, 175, 177, 179, 181, 183, 185, 187, 189] (by decide +kernel) (by decide +kernel) w h).1
set_option maxRecDepth 20000 in
theorem lcX_2 : ∀ w ∈ wsX20, w ∈ lw_tbl := fun w h => (goodIn_r wsX20 [198, 200, 202, 204, 206] (by decide +kernel) (by decide +kernel) w h).1
set_option maxRecDepth 20000 in
theorem lcX_3 : ∀ w ∈ wsX30, w ∈ lw_tbl := fun w h => (goodIn_r wsX30 [103] (by decide +kernel) (by decide +kernel) w h).1
set_option maxRecDepth 20000 in
theorem lcX_4 : ∀ w ∈ wsX40, w ∈ lw_tbl := fun w h => (goodIn_r wsX40 [227, 229, 231, 233, 235, 237, 239, 241, 243, 245] (by decide +kernel) (by decide +kernel) w h).1
set_option maxRecDepth 20000 in
theorem lcX_5 : ∀ w ∈ wsX50, w ∈ lw_tbl := fun w h => (goodIn_r wsX50 [92, 94, 96, 98] (by decide +kernel) (by decide +kernel) w h).1
set_option maxRecDepth 20000 in
theorem lcX_6 : ∀ w ∈ wsX60, w ∈ lw_tbl := fun w h => (goodIn_r wsX60 [140, 142, 144] (by decide +kernel) (by decide +kernel) w h).1
set_option maxRecDepth 20000 in
theorem lcX_7 : ∀ w ∈ wsX70, w ∈ lw_tbl := fun w h => (goodIn_r wsX70 [255, 257, 259, 261] (by decide +kernel) (by decide +kernel) w h).1
set_option maxRecDepth 20000 in
theorem lcX_8 : ∀ w ∈ wsX80, w ∈ lw_tbl := fun w h => (goodIn_r wsX80 [742, 744, 746, 748, 750, 752, 754, 756, 758, 760, 762, 764, 766, 768, 770] (by decide +kernel) (by decide +kernel) w h).1
theorem wsL_law_in : ∀ w ∈ wsL_law, w ∈ lw_tbl := List.forall_mem_append.mpr ⟨List.forall_mem_append.mpr ⟨List.forall_mem_append.mpr ⟨List.forall_mem_append.mpr ⟨List.forall_mem_append.mpr ⟨List.forall_mem_append.mpr ⟨List.forall_mem_append.mpr ⟨List.forall_mem_append.mpr ⟨List.forall_mem_append.mpr ⟨List.forall_mem_append.mpr ⟨List.forall_mem_append.mpr ⟨lc_1, List.forall_mem_append.mpr ⟨lc_2, List.forall_mem_append.mpr ⟨lc_3, List.forall_mem_append.mpr ⟨lc_4, List.forall_mem_append.mpr ⟨lc_5, List.forall_mem_append.mpr ⟨lc_6, List.forall_mem_append.mpr ⟨lc_7, List.forall_mem_append.mpr ⟨lc_8, List.forall_mem_append.mpr ⟨lc_9, List.forall_mem_append.mpr ⟨lc_10, List.forall_mem_append.mpr ⟨lc_11, List.forall_mem_append.mpr ⟨lc_12, List.forall_mem_append.mpr ⟨lc_13, List.forall_mem_append.mpr ⟨lc_14, List.forall_mem_append.mpr ⟨lc_15, List.forall_mem_append.mpr ⟨lc_16, List.forall_mem_append.mpr ⟨lc_17, List.forall_mem_append.mpr ⟨lc_18, List.forall_mem_append.mpr ⟨lc_19, List.forall_mem_append.mpr ⟨lc_20, List.forall_mem_append.mpr ⟨lc_21, List.forall_mem_append.mpr ⟨lc_22, List.forall_mem_append.mpr ⟨lc_23, List.forall_mem_append.mpr ⟨lc_24, List.forall_mem_append.mpr ⟨lc_25, List.forall_mem_append.mpr ⟨lc_26, List.forall_mem_append.mpr ⟨lc_27, List.forall_mem_append.mpr ⟨lc_28, List.forall_mem_append.mpr ⟨lc_29, List.forall_mem_append.mpr ⟨lc_30, List.forall_mem_append.mpr ⟨lc_31, List.forall_mem_append.mpr ⟨lc_32, lc_33⟩⟩⟩⟩⟩⟩⟩⟩⟩⟩⟩⟩⟩⟩⟩⟩⟩⟩⟩⟩⟩⟩⟩⟩⟩⟩⟩⟩⟩⟩⟩⟩, lcX_7⟩, lcX_8⟩, lcX_2⟩, lcX_4⟩, lcX_1⟩, lcX_3⟩, lcX_0⟩, lcX_5⟩, lcX_6⟩, fun _ h => absurd h List.not_mem_nil⟩
theorem inlX0 : ∀ w ∈ wsX00, w ∈ wsL_law := fun _ h => List.mem_append_left _ (List.mem_append_left _ (List.mem_append_left _ (List.mem_append_right _ h)))
theorem inX0 : ∀ w ∈ wsX00, w ∈ lw_tbl := fun w h => wsL_law_in w (inlX0 w h)
theorem inlX1 : ∀ w ∈ wsX10, w ∈ wsL_law := fun _ h => List.mem_append_left _ (List.mem_append_left _ (List.mem_append_left _ (List.mem_append_left _ (List.mem_append_left _ (List.mem_append_right _ h)))))
theorem inX1 : ∀ w ∈ wsX10, w ∈ lw_tbl := fun w h => wsL_law_in w (inlX1 w h)
theorem inlX2 : ∀ w ∈ wsX20, w ∈ wsL_law := fun _ h => List.mem_append_left _ (List.mem_append_left _ (List.mem_append_left _ (List.mem_append_left _ (List.mem_append_left _ (List.mem_append_left _ (List.mem_append_left _ (List.mem_append_right _ h)))))))
theorem inX2 : ∀ w ∈ wsX20, w ∈ lw_tbl := fun w h => wsL_law_in w (inlX2 w h)
theorem inlX3 : ∀ w ∈ wsX30, w ∈ wsL_law := fun _ h => List.mem_append_left _ (List.mem_append_left _ (List.mem_append_left _ (List.mem_append_left _ (List.mem_append_right _ h))))
theorem inX3 : ∀ w ∈ wsX30, w ∈ lw_tbl := fun w h => wsL_law_in w (inlX3 w h)
theorem inlX4 : ∀ w ∈ wsX40, w ∈ wsL_law := fun _ h => List.mem_append_left _ (List.mem_append_left _ (List.mem_append_left _ (List.mem_append_left _ (List.mem_append_left _ (List.mem_append_left _ (List.mem_append_right _ h))))))
theorem inX4 : ∀ w ∈ wsX40, w ∈ lw_tbl := fun w h => wsL_law_in w (inlX4 w h)
theorem inlX5 : ∀ w ∈ wsX50, w ∈ wsL_law := fun _ h => List.mem_append_left _ (List.mem_append_left _ (List.mem_append_right _ h))
theorem inX5 : ∀ w ∈ wsX50, w ∈ lw_tbl := fun w h => wsL_law_in w (inlX5 w h)
theorem inlX6 : ∀ w ∈ wsX60, w ∈ wsL_law := fun _ h => List.mem_append_left _ (List.mem_append_right _ h)
theorem inX6 : ∀ w ∈ wsX60, w ∈ lw_tbl := fun w h => wsL_law_in w (inlX6 w h)
theorem inlX7 : ∀ w ∈ wsX70, w ∈ wsL_law := fun _ h => List.mem_append_left _ (List.mem_append_left _ (List.mem_append_left _ (List.mem_append_left _ (List.mem_append_left _ (List.mem_append_left _ (List.mem_append_left _ (List.mem_append_left _ (List.mem_append_left _ (List.mem_append_right _ h)))))))))
theorem inX7 : ∀ w ∈ wsX70, w ∈ lw_tbl := fun w h => wsL_law_in w (inlX7 w h)
theorem inlX8 : ∀ w ∈ wsX80, w ∈ wsL_law := fun _ h => List.mem_append_left _ (List.mem_append_left _ (List.mem_append_left _ (List.mem_append_left _ (List.mem_append_left _ (List.mem_append_left _ (List.mem_append_left _ (List.mem_append_left _ (List.mem_append_right _ h))))))))
theorem inX8 : ∀ w ∈ wsX80, w ∈ lw_tbl := fun w h => wsL_law_in w (inlX8 w h)
