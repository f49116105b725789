/-! ===== every table is right ===== -/
set_option maxRecDepth 100000 in
theorem ok_60 : okm mx_60 := okm_of [] (by decide +kernel) (by decide +kernel)
set_option maxRecDepth 100000 in
theorem ok_61 : okm mx_61 := okm_of [144, 457, 458, 459, 75, 460, 525, 526, 527, 69, 544, 525, 528, 526, 537, 535, 70, 536, 525, 528, 529, 526, 69, 544, 525, 528, 530, 526, 69, 544, 525, 528, 526, 538, 539, 73, 540, 525, 528, 526, 531, 532, 74, 533] (by decide +kernel) (by decide +kernel)
set_option maxRecDepth 100000 in
theorem ok_62 : okm mx_62 := okm_of [534, 1372, 136, 535, 70, 536] (by decide +kernel) (by decide +kernel)
set_option maxRecDepth 100000 in
theorem ok_63 : okm mx_63 := okm_of [] (by decide +kernel) (by decide +kernel)
set_option maxRecDepth 100000 in
theorem ok_64 : okm mx_64 := okm_of [541, 542, 129, 115, 526, 69, 544] (by decide +kernel) (by decide +kernel)
set_option maxRecDepth 100000 in
theorem ok_65 : okm mx_65 := okm_of [] (by decide +kernel) (by decide +kernel)
set_option maxRecDepth 100000 in
theorem ok_66 : okm mx_66 := okm_of [176] (by decide +kernel) (by decide +kernel)
set_option maxRecDepth 100000 in
theorem ok_67_0 : ∀ e ∈ ((mx_67.2.2.2.2.drop 0).take 60), ckx mx_67 e = true ∧ ∀ w ∈ ndx mx_67 e, w ∈ lw_tbl := okm_part [445, 447, 7, 68, 448, 277, 553, 554, 555, 75, 556, 327, 329, 0, 68, 330, 562, 564, 9, 68, 565, 277, 147, 277, 453, 454, 455, 75, 456, 566, 261, 80, 262, 277, 175, 567, 501, 80, 502, 277, 277, 568, 569, 570, 75, 571, 277, 277] (by decide +kernel) (by decide +kernel)
set_option maxRecDepth 100000 in
theorem ok_67_1 : ∀ e ∈ ((mx_67.2.2.2.2.drop 60).take 60), ckx mx_67 e = true ∧ ∀ w ∈ ndx mx_67 e, w ∈ lw_tbl := okm_part [175, 478, 479, 480, 75, 481, 584, 497, 498, 75, 499, 277, 277, 171, 277, 277, 175, 478, 479, 480, 75, 481, 584, 497, 498, 75, 499] (by decide +kernel) (by decide +kernel)
theorem ok_67 : okm mx_67 := okm_chunks 60 2 (by decide +kernel) (fun q hq => by
  match q, hq with
  | 0, _ => exact ok_67_0
  | 1, _ => exact ok_67_1
  | q + 2, hq => omega)
set_option maxRecDepth 100000 in
theorem ok_68 : okm mx_68 := okm_of [144, 457, 458, 459, 75, 460, 557, 558, 559, 560, 561] (by decide +kernel) (by decide +kernel)
set_option maxRecDepth 100000 in
theorem ok_69 : okm mx_69 := okm_of [277, 164, 277, 277, 175, 503, 504, 505, 75, 506] (by decide +kernel) (by decide +kernel)
set_option maxRecDepth 100000 in
theorem ok_70 : okm mx_70 := okm_of [144, 457, 458, 459, 75, 460, 148, 150, 572, 573, 574, 69, 583, 572, 575, 581, 573, 69, 583, 572, 575, 573, 576, 577, 71, 578, 572, 575, 579, 573, 69, 583, 572, 575, 573, 582, 577, 71, 578, 572, 575, 580, 573, 69, 583] (by decide +kernel) (by decide +kernel)
set_option maxRecDepth 100000 in
theorem ok_71 : okm mx_71 := okm_of [] (by decide +kernel) (by decide +kernel)
set_option maxRecDepth 100000 in
theorem ok_72 : okm mx_72 := okm_of [] (by decide +kernel) (by decide +kernel)
set_option maxRecDepth 100000 in
theorem ok_73 : okm mx_73 := okm_of [277, 164, 277, 589, 590, 591, 75, 592, 277, 593, 594, 595, 75, 596, 277, 171] (by decide +kernel) (by decide +kernel)
set_option maxRecDepth 100000 in
theorem ok_74 : okm mx_74 := okm_of [178] (by decide +kernel) (by decide +kernel)
set_option maxRecDepth 100000 in
theorem ok_75_0 : ∀ e ∈ ((mx_75.2.2.2.2.drop 0).take 60), ckx mx_75 e = true ∧ ∀ w ∈ ndx mx_75 e, w ∈ lw_tbl := okm_part [597, 590, 591, 75, 592, 154, 178, 178, 178, 169, 496, 497, 498, 75, 499, 169, 172, 172, 172, 172, 598, 600, 10, 75, 601, 176] (by decide +kernel) (by decide +kernel)
set_option maxRecDepth 100000 in
theorem ok_75_1 : ∀ e ∈ ((mx_75.2.2.2.2.drop 60).take 60), ckx mx_75 e = true ∧ ∀ w ∈ ndx mx_75 e, w ∈ lw_tbl := okm_part [176, 167, 603, 454, 455, 75, 456, 167, 176, 176, 167, 603, 454, 455, 75, 456, 167, 604, 606, 11, 75, 607] (by decide +kernel) (by decide +kernel)
theorem ok_75 : okm mx_75 := okm_chunks 60 2 (by decide +kernel) (fun q hq => by
  match q, hq with
  | 0, _ => exact ok_75_0
  | 1, _ => exact ok_75_1
  | q + 2, hq => omega)
set_option maxRecDepth 100000 in
theorem ok_76 : okm mx_76 := okm_of [602, 554, 555, 75, 556, 150, 169, 602, 554, 555, 75, 556, 148, 169, 172, 496, 497, 498, 75, 499, 148, 169] (by decide +kernel) (by decide +kernel)
set_option maxRecDepth 100000 in
theorem ok_77 : okm mx_77 := okm_of [608, 569, 570, 75, 571, 169, 172, 609, 522, 523, 75, 524, 172] (by decide +kernel) (by decide +kernel)
set_option maxRecDepth 100000 in
theorem ok_78 : okm mx_78 := okm_of [277, 164, 277, 589, 590, 591, 75, 592, 277, 593, 594, 595, 75, 596, 277, 175] (by decide +kernel) (by decide +kernel)
set_option maxRecDepth 100000 in
theorem ok_79 : okm mx_79 := okm_of [445, 447, 7, 68, 448, 277, 618, 619, 620, 75, 621, 277, 589, 590, 591, 75, 592, 277, 593, 594, 595, 75, 596, 277, 171] (by decide +kernel) (by decide +kernel)
set_option maxRecDepth 100000 in
theorem ok_80 : okm mx_80 := okm_of [622, 546, 547, 75, 548, 172, 623, 504, 505, 75, 506, 172, 624, 479, 480, 75, 481, 169] (by decide +kernel) (by decide +kernel)
set_option maxRecDepth 100000 in
theorem ok_81 : okm mx_81 := okm_of [445, 447, 7, 68, 448, 277, 545, 546, 547, 75, 548, 277, 453, 454, 455, 75, 456, 277, 168, 277, 589, 590, 591, 75, 592, 277, 593, 594, 595, 75, 596, 277, 168] (by decide +kernel) (by decide +kernel)
set_option maxRecDepth 100000 in
theorem ok_82 : okm mx_82 := okm_of [445, 447, 7, 68, 448, 277, 545, 546, 547, 75, 548, 277, 589, 590, 591, 75, 592, 277, 593, 594, 595, 75, 596, 277, 168] (by decide +kernel) (by decide +kernel)
set_option maxRecDepth 100000 in
theorem ok_83 : okm mx_83 := okm_of [445, 447, 7, 68, 448, 277, 545, 546, 547, 75, 548, 277, 277, 175, 478, 479, 480, 75, 481, 277, 171, 277, 589, 590, 591, 75, 592, 277, 593, 594, 595, 75, 596, 277, 149] (by decide +kernel) (by decide +kernel)
set_option maxRecDepth 100000 in
theorem ok_84 : okm mx_84 := okm_of [277, 179, 277, 179, 277, 641, 642, 643, 75, 644] (by decide +kernel) (by decide +kernel)
set_option maxRecDepth 100000 in
theorem ok_85 : okm mx_85 := okm_of [400, 401, 402, 75, 403, 154, 645, 594, 595, 75, 596] (by decide +kernel) (by decide +kernel)
set_option maxRecDepth 100000 in
theorem ok_86 : okm mx_86 := okm_of [650, 651, 68, 652, 277, 164, 279, 277, 435, 436, 437, 75, 438, 277, 179] (by decide +kernel) (by decide +kernel)
set_option maxRecDepth 100000 in
theorem ok_87 : okm mx_87 := okm_of [] (by decide +kernel) (by decide +kernel)
set_option maxRecDepth 100000 in
theorem ok_88 : okm mx_88 := okm_of [650, 651, 68, 652, 279, 164, 327, 329, 0, 68, 330, 277, 279, 435, 436, 437, 75, 438, 277, 179] (by decide +kernel) (by decide +kernel)
set_option maxRecDepth 100000 in
theorem ok_89 : okm mx_89 := okm_of [661, 662, 68, 663, 277, 164, 281, 277, 277, 177, 664, 665, 666, 77, 667] (by decide +kernel) (by decide +kernel)
set_option maxRecDepth 100000 in
theorem ok_90 : okm mx_90 := okm_of [] (by decide +kernel) (by decide +kernel)
set_option maxRecDepth 100000 in
theorem ok_91 : okm mx_91 := okm_of [668, 670, 12, 77, 671, 672, 674, 13, 77, 675, 231] (by decide +kernel) (by decide +kernel)
set_option maxRecDepth 100000 in
theorem ok_92 : okm mx_92 := okm_of [231, 231, 170] (by decide +kernel) (by decide +kernel)
set_option maxRecDepth 100000 in
theorem ok_93 : okm mx_93 := okm_of [231, 676, 678, 14, 77, 679, 231, 680, 681, 77, 682, 676, 678, 14, 77, 679, 163, 684, 686, 15, 77, 687, 690, 522, 523, 75, 524, 691, 569, 570, 75, 571, 676, 678, 14, 77, 679] (by decide +kernel) (by decide +kernel)
set_option maxRecDepth 100000 in
theorem ok_94 : okm mx_94 := okm_of [231] (by decide +kernel) (by decide +kernel)
set_option maxRecDepth 100000 in
theorem ok_95 : okm mx_95 := okm_of [158, 683, 261, 80, 262] (by decide +kernel) (by decide +kernel)
set_option maxRecDepth 100000 in
theorem ok_96 : okm mx_96 := okm_of [174, 688, 504, 505, 75, 506, 231, 174, 689, 479, 480, 75, 481] (by decide +kernel) (by decide +kernel)
set_option maxRecDepth 100000 in
theorem ok_97 : okm mx_97 := okm_of [696, 698, 16, 68, 699, 281, 277, 277, 177, 700, 701, 702, 77, 703, 281, 232, 704, 705, 83, 706, 286] (by decide +kernel) (by decide +kernel)
set_option maxRecDepth 100000 in
theorem ok_98 : okm mx_98 := okm_of [277, 159] (by decide +kernel) (by decide +kernel)
set_option maxRecDepth 100000 in
theorem ok_99 : okm mx_99 := okm_of [668, 670, 12, 77, 671, 231, 672, 674, 13, 77, 675] (by decide +kernel) (by decide +kernel)
set_option maxRecDepth 100000 in
theorem ok_100 : okm mx_100 := okm_of [707, 708, 708, 709] (by decide +kernel) (by decide +kernel)
set_option maxRecDepth 100000 in
theorem ok_101 : okm mx_101 := okm_of [696, 698, 16, 68, 699, 324, 325, 68, 326, 281, 277, 277, 177, 700, 701, 702, 77, 703, 281, 277, 714, 715, 716, 77, 717, 274, 331, 332, 333, 79, 334, 281, 277, 274, 733, 734, 735, 77, 736, 274, 268] (by decide +kernel) (by decide +kernel)
set_option maxRecDepth 100000 in
theorem ok_102 : okm mx_102 := okm_of [233, 233, 158, 718, 720, 17, 77, 721, 233] (by decide +kernel) (by decide +kernel)
set_option maxRecDepth 100000 in
theorem ok_103 : okm mx_103 := okm_of [722, 723, 77, 724, 726, 727, 77, 728, 233, 729, 730, 77, 731] (by decide +kernel) (by decide +kernel)
set_option maxRecDepth 100000 in
theorem ok_104 : okm mx_104 := okm_of [174, 163, 725, 546, 547, 75, 548, 688, 504, 505, 75, 506, 689, 479, 480, 75, 481] (by decide +kernel) (by decide +kernel)
set_option maxRecDepth 100000 in
theorem ok_105 : okm mx_105 := okm_of [690, 522, 523, 75, 524] (by decide +kernel) (by decide +kernel)
set_option maxRecDepth 100000 in
theorem ok_106 : okm mx_106 := okm_of [732, 497, 498, 75, 499, 691, 569, 570, 75, 571] (by decide +kernel) (by decide +kernel)
set_option maxRecDepth 100000 in
theorem ok_107 : okm mx_107 := okm_of [170, 718, 720, 17, 77, 721, 737, 738, 739, 79, 740, 729, 730, 77, 731, 726, 727, 77, 728] (by decide +kernel) (by decide +kernel)
set_option maxRecDepth 100000 in
theorem ok_108 : okm mx_108 := okm_of [266, 266, 263, 263, 266, 266, 266] (by decide +kernel) (by decide +kernel)
set_option maxRecDepth 100000 in
theorem ok_109_0 : ∀ e ∈ ((mx_109.2.2.2.2.drop 0).take 60), ckx mx_109 e = true ∧ ∀ w ∈ ndx mx_109 e, w ∈ lw_tbl := okm_part [696, 698, 16, 68, 699, 661, 662, 68, 663, 277, 745, 746, 747, 75, 748, 277, 177, 277, 749, 750, 751, 75, 752, 281, 277, 277, 177, 700, 701, 702, 77, 703] (by decide +kernel) (by decide +kernel)
set_option maxRecDepth 100000 in
theorem ok_109_1 : ∀ e ∈ ((mx_109.2.2.2.2.drop 60).take 60), ckx mx_109 e = true ∧ ∀ w ∈ ndx mx_109 e, w ∈ lw_tbl := okm_part [286] (by decide +kernel) (by decide +kernel)
theorem ok_109 : okm mx_109 := okm_chunks 60 2 (by decide +kernel) (fun q hq => by
  match q, hq with
  | 0, _ => exact ok_109_0
  | 1, _ => exact ok_109_1
  | q + 2, hq => omega)
set_option maxRecDepth 100000 in
theorem ok_110 : okm mx_110 := okm_of [160] (by decide +kernel) (by decide +kernel)
set_option maxRecDepth 100000 in
theorem ok_111 : okm mx_111 := okm_of [160, 603, 454, 455, 75, 456] (by decide +kernel) (by decide +kernel)
set_option maxRecDepth 100000 in
theorem ok_112_0 : ∀ e ∈ ((mx_112.2.2.2.2.drop 0).take 60), ckx mx_112 e = true ∧ ∀ w ∈ ndx mx_112 e, w ∈ lw_tbl := okm_part [696, 698, 16, 68, 699, 661, 662, 68, 663, 277, 745, 746, 747, 75, 748, 277, 177, 704, 705, 83, 706, 281, 277, 277, 177, 700, 701, 702, 77, 703] (by decide +kernel) (by decide +kernel)
set_option maxRecDepth 100000 in
theorem ok_112_1 : ∀ e ∈ ((mx_112.2.2.2.2.drop 60).take 60), ckx mx_112 e = true ∧ ∀ w ∈ ndx mx_112 e, w ∈ lw_tbl := okm_part [286] (by decide +kernel) (by decide +kernel)
theorem ok_112 : okm mx_112 := okm_chunks 60 2 (by decide +kernel) (fun q hq => by
  match q, hq with
  | 0, _ => exact ok_112_0
  | 1, _ => exact ok_112_1
  | q + 2, hq => omega)
set_option maxRecDepth 100000 in
theorem ok_113 : okm mx_113 := okm_of [445, 447, 7, 68, 448, 696, 698, 16, 68, 699, 281, 277, 277, 177, 700, 701, 702, 77, 703, 281, 277, 277, 177, 700, 701, 702, 77, 703] (by decide +kernel) (by decide +kernel)
set_option maxRecDepth 100000 in
theorem ok_114_0 : ∀ e ∈ ((mx_114.2.2.2.2.drop 0).take 60), ckx mx_114 e = true ∧ ∀ w ∈ ndx mx_114 e, w ∈ lw_tbl := okm_part [765, 767, 18, 68, 768, 277, 159, 277, 145, 277, 151, 274, 769, 771, 19, 68, 772, 277, 145, 277, 149, 274] (by decide +kernel) (by decide +kernel)
set_option maxRecDepth 100000 in
theorem ok_114_1 : ∀ e ∈ ((mx_114.2.2.2.2.drop 60).take 60), ckx mx_114 e = true ∧ ∀ w ∈ ndx mx_114 e, w ∈ lw_tbl := okm_part [769, 771, 19, 68, 772, 286] (by decide +kernel) (by decide +kernel)
theorem ok_114 : okm mx_114 := okm_chunks 60 2 (by decide +kernel) (fun q hq => by
  match q, hq with
  | 0, _ => exact ok_114_0
  | 1, _ => exact ok_114_1
  | q + 2, hq => omega)
set_option maxRecDepth 100000 in
theorem ok_115_0 : ∀ e ∈ ((mx_115.2.2.2.2.drop 0).take 60), ckx mx_115 e = true ∧ ∀ w ∈ ndx mx_115 e, w ∈ lw_tbl := okm_part [445, 447, 7, 68, 448, 324, 325, 68, 326, 274, 346, 347, 348, 79, 349, 327, 329, 0, 68, 330, 274, 268, 327, 329, 0, 68, 330, 274, 268, 274, 265] (by decide +kernel) (by decide +kernel)
set_option maxRecDepth 100000 in
theorem ok_115_1 : ∀ e ∈ ((mx_115.2.2.2.2.drop 60).take 60), ckx mx_115 e = true ∧ ∀ w ∈ ndx mx_115 e, w ∈ lw_tbl := okm_part [274, 265, 696, 698, 16, 68, 699, 274, 265, 696, 698, 16, 68, 699, 327, 329, 0, 68, 330] (by decide +kernel) (by decide +kernel)
theorem ok_115 : okm mx_115 := okm_chunks 60 2 (by decide +kernel) (fun q hq => by
  match q, hq with
  | 0, _ => exact ok_115_0
  | 1, _ => exact ok_115_1
  | q + 2, hq => omega)
set_option maxRecDepth 100000 in
theorem ok_116 : okm mx_116 := okm_of [277, 773, 458, 459, 75, 460, 268, 265, 774, 508, 509, 69, 520, 774, 510, 508, 518, 516, 70, 517, 774, 510, 511, 508, 69, 520, 774, 510, 508, 512, 513, 72, 514, 774, 510, 519, 508, 69, 520, 774, 510, 508, 515, 516, 70, 517, 277, 775, 483, 484, 69, 495, 775, 485, 493, 483, 69, 495, 775, 485, 483, 486, 487, 71, 488, 775, 485, 489, 483, 69, 495, 775, 485, 483, 494, 487, 71, 488, 775, 485, 483, 490, 491, 74, 492, 584, 497, 498, 75, 499, 265, 776, 573, 574, 69, 583, 776, 575, 581, 573, 69, 583, 776, 575, 573, 576, 577, 71, 578, 776, 575, 579, 573, 69, 583, 776, 575, 573, 582, 577, 71, 578, 776, 575, 580, 573, 69, 583, 265] (by decide +kernel) (by decide +kernel)
set_option maxRecDepth 100000 in
theorem ok_117 : okm mx_117 := okm_of [765, 767, 18, 68, 768, 277, 149, 277, 151, 274, 769, 771, 19, 68, 772] (by decide +kernel) (by decide +kernel)
set_option maxRecDepth 100000 in
theorem ok_118_0 : ∀ e ∈ ((mx_118.2.2.2.2.drop 0).take 60), ckx mx_118 e = true ∧ ∀ w ∈ ndx mx_118 e, w ∈ lw_tbl := okm_part [696, 698, 16, 68, 699, 283, 277, 159, 283, 286, 283, 283, 277, 785, 786, 787, 75, 788, 277] (by decide +kernel) (by decide +kernel)
set_option maxRecDepth 100000 in
theorem ok_118_1 : ∀ e ∈ ((mx_118.2.2.2.2.drop 60).take 60), ckx mx_118 e = true ∧ ∀ w ∈ ndx mx_118 e, w ∈ lw_tbl := okm_part [568, 569, 570, 75, 571] (by decide +kernel) (by decide +kernel)
theorem ok_118 : okm mx_118 := okm_chunks 60 2 (by decide +kernel) (fun q hq => by
  match q, hq with
  | 0, _ => exact ok_118_0
  | 1, _ => exact ok_118_1
  | q + 2, hq => omega)
set_option maxRecDepth 100000 in
theorem ok_119 : okm mx_119 := okm_of [160, 172, 624, 479, 480, 75, 481] (by decide +kernel) (by decide +kernel)
