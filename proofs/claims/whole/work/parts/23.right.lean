/-! ===== every table is right ===== -/
set_option maxRecDepth 100000 in
theorem ok_120 : okm mx_120 := okm_of [277, 164, 277, 164, 277, 164, 277, 793, 794, 795, 75, 796, 286] (by decide +kernel) (by decide +kernel)
set_option maxRecDepth 100000 in
theorem ok_121 : okm mx_121 := okm_of [608, 569, 570, 75, 571, 172, 624, 479, 480, 75, 481, 608, 569, 570, 75, 571, 172, 624, 479, 480, 75, 481] (by decide +kernel) (by decide +kernel)
set_option maxRecDepth 100000 in
theorem ok_122 : okm mx_122 := okm_of [277, 164, 696, 698, 16, 68, 699, 696, 698, 16, 68, 699, 282, 277, 801, 802, 803, 78, 804] (by decide +kernel) (by decide +kernel)
set_option maxRecDepth 100000 in
theorem ok_123_0 : ∀ e ∈ ((mx_123.2.2.2.2.drop 0).take 60), ckx mx_123 e = true ∧ ∀ w ∈ ndx mx_123 e, w ∈ lw_tbl := okm_part [805, 807, 20, 78, 808, 156, 156, 246, 246, 247, 246, 812, 368, 367, 813, 815, 21, 78, 816] (by decide +kernel) (by decide +kernel)
set_option maxRecDepth 100000 in
theorem ok_123_1 : ∀ e ∈ ((mx_123.2.2.2.2.drop 60).take 60), ckx mx_123 e = true ∧ ∀ w ∈ ndx mx_123 e, w ∈ lw_tbl := okm_part [246] (by decide +kernel) (by decide +kernel)
theorem ok_123 : okm mx_123 := okm_chunks 60 2 (by decide +kernel) (fun q hq => by
  match q, hq with
  | 0, _ => exact ok_123_0
  | 1, _ => exact ok_123_1
  | q + 2, hq => omega)
set_option maxRecDepth 100000 in
theorem ok_124 : okm mx_124 := okm_of [156, 245, 809, 497, 498, 75, 499, 162, 245, 173, 810, 479, 480, 75, 481, 811, 569, 570, 75, 571] (by decide +kernel) (by decide +kernel)
set_option maxRecDepth 100000 in
theorem ok_125 : okm mx_125 := okm_of [156, 156, 817, 819, 22, 78, 820, 822, 824, 23, 78, 825, 246, 826, 336, 80, 337] (by decide +kernel) (by decide +kernel)
set_option maxRecDepth 100000 in
theorem ok_126 : okm mx_126 := okm_of [156, 245, 247, 821, 261, 80, 262] (by decide +kernel) (by decide +kernel)
set_option maxRecDepth 100000 in
theorem ok_127 : okm mx_127 := okm_of [156, 245, 247, 826, 336, 80, 337] (by decide +kernel) (by decide +kernel)
set_option maxRecDepth 100000 in
theorem ok_128 : okm mx_128 := okm_of [696, 698, 16, 68, 699, 661, 662, 68, 663, 831, 832, 68, 833, 277, 745, 746, 747, 75, 748, 277, 177, 281, 277, 700, 701, 702, 77, 703, 834, 836, 24, 68, 837, 838, 840, 25, 68, 841, 843, 845, 26, 68, 846] (by decide +kernel) (by decide +kernel)
set_option maxRecDepth 100000 in
theorem ok_129 : okm mx_129 := okm_of [] (by decide +kernel) (by decide +kernel)
set_option maxRecDepth 100000 in
theorem ok_130 : okm mx_130 := okm_of [277, 164, 277, 545, 546, 547, 75, 548] (by decide +kernel) (by decide +kernel)
set_option maxRecDepth 100000 in
theorem ok_131 : okm mx_131 := okm_of [277, 164, 277, 545, 546, 547, 75, 548, 842] (by decide +kernel) (by decide +kernel)
set_option maxRecDepth 100000 in
theorem ok_132 : okm mx_132 := okm_of [287, 288] (by decide +kernel) (by decide +kernel)
set_option maxRecDepth 100000 in
theorem ok_133 : okm mx_133 := okm_of [696, 698, 16, 68, 699, 831, 832, 68, 833, 277, 745, 746, 747, 75, 748, 277, 177, 834, 836, 24, 68, 837, 281, 277, 700, 701, 702, 77, 703, 838, 840, 25, 68, 841, 843, 845, 26, 68, 846] (by decide +kernel) (by decide +kernel)
set_option maxRecDepth 100000 in
theorem ok_134 : okm mx_134 := okm_of [855, 277, 164, 277, 589, 590, 591, 75, 592, 856, 855, 277, 857, 859, 27, 68, 860, 593, 594, 595, 75, 596, 277, 171] (by decide +kernel) (by decide +kernel)
set_option maxRecDepth 100000 in
theorem ok_135 : okm mx_135 := okm_of [861, 277, 164, 566, 261, 80, 262, 277, 618, 619, 620, 75, 621, 862] (by decide +kernel) (by decide +kernel)
set_option maxRecDepth 100000 in
theorem ok_136 : okm mx_136 := okm_of [286] (by decide +kernel) (by decide +kernel)
set_option maxRecDepth 100000 in
theorem ok_137 : okm mx_137 := okm_of [287] (by decide +kernel) (by decide +kernel)
set_option maxRecDepth 100000 in
theorem ok_138 : okm mx_138 := okm_of [288] (by decide +kernel) (by decide +kernel)
set_option maxRecDepth 100000 in
theorem ok_139 : okm mx_139 := okm_of [277, 164, 277, 159, 277, 171, 277, 175, 277, 168, 277, 179, 277, 177, 879, 881, 28, 68, 882, 274, 883, 884, 68, 885, 275, 883, 884, 68, 885, 886, 888, 29, 68, 889] (by decide +kernel) (by decide +kernel)
set_option maxRecDepth 100000 in
theorem ok_140 : okm mx_140 := okm_of [277, 164, 277, 553, 554, 555, 75, 556] (by decide +kernel) (by decide +kernel)
set_option maxRecDepth 100000 in
theorem ok_141 : okm mx_141 := okm_of [346, 347, 348, 79, 349] (by decide +kernel) (by decide +kernel)
set_option maxRecDepth 100000 in
theorem ok_142 : okm mx_142 := okm_of [279, 164] (by decide +kernel) (by decide +kernel)
set_option maxRecDepth 100000 in
theorem ok_143 : okm mx_143 := okm_of [285] (by decide +kernel) (by decide +kernel)
set_option maxRecDepth 100000 in
theorem ok_144 : okm mx_144 := okm_of [284] (by decide +kernel) (by decide +kernel)
set_option maxRecDepth 100000 in
theorem ok_145_0 : ∀ e ∈ ((mx_145.2.2.2.2.drop 0).take 60), ckx mx_145 e = true ∧ ∀ w ∈ ndx mx_145 e, w ∈ lw_tbl := okm_part [902, 903, 904, 876, 877, 68, 878, 277, 164, 903, 449, 451, 8, 68, 452, 903, 279, 164] (by decide +kernel) (by decide +kernel)
set_option maxRecDepth 100000 in
theorem ok_145_1 : ∀ e ∈ ((mx_145.2.2.2.2.drop 60).take 60), ckx mx_145 e = true ∧ ∀ w ∈ ndx mx_145 e, w ∈ lw_tbl := okm_part [279, 179, 274, 905, 906, 907, 79, 908, 275, 905, 906, 907, 79, 908] (by decide +kernel) (by decide +kernel)
theorem ok_145 : okm mx_145 := okm_chunks 60 2 (by decide +kernel) (fun q hq => by
  match q, hq with
  | 0, _ => exact ok_145_0
  | 1, _ => exact ok_145_1
  | q + 2, hq => omega)
set_option maxRecDepth 100000 in
theorem ok_146 : okm mx_146 := okm_of [909, 266, 266, 909, 263] (by decide +kernel) (by decide +kernel)
set_option maxRecDepth 100000 in
theorem ok_147_0 : ∀ e ∈ ((mx_147.2.2.2.2.drop 0).take 60), ckx mx_147 e = true ∧ ∀ w ∈ ndx mx_147 e, w ∈ lw_tbl := okm_part [915, 90, 916, 917, 918, 919, 922, 923, 924, 926, 927, 928, 931, 933, 938, 940] (by decide +kernel) (by decide +kernel)
set_option maxRecDepth 100000 in
theorem ok_147_1 : ∀ e ∈ ((mx_147.2.2.2.2.drop 60).take 60), ckx mx_147 e = true ∧ ∀ w ∈ ndx mx_147 e, w ∈ lw_tbl := okm_part [941, 942, 943, 916, 918] (by decide +kernel) (by decide +kernel)
theorem ok_147 : okm mx_147 := okm_chunks 60 2 (by decide +kernel) (fun q hq => by
  match q, hq with
  | 0, _ => exact ok_147_0
  | 1, _ => exact ok_147_1
  | q + 2, hq => omega)
set_option maxRecDepth 100000 in
theorem ok_148 : okm mx_148 := okm_of [1006, 1007, 81, 1008, 1013, 1015, 30, 81, 1016, 916, 917] (by decide +kernel) (by decide +kernel)
set_option maxRecDepth 100000 in
theorem ok_149 : okm mx_149 := okm_of [1009, 1010, 1011, 81, 1012] (by decide +kernel) (by decide +kernel)
set_option maxRecDepth 100000 in
theorem ok_150 : okm mx_150 := okm_of [] (by decide +kernel) (by decide +kernel)
set_option maxRecDepth 100000 in
theorem ok_151 : okm mx_151 := okm_of [932, 933] (by decide +kernel) (by decide +kernel)
set_option maxRecDepth 100000 in
theorem ok_152 : okm mx_152 := okm_of [1006, 1007, 81, 1008, 916, 1013, 1015, 30, 81, 1016, 916, 1010, 1011, 81, 1012, 1013, 1015, 30, 81, 1016, 917, 917, 1021, 1023, 31, 81, 1024] (by decide +kernel) (by decide +kernel)
set_option maxRecDepth 100000 in
theorem ok_153 : okm mx_153 := okm_of [929] (by decide +kernel) (by decide +kernel)
set_option maxRecDepth 100000 in
theorem ok_154 : okm mx_154 := okm_of [1006, 1007, 81, 1008, 916, 1013, 1015, 30, 81, 1016, 916, 1010, 1011, 81, 1012, 917, 1021, 1023, 31, 81, 1024, 1013, 1015, 30, 81, 1016] (by decide +kernel) (by decide +kernel)
set_option maxRecDepth 100000 in
theorem ok_155 : okm mx_155 := okm_of [1006, 1007, 81, 1008, 916, 1013, 1015, 30, 81, 1016, 916] (by decide +kernel) (by decide +kernel)
set_option maxRecDepth 100000 in
theorem ok_156_0 : ∀ e ∈ ((mx_156.2.2.2.2.drop 0).take 60), ckx mx_156 e = true ∧ ∀ w ∈ ndx mx_156 e, w ∈ lw_tbl := okm_part [1006, 1007, 81, 1008, 1006, 1007, 81, 1008, 1013, 1015, 30, 81, 1016, 916, 916, 1013, 1015, 30, 81, 1016, 916, 916, 1013, 1015, 30, 81, 1016] (by decide +kernel) (by decide +kernel)
set_option maxRecDepth 100000 in
theorem ok_156_1 : ∀ e ∈ ((mx_156.2.2.2.2.drop 60).take 60), ckx mx_156 e = true ∧ ∀ w ∈ ndx mx_156 e, w ∈ lw_tbl := okm_part [917, 917] (by decide +kernel) (by decide +kernel)
theorem ok_156 : okm mx_156 := okm_chunks 60 2 (by decide +kernel) (fun q hq => by
  match q, hq with
  | 0, _ => exact ok_156_0
  | 1, _ => exact ok_156_1
  | q + 2, hq => omega)
set_option maxRecDepth 100000 in
theorem ok_157 : okm mx_157 := okm_of [1006, 1007, 81, 1008, 916, 1013, 1015, 30, 81, 1016, 916, 1013, 1015, 30, 81, 1016, 916, 917, 916, 1021, 1023, 31, 81, 1024] (by decide +kernel) (by decide +kernel)
set_option maxRecDepth 100000 in
theorem ok_158 : okm mx_158 := okm_of [1045, 1046, 81, 1047, 1013, 1015, 30, 81, 1016, 918, 919] (by decide +kernel) (by decide +kernel)
set_option maxRecDepth 100000 in
theorem ok_159 : okm mx_159 := okm_of [1048, 1010, 1011, 81, 1012] (by decide +kernel) (by decide +kernel)
set_option maxRecDepth 100000 in
theorem ok_160 : okm mx_160 := okm_of [1045, 1046, 81, 1047, 918, 1013, 1015, 30, 81, 1016, 918, 1010, 1011, 81, 1012, 1013, 1015, 30, 81, 1016, 919, 919] (by decide +kernel) (by decide +kernel)
set_option maxRecDepth 100000 in
theorem ok_161 : okm mx_161 := okm_of [1045, 1046, 81, 1047, 918, 1013, 1015, 30, 81, 1016, 1057, 1059, 32, 81, 1060] (by decide +kernel) (by decide +kernel)
set_option maxRecDepth 100000 in
theorem ok_162 : okm mx_162 := okm_of [934, 936, 1061, 1063, 33, 81, 1064, 1069, 1071, 35, 81, 1072, 1061, 1063, 33, 81, 1064, 934, 918, 936, 1077, 1079, 37, 81, 1080, 934] (by decide +kernel) (by decide +kernel)
set_option maxRecDepth 100000 in
theorem ok_163 : okm mx_163 := okm_of [1065, 1067, 34, 81, 1068, 934, 934] (by decide +kernel) (by decide +kernel)
set_option maxRecDepth 100000 in
theorem ok_164 : okm mx_164 := okm_of [934, 918, 919, 934] (by decide +kernel) (by decide +kernel)
set_option maxRecDepth 100000 in
theorem ok_165 : okm mx_165 := okm_of [1065, 1067, 34, 81, 1068, 934, 934, 1073, 1075, 36, 81, 1076, 939, 935, 1073, 1075, 36, 81, 1076, 939, 937, 1073, 1075, 36, 81, 1076, 937, 939, 937] (by decide +kernel) (by decide +kernel)
set_option maxRecDepth 100000 in
theorem ok_166 : okm mx_166 := okm_of [1065, 1067, 34, 81, 1068, 939, 939, 1010, 1011, 81, 1012, 934, 934] (by decide +kernel) (by decide +kernel)
set_option maxRecDepth 100000 in
theorem ok_167_0 : ∀ e ∈ ((mx_167.2.2.2.2.drop 0).take 60), ckx mx_167 e = true ∧ ∀ w ∈ ndx mx_167 e, w ∈ lw_tbl := okm_part [1065, 1067, 34, 81, 1068, 1081, 1082, 81, 1083, 936, 934, 934, 936, 938, 935, 1073, 1075, 36, 81, 1076, 938, 939] (by decide +kernel) (by decide +kernel)
set_option maxRecDepth 100000 in
theorem ok_167_1 : ∀ e ∈ ((mx_167.2.2.2.2.drop 60).take 60), ckx mx_167 e = true ∧ ∀ w ∈ ndx mx_167 e, w ∈ lw_tbl := okm_part [936, 936] (by decide +kernel) (by decide +kernel)
theorem ok_167 : okm mx_167 := okm_chunks 60 2 (by decide +kernel) (fun q hq => by
  match q, hq with
  | 0, _ => exact ok_167_0
  | 1, _ => exact ok_167_1
  | q + 2, hq => omega)
set_option maxRecDepth 100000 in
theorem ok_168 : okm mx_168 := okm_of [] (by decide +kernel) (by decide +kernel)
set_option maxRecDepth 100000 in
theorem ok_169_0 : ∀ e ∈ ((mx_169.2.2.2.2.drop 0).take 60), ckx mx_169 e = true ∧ ∀ w ∈ ndx mx_169 e, w ∈ lw_tbl := okm_part [1045, 1046, 81, 1047, 918, 1013, 1015, 30, 81, 1016, 1057, 1059, 32, 81, 1060, 936, 920, 935, 921, 924, 924, 937, 920, 922, 938] (by decide +kernel) (by decide +kernel)
set_option maxRecDepth 100000 in
theorem ok_169_1 : ∀ e ∈ ((mx_169.2.2.2.2.drop 60).take 60), ckx mx_169 e = true ∧ ∀ w ∈ ndx mx_169 e, w ∈ lw_tbl := okm_part [924, 938, 924, 938, 923, 938, 925, 928] (by decide +kernel) (by decide +kernel)
set_option maxRecDepth 100000 in
theorem ok_169_2 : ∀ e ∈ ((mx_169.2.2.2.2.drop 120).take 60), ckx mx_169 e = true ∧ ∀ w ∈ ndx mx_169 e, w ∈ lw_tbl := okm_part [920] (by decide +kernel) (by decide +kernel)
theorem ok_169 : okm mx_169 := okm_chunks 60 3 (by decide +kernel) (fun q hq => by
  match q, hq with
  | 0, _ => exact ok_169_0
  | 1, _ => exact ok_169_1
  | 2, _ => exact ok_169_2
  | q + 3, hq => omega)
set_option maxRecDepth 100000 in
theorem ok_170 : okm mx_170 := okm_of [1092, 1094, 38, 81, 1095, 1096, 1010, 1011, 81, 1012, 1097, 1099, 39, 81, 1100, 1021, 1023, 31, 81, 1024] (by decide +kernel) (by decide +kernel)
set_option maxRecDepth 100000 in
theorem ok_171 : okm mx_171 := okm_of [920, 1010, 1011, 81, 1012] (by decide +kernel) (by decide +kernel)
set_option maxRecDepth 100000 in
theorem ok_172_0 : ∀ e ∈ ((mx_172.2.2.2.2.drop 0).take 60), ckx mx_172 e = true ∧ ∀ w ∈ ndx mx_172 e, w ∈ lw_tbl := okm_part [922, 924, 924, 1101, 1103, 40, 81, 1104, 924, 1105, 1107, 41, 81, 1108, 922, 924, 1116, 1117, 81, 1118, 1122, 1124, 43, 81, 1125, 924, 1126, 1127, 81, 1128] (by decide +kernel) (by decide +kernel)
set_option maxRecDepth 100000 in
theorem ok_172_1 : ∀ e ∈ ((mx_172.2.2.2.2.drop 60).take 60), ckx mx_172 e = true ∧ ∀ w ∈ ndx mx_172 e, w ∈ lw_tbl := okm_part [] (by decide +kernel) (by decide +kernel)
theorem ok_172 : okm mx_172 := okm_chunks 60 2 (by decide +kernel) (fun q hq => by
  match q, hq with
  | 0, _ => exact ok_172_0
  | 1, _ => exact ok_172_1
  | q + 2, hq => omega)
set_option maxRecDepth 100000 in
theorem ok_173 : okm mx_173 := okm_of [922, 923, 923, 923] (by decide +kernel) (by decide +kernel)
set_option maxRecDepth 100000 in
theorem ok_174 : okm mx_174 := okm_of [922, 924, 924, 1109, 1111, 42, 81, 1112] (by decide +kernel) (by decide +kernel)
set_option maxRecDepth 100000 in
theorem ok_175 : okm mx_175 := okm_of [921, 1113, 1114, 81, 1115] (by decide +kernel) (by decide +kernel)
set_option maxRecDepth 100000 in
theorem ok_176 : okm mx_176 := okm_of [] (by decide +kernel) (by decide +kernel)
set_option maxRecDepth 100000 in
theorem ok_177 : okm mx_177 := okm_of [1119, 1120, 81, 1121] (by decide +kernel) (by decide +kernel)
set_option maxRecDepth 100000 in
theorem ok_178 : okm mx_178 := okm_of [] (by decide +kernel) (by decide +kernel)
set_option maxRecDepth 100000 in
theorem ok_179 : okm mx_179 := okm_of [922, 922] (by decide +kernel) (by decide +kernel)
