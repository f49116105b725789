/-! ===== every table is right ===== -/
set_option maxRecDepth 100000 in
theorem ok_180 : okm mx_180 := okm_of [] (by decide +kernel) (by decide +kernel)
set_option maxRecDepth 100000 in
theorem ok_181_0 : ∀ e ∈ ((mx_181.2.2.2.2.drop 0).take 60), ckx mx_181 e = true ∧ ∀ w ∈ ndx mx_181 e, w ∈ lw_tbl := okm_part [1092, 1094, 38, 81, 1095, 1009, 1010, 1011, 81, 1012, 922, 1133, 1134, 81, 1135, 1013, 1015, 30, 81, 1016, 1136, 1138, 44, 81, 1139, 923, 1101, 1103, 40, 81, 1104, 923, 1101, 1103, 40, 81, 1104, 924] (by decide +kernel) (by decide +kernel)
set_option maxRecDepth 100000 in
theorem ok_181_1 : ∀ e ∈ ((mx_181.2.2.2.2.drop 60).take 60), ckx mx_181 e = true ∧ ∀ w ∈ ndx mx_181 e, w ∈ lw_tbl := okm_part [924, 1105, 1107, 41, 81, 1108, 1140, 1142, 45, 81, 1143, 1147, 1149, 46, 81, 1150, 924, 1105, 1107, 41, 81, 1108, 924, 1147, 1149, 46, 81, 1150] (by decide +kernel) (by decide +kernel)
theorem ok_181 : okm mx_181 := okm_chunks 60 2 (by decide +kernel) (fun q hq => by
  match q, hq with
  | 0, _ => exact ok_181_0
  | 1, _ => exact ok_181_1
  | q + 2, hq => omega)
set_option maxRecDepth 100000 in
theorem ok_182 : okm mx_182 := okm_of [] (by decide +kernel) (by decide +kernel)
set_option maxRecDepth 100000 in
theorem ok_183 : okm mx_183 := okm_of [920, 922, 924, 1116, 1117, 81, 1118] (by decide +kernel) (by decide +kernel)
set_option maxRecDepth 100000 in
theorem ok_184 : okm mx_184 := okm_of [922, 924, 924, 1144, 1145, 81, 1146] (by decide +kernel) (by decide +kernel)
set_option maxRecDepth 100000 in
theorem ok_185 : okm mx_185 := okm_of [1113, 1114, 81, 1115] (by decide +kernel) (by decide +kernel)
set_option maxRecDepth 100000 in
theorem ok_186 : okm mx_186 := okm_of [921, 921] (by decide +kernel) (by decide +kernel)
set_option maxRecDepth 100000 in
theorem ok_187 : okm mx_187 := okm_of [1155, 1157, 47, 81, 1158, 1159, 1161, 48, 81, 1162, 924] (by decide +kernel) (by decide +kernel)
set_option maxRecDepth 100000 in
theorem ok_188 : okm mx_188 := okm_of [920, 925] (by decide +kernel) (by decide +kernel)
set_option maxRecDepth 100000 in
theorem ok_189 : okm mx_189 := okm_of [1163, 1165, 49, 81, 1166, 924, 924, 921, 924] (by decide +kernel) (by decide +kernel)
set_option maxRecDepth 100000 in
theorem ok_190 : okm mx_190 := okm_of [924, 926, 925, 1167, 1168, 81, 1169, 925, 925] (by decide +kernel) (by decide +kernel)
set_option maxRecDepth 100000 in
theorem ok_191 : okm mx_191 := okm_of [] (by decide +kernel) (by decide +kernel)
set_option maxRecDepth 100000 in
theorem ok_192 : okm mx_192 := okm_of [1155, 1157, 47, 81, 1158, 1174, 1176, 50, 81, 1177, 924] (by decide +kernel) (by decide +kernel)
set_option maxRecDepth 100000 in
theorem ok_193 : okm mx_193 := okm_of [1163, 1165, 49, 81, 1166, 924] (by decide +kernel) (by decide +kernel)
set_option maxRecDepth 100000 in
theorem ok_194 : okm mx_194 := okm_of [1092, 1094, 38, 81, 1095, 1182, 1184, 51, 81, 1185, 925, 1186, 1188, 52, 81, 1189, 924] (by decide +kernel) (by decide +kernel)
set_option maxRecDepth 100000 in
theorem ok_195 : okm mx_195 := okm_of [924, 1126, 1127, 81, 1128, 922, 924, 1116, 1117, 81, 1118, 924, 1105, 1107, 41, 81, 1108, 924] (by decide +kernel) (by decide +kernel)
set_option maxRecDepth 100000 in
theorem ok_196 : okm mx_196 := okm_of [1163, 1165, 49, 81, 1166, 924, 1140, 1142, 45, 81, 1143, 924, 1122, 1124, 43, 81, 1125] (by decide +kernel) (by decide +kernel)
set_option maxRecDepth 100000 in
theorem ok_197 : okm mx_197 := okm_of [1092, 1094, 38, 81, 1095, 924, 1126, 1127, 81, 1128, 1101, 1103, 40, 81, 1104, 924, 925, 1163, 1165, 49, 81, 1166, 924, 924, 1101, 1103, 40, 81, 1104, 924] (by decide +kernel) (by decide +kernel)
set_option maxRecDepth 100000 in
theorem ok_198 : okm mx_198 := okm_of [1092, 1094, 38, 81, 1095, 924, 1126, 1127, 81, 1128, 925, 1163, 1165, 49, 81, 1166, 924, 924, 1101, 1103, 40, 81, 1104, 924] (by decide +kernel) (by decide +kernel)
set_option maxRecDepth 100000 in
theorem ok_199_0 : ∀ e ∈ ((mx_199.2.2.2.2.drop 0).take 60), ckx mx_199 e = true ∧ ∀ w ∈ ndx mx_199 e, w ∈ lw_tbl := okm_part [1092, 1094, 38, 81, 1095, 924, 1126, 1127, 81, 1128, 924, 1105, 1107, 41, 81, 1108, 924, 925, 1163, 1165, 49, 81, 1166, 922, 1113, 1114, 81, 1115, 924, 924, 924, 922] (by decide +kernel) (by decide +kernel)
set_option maxRecDepth 100000 in
theorem ok_199_1 : ∀ e ∈ ((mx_199.2.2.2.2.drop 60).take 60), ckx mx_199 e = true ∧ ∀ w ∈ ndx mx_199 e, w ∈ lw_tbl := okm_part [924, 921, 924, 1147, 1149, 46, 81, 1150, 924, 924] (by decide +kernel) (by decide +kernel)
theorem ok_199 : okm mx_199 := okm_chunks 60 2 (by decide +kernel) (fun q hq => by
  match q, hq with
  | 0, _ => exact ok_199_0
  | 1, _ => exact ok_199_1
  | q + 2, hq => omega)
set_option maxRecDepth 100000 in
theorem ok_200 : okm mx_200 := okm_of [925, 1010, 1011, 81, 1012, 925, 926, 924, 1167, 1168, 81, 1169, 925] (by decide +kernel) (by decide +kernel)
set_option maxRecDepth 100000 in
theorem ok_201 : okm mx_201 := okm_of [1210, 1010, 1011, 81, 1012, 920, 924, 927, 1167, 1168, 81, 1169, 926, 927, 1167, 1168, 81, 1169, 927, 925, 928, 925] (by decide +kernel) (by decide +kernel)
set_option maxRecDepth 100000 in
theorem ok_202 : okm mx_202 := okm_of [1210, 1010, 1011, 81, 1012, 928, 1013, 1015, 30, 81, 1016, 927, 924, 1167, 1168, 81, 1169, 927, 926, 1167, 1168, 81, 1169, 927, 925, 925] (by decide +kernel) (by decide +kernel)
set_option maxRecDepth 100000 in
theorem ok_203 : okm mx_203 := okm_of [1219, 1010, 1011, 81, 1012, 920, 924, 1220, 1222, 53, 81, 1223, 940] (by decide +kernel) (by decide +kernel)
set_option maxRecDepth 100000 in
theorem ok_204_0 : ∀ e ∈ ((mx_204.2.2.2.2.drop 0).take 60), ckx mx_204 e = true ∧ ∀ w ∈ ndx mx_204 e, w ∈ lw_tbl := okm_part [940, 924, 921, 940, 1126, 1127, 81, 1128, 1224, 1226, 54, 81, 1227, 940, 1228, 1230, 55, 81, 1231] (by decide +kernel) (by decide +kernel)
set_option maxRecDepth 100000 in
theorem ok_204_1 : ∀ e ∈ ((mx_204.2.2.2.2.drop 60).take 60), ckx mx_204 e = true ∧ ∀ w ∈ ndx mx_204 e, w ∈ lw_tbl := okm_part [] (by decide +kernel) (by decide +kernel)
theorem ok_204 : okm mx_204 := okm_chunks 60 2 (by decide +kernel) (fun q hq => by
  match q, hq with
  | 0, _ => exact ok_204_0
  | 1, _ => exact ok_204_1
  | q + 2, hq => omega)
set_option maxRecDepth 100000 in
theorem ok_205 : okm mx_205 := okm_of [921, 924, 920, 1126, 1127, 81, 1128, 922, 1116, 1117, 81, 1118, 1105, 1107, 41, 81, 1108, 1140, 1142, 45, 81, 1143] (by decide +kernel) (by decide +kernel)
set_option maxRecDepth 100000 in
theorem ok_206 : okm mx_206 := okm_of [1122, 1124, 43, 81, 1125] (by decide +kernel) (by decide +kernel)
set_option maxRecDepth 100000 in
theorem ok_207 : okm mx_207 := okm_of [1236, 1238, 56, 81, 1239, 924, 1240, 1242, 57, 81, 1243, 940, 1244, 1245, 81, 1246, 1247, 1249, 58, 81, 1250] (by decide +kernel) (by decide +kernel)
set_option maxRecDepth 100000 in
theorem ok_208 : okm mx_208 := okm_of [921, 1010, 1011, 81, 1012] (by decide +kernel) (by decide +kernel)
set_option maxRecDepth 100000 in
theorem ok_209 : okm mx_209 := okm_of [1220, 1222, 53, 81, 1223, 940, 1126, 1127, 81, 1128] (by decide +kernel) (by decide +kernel)
set_option maxRecDepth 100000 in
theorem ok_210 : okm mx_210 := okm_of [] (by decide +kernel) (by decide +kernel)
set_option maxRecDepth 100000 in
theorem ok_211 : okm mx_211 := okm_of [929] (by decide +kernel) (by decide +kernel)
set_option maxRecDepth 100000 in
theorem ok_212_0 : ∀ e ∈ ((mx_212.2.2.2.2.drop 0).take 60), ckx mx_212 e = true ∧ ∀ w ∈ ndx mx_212 e, w ∈ lw_tbl := okm_part [1236, 1238, 56, 81, 1239, 1006, 1007, 81, 1008, 924, 1240, 1242, 57, 81, 1243, 941, 921, 924, 1224, 1226, 54, 81, 1227] (by decide +kernel) (by decide +kernel)
set_option maxRecDepth 100000 in
theorem ok_212_1 : ∀ e ∈ ((mx_212.2.2.2.2.drop 60).take 60), ckx mx_212 e = true ∧ ∀ w ∈ ndx mx_212 e, w ∈ lw_tbl := okm_part [1228, 1230, 55, 81, 1231, 941, 1228, 1230, 55, 81, 1231, 1126, 1127, 81, 1128, 941, 924, 924] (by decide +kernel) (by decide +kernel)
set_option maxRecDepth 100000 in
theorem ok_212_2 : ∀ e ∈ ((mx_212.2.2.2.2.drop 120).take 60), ckx mx_212 e = true ∧ ∀ w ∈ ndx mx_212 e, w ∈ lw_tbl := okm_part [1224, 1226, 54, 81, 1227, 1228, 1230, 55, 81, 1231, 941, 1228, 1230, 55, 81, 1231, 1126, 1127, 81, 1128, 924, 1224, 1226, 54, 81, 1227, 917, 1228, 1230, 55, 81, 1231, 916] (by decide +kernel) (by decide +kernel)
set_option maxRecDepth 100000 in
theorem ok_212_3 : ∀ e ∈ ((mx_212.2.2.2.2.drop 180).take 60), ckx mx_212 e = true ∧ ∀ w ∈ ndx mx_212 e, w ∈ lw_tbl := okm_part [] (by decide +kernel) (by decide +kernel)
theorem ok_212 : okm mx_212 := okm_chunks 60 4 (by decide +kernel) (fun q hq => by
  match q, hq with
  | 0, _ => exact ok_212_0
  | 1, _ => exact ok_212_1
  | 2, _ => exact ok_212_2
  | 3, _ => exact ok_212_3
  | q + 4, hq => omega)
set_option maxRecDepth 100000 in
theorem ok_213_0 : ∀ e ∈ ((mx_213.2.2.2.2.drop 0).take 60), ckx mx_213 e = true ∧ ∀ w ∈ ndx mx_213 e, w ∈ lw_tbl := okm_part [1236, 1238, 56, 81, 1239, 1219, 1010, 1011, 81, 1012, 920, 924, 1259, 1261, 59, 81, 1262, 1259, 1261, 59, 81, 1262, 924, 1240, 1242, 57, 81, 1243] (by decide +kernel) (by decide +kernel)
set_option maxRecDepth 100000 in
theorem ok_213_1 : ∀ e ∈ ((mx_213.2.2.2.2.drop 60).take 60), ckx mx_213 e = true ∧ ∀ w ∈ ndx mx_213 e, w ∈ lw_tbl := okm_part [1259, 1261, 59, 81, 1262, 1247, 1249, 58, 81, 1250] (by decide +kernel) (by decide +kernel)
theorem ok_213 : okm mx_213 := okm_chunks 60 2 (by decide +kernel) (fun q hq => by
  match q, hq with
  | 0, _ => exact ok_213_0
  | 1, _ => exact ok_213_1
  | q + 2, hq => omega)
set_option maxRecDepth 100000 in
theorem ok_214 : okm mx_214 := okm_of [920, 1126, 1127, 81, 1128, 1101, 1103, 40, 81, 1104] (by decide +kernel) (by decide +kernel)
set_option maxRecDepth 100000 in
theorem ok_215_0 : ∀ e ∈ ((mx_215.2.2.2.2.drop 0).take 60), ckx mx_215 e = true ∧ ∀ w ∈ ndx mx_215 e, w ∈ lw_tbl := okm_part [1236, 1238, 56, 81, 1239, 1219, 1010, 1011, 81, 1012, 920, 924, 1244, 1245, 81, 1246, 1244, 1245, 81, 1246, 924, 1240, 1242, 57, 81, 1243] (by decide +kernel) (by decide +kernel)
set_option maxRecDepth 100000 in
theorem ok_215_1 : ∀ e ∈ ((mx_215.2.2.2.2.drop 60).take 60), ckx mx_215 e = true ∧ ∀ w ∈ ndx mx_215 e, w ∈ lw_tbl := okm_part [1244, 1245, 81, 1246, 1247, 1249, 58, 81, 1250] (by decide +kernel) (by decide +kernel)
theorem ok_215 : okm mx_215 := okm_chunks 60 2 (by decide +kernel) (fun q hq => by
  match q, hq with
  | 0, _ => exact ok_215_0
  | 1, _ => exact ok_215_1
  | q + 2, hq => omega)
set_option maxRecDepth 100000 in
theorem ok_216 : okm mx_216 := okm_of [1092, 1094, 38, 81, 1095, 1236, 1238, 56, 81, 1239, 924, 1240, 1242, 57, 81, 1243, 924, 1240, 1242, 57, 81, 1243] (by decide +kernel) (by decide +kernel)
set_option maxRecDepth 100000 in
theorem ok_217_0 : ∀ e ∈ ((mx_217.2.2.2.2.drop 0).take 60), ckx mx_217 e = true ∧ ∀ w ∈ ndx mx_217 e, w ∈ lw_tbl := okm_part [1092, 1094, 38, 81, 1095, 1006, 1007, 81, 1008, 1275, 1277, 60, 81, 1278, 1013, 1015, 30, 81, 1016, 921, 922, 924, 1280, 1282, 61, 81, 1283, 922] (by decide +kernel) (by decide +kernel)
set_option maxRecDepth 100000 in
theorem ok_217_1 : ∀ e ∈ ((mx_217.2.2.2.2.drop 60).take 60), ckx mx_217 e = true ∧ ∀ w ∈ ndx mx_217 e, w ∈ lw_tbl := okm_part [924, 1280, 1282, 61, 81, 1283, 1247, 1249, 58, 81, 1250] (by decide +kernel) (by decide +kernel)
theorem ok_217 : okm mx_217 := okm_chunks 60 2 (by decide +kernel) (fun q hq => by
  match q, hq with
  | 0, _ => exact ok_217_0
  | 1, _ => exact ok_217_1
  | q + 2, hq => omega)
set_option maxRecDepth 100000 in
theorem ok_218_0 : ∀ e ∈ ((mx_218.2.2.2.2.drop 0).take 60), ckx mx_218 e = true ∧ ∀ w ∈ ndx mx_218 e, w ∈ lw_tbl := okm_part [916, 916, 916, 917, 1279, 1010, 1011, 81, 1012, 917, 1236, 1238, 56, 81, 1239, 917, 1236, 1238, 56, 81, 1239] (by decide +kernel) (by decide +kernel)
set_option maxRecDepth 100000 in
theorem ok_218_1 : ∀ e ∈ ((mx_218.2.2.2.2.drop 60).take 60), ckx mx_218 e = true ∧ ∀ w ∈ ndx mx_218 e, w ∈ lw_tbl := okm_part [] (by decide +kernel) (by decide +kernel)
theorem ok_218 : okm mx_218 := okm_chunks 60 2 (by decide +kernel) (fun q hq => by
  match q, hq with
  | 0, _ => exact ok_218_0
  | 1, _ => exact ok_218_1
  | q + 2, hq => omega)
set_option maxRecDepth 100000 in
theorem ok_219 : okm mx_219 := okm_of [916, 917, 1116, 1117, 81, 1118, 917, 1109, 1111, 42, 81, 1112, 917, 1144, 1145, 81, 1146, 917] (by decide +kernel) (by decide +kernel)
set_option maxRecDepth 100000 in
theorem ok_220 : okm mx_220 := okm_of [1092, 1094, 38, 81, 1095, 1006, 1007, 81, 1008, 1275, 1277, 60, 81, 1278, 1013, 1015, 30, 81, 1016, 924, 924, 1280, 1282, 61, 81, 1283] (by decide +kernel) (by decide +kernel)
set_option maxRecDepth 100000 in
theorem ok_221 : okm mx_221 := okm_of [1236, 1238, 56, 81, 1239, 1126, 1127, 81, 1128, 1292, 1294, 62, 81, 1295, 1292, 1294, 62, 81, 1295, 1292, 1294, 62, 81, 1295, 1247, 1249, 58, 81, 1250] (by decide +kernel) (by decide +kernel)
set_option maxRecDepth 100000 in
theorem ok_222 : okm mx_222 := okm_of [920, 924, 1105, 1107, 41, 81, 1108, 1140, 1142, 45, 81, 1143] (by decide +kernel) (by decide +kernel)
set_option maxRecDepth 100000 in
theorem ok_223_0 : ∀ e ∈ ((mx_223.2.2.2.2.drop 0).take 60), ckx mx_223 e = true ∧ ∀ w ∈ ndx mx_223 e, w ∈ lw_tbl := okm_part [920, 920, 920, 1140, 1142, 45, 81, 1143, 924, 1105, 1107, 41, 81, 1108, 1140, 1142, 45, 81, 1143, 924, 1105, 1107, 41, 81, 1108] (by decide +kernel) (by decide +kernel)
set_option maxRecDepth 100000 in
theorem ok_223_1 : ∀ e ∈ ((mx_223.2.2.2.2.drop 60).take 60), ckx mx_223 e = true ∧ ∀ w ∈ ndx mx_223 e, w ∈ lw_tbl := okm_part [1247, 1249, 58, 81, 1250] (by decide +kernel) (by decide +kernel)
theorem ok_223 : okm mx_223 := okm_chunks 60 2 (by decide +kernel) (fun q hq => by
  match q, hq with
  | 0, _ => exact ok_223_0
  | 1, _ => exact ok_223_1
  | q + 2, hq => omega)
set_option maxRecDepth 100000 in
theorem ok_224_0 : ∀ e ∈ ((mx_224.2.2.2.2.drop 0).take 60), ckx mx_224 e = true ∧ ∀ w ∈ ndx mx_224 e, w ∈ lw_tbl := okm_part [920, 1236, 1238, 56, 81, 1239, 1236, 1238, 56, 81, 1239, 1304, 1010, 1011, 81, 1012, 942, 1305, 921] (by decide +kernel) (by decide +kernel)
set_option maxRecDepth 100000 in
theorem ok_224_1 : ∀ e ∈ ((mx_224.2.2.2.2.drop 60).take 60), ckx mx_224 e = true ∧ ∀ w ∈ ndx mx_224 e, w ∈ lw_tbl := okm_part [921, 943, 1306, 1308, 63, 81, 1309, 943, 942, 1167, 1168, 81, 1169, 942, 1305] (by decide +kernel) (by decide +kernel)
set_option maxRecDepth 100000 in
theorem ok_224_2 : ∀ e ∈ ((mx_224.2.2.2.2.drop 120).take 60), ckx mx_224 e = true ∧ ∀ w ∈ ndx mx_224 e, w ∈ lw_tbl := okm_part [] (by decide +kernel) (by decide +kernel)
theorem ok_224 : okm mx_224 := okm_chunks 60 3 (by decide +kernel) (fun q hq => by
  match q, hq with
  | 0, _ => exact ok_224_0
  | 1, _ => exact ok_224_1
  | 2, _ => exact ok_224_2
  | q + 3, hq => omega)
set_option maxRecDepth 100000 in
theorem ok_225_0 : ∀ e ∈ ((mx_225.2.2.2.2.drop 0).take 60), ckx mx_225 e = true ∧ ∀ w ∈ ndx mx_225 e, w ∈ lw_tbl := okm_part [920, 924, 1105, 1107, 41, 81, 1108, 921, 1140, 1142, 45, 81, 1143, 942] (by decide +kernel) (by decide +kernel)
set_option maxRecDepth 100000 in
theorem ok_225_1 : ∀ e ∈ ((mx_225.2.2.2.2.drop 60).take 60), ckx mx_225 e = true ∧ ∀ w ∈ ndx mx_225 e, w ∈ lw_tbl := okm_part [942] (by decide +kernel) (by decide +kernel)
theorem ok_225 : okm mx_225 := okm_chunks 60 2 (by decide +kernel) (fun q hq => by
  match q, hq with
  | 0, _ => exact ok_225_0
  | 1, _ => exact ok_225_1
  | q + 2, hq => omega)
set_option maxRecDepth 100000 in
theorem ok_226 : okm mx_226 := okm_of [1236, 1238, 56, 81, 1239, 1219, 1010, 1011, 81, 1012, 1314, 1010, 1011, 81, 1012, 1315, 1317, 64, 81, 1318] (by decide +kernel) (by decide +kernel)
set_option maxRecDepth 100000 in
theorem ok_227_0 : ∀ e ∈ ((mx_227.2.2.2.2.drop 0).take 60), ckx mx_227 e = true ∧ ∀ w ∈ ndx mx_227 e, w ∈ lw_tbl := okm_part [924, 1244, 1245, 81, 1246, 1314, 920, 920, 1126, 1127, 81, 1128, 1126, 1127, 81, 1128] (by decide +kernel) (by decide +kernel)
set_option maxRecDepth 100000 in
theorem ok_227_1 : ∀ e ∈ ((mx_227.2.2.2.2.drop 60).take 60), ckx mx_227 e = true ∧ ∀ w ∈ ndx mx_227 e, w ∈ lw_tbl := okm_part [1240, 1242, 57, 81, 1243, 1319, 1321, 65, 81, 1322] (by decide +kernel) (by decide +kernel)
theorem ok_227 : okm mx_227 := okm_chunks 60 2 (by decide +kernel) (fun q hq => by
  match q, hq with
  | 0, _ => exact ok_227_0
  | 1, _ => exact ok_227_1
  | q + 2, hq => omega)
set_option maxRecDepth 100000 in
theorem ok_228 : okm mx_228 := okm_of [930, 931] (by decide +kernel) (by decide +kernel)
set_option maxRecDepth 100000 in
theorem ok_229 : okm mx_229 := okm_of [1236, 1238, 56, 81, 1239, 1314, 1010, 1011, 81, 1012, 1315, 1317, 64, 81, 1318] (by decide +kernel) (by decide +kernel)
set_option maxRecDepth 100000 in
theorem ok_230_0 : ∀ e ∈ ((mx_230.2.2.2.2.drop 0).take 60), ckx mx_230 e = true ∧ ∀ w ∈ ndx mx_230 e, w ∈ lw_tbl := okm_part [1331, 1010, 1011, 81, 1012, 1332, 1010, 1011, 81, 1012, 920, 925, 1333, 1334, 1335, 920, 1182, 1184, 51, 81, 1185, 1186, 1188, 52, 81, 1189, 1048] (by decide +kernel) (by decide +kernel)
set_option maxRecDepth 100000 in
theorem ok_230_1 : ∀ e ∈ ((mx_230.2.2.2.2.drop 60).take 60), ckx mx_230 e = true ∧ ∀ w ∈ ndx mx_230 e, w ∈ lw_tbl := okm_part [1159, 1161, 48, 81, 1162, 1174, 1176, 50, 81, 1177, 924] (by decide +kernel) (by decide +kernel)
theorem ok_230 : okm mx_230 := okm_chunks 60 2 (by decide +kernel) (fun q hq => by
  match q, hq with
  | 0, _ => exact ok_230_0
  | 1, _ => exact ok_230_1
  | q + 2, hq => omega)
set_option maxRecDepth 100000 in
theorem ok_231 : okm mx_231 := okm_of [929] (by decide +kernel) (by decide +kernel)
set_option maxRecDepth 100000 in
theorem ok_232 : okm mx_232 := okm_of [930] (by decide +kernel) (by decide +kernel)
set_option maxRecDepth 100000 in
theorem ok_233 : okm mx_233 := okm_of [931] (by decide +kernel) (by decide +kernel)
set_option maxRecDepth 100000 in
theorem ok_234 : okm mx_234 := okm_of [1352, 1010, 1011, 81, 1012, 1353, 1355, 66, 81, 1356] (by decide +kernel) (by decide +kernel)
set_option maxRecDepth 100000 in
theorem ok_235_0 : ∀ e ∈ ((mx_235.2.2.2.2.drop 0).take 60), ckx mx_235 e = true ∧ ∀ w ∈ ndx mx_235 e, w ∈ lw_tbl := okm_part [920, 922, 1119, 1120, 81, 1121, 916, 918] (by decide +kernel) (by decide +kernel)
set_option maxRecDepth 100000 in
theorem ok_235_1 : ∀ e ∈ ((mx_235.2.2.2.2.drop 60).take 60), ckx mx_235 e = true ∧ ∀ w ∈ ndx mx_235 e, w ∈ lw_tbl := okm_part [928, 920, 921, 924, 925, 924] (by decide +kernel) (by decide +kernel)
theorem ok_235 : okm mx_235 := okm_chunks 60 2 (by decide +kernel) (fun q hq => by
  match q, hq with
  | 0, _ => exact ok_235_0
  | 1, _ => exact ok_235_1
  | q + 2, hq => omega)
set_option maxRecDepth 100000 in
theorem ok_236 : okm mx_236 := okm_of [932] (by decide +kernel) (by decide +kernel)
set_option maxRecDepth 100000 in
theorem ok_237 : okm mx_237 := okm_of [1009, 1010, 1011, 81, 1012, 933] (by decide +kernel) (by decide +kernel)
set_option maxRecDepth 100000 in
theorem ok_238_0 : ∀ e ∈ ((mx_238.2.2.2.2.drop 0).take 60), ckx mx_238 e = true ∧ ∀ w ∈ ndx mx_238 e, w ∈ lw_tbl := okm_part [1369, 1370, 1353, 1355, 66, 81, 1356, 920, 1370, 1097, 1099, 39, 81, 1100, 1370, 928, 927] (by decide +kernel) (by decide +kernel)
set_option maxRecDepth 100000 in
theorem ok_238_1 : ∀ e ∈ ((mx_238.2.2.2.2.drop 60).take 60), ckx mx_238 e = true ∧ ∀ w ∈ ndx mx_238 e, w ∈ lw_tbl := okm_part [1370, 916, 916, 1370, 917, 1370] (by decide +kernel) (by decide +kernel)
set_option maxRecDepth 100000 in
theorem ok_238_2 : ∀ e ∈ ((mx_238.2.2.2.2.drop 120).take 60), ckx mx_238 e = true ∧ ∀ w ∈ ndx mx_238 e, w ∈ lw_tbl := okm_part [918, 918, 1370, 919] (by decide +kernel) (by decide +kernel)
theorem ok_238 : okm mx_238 := okm_chunks 60 3 (by decide +kernel) (fun q hq => by
  match q, hq with
  | 0, _ => exact ok_238_0
  | 1, _ => exact ok_238_1
  | 2, _ => exact ok_238_2
  | q + 3, hq => omega)
set_option maxRecDepth 100000 in
theorem ok_239_0 : ∀ e ∈ ((mx_239.2.2.2.2.drop 0).take 60), ckx mx_239 e = true ∧ ∀ w ∈ ndx mx_239 e, w ∈ lw_tbl := okm_part [84, 85, 68, 86, 87, 68, 88, 910, 911, 81, 912, 913, 81, 914, 320, 321, 322, 68, 323, 1002, 1003, 1004, 81, 1005] (by decide +kernel) (by decide +kernel)
set_option maxRecDepth 100000 in
theorem ok_239_1 : ∀ e ∈ ((mx_239.2.2.2.2.drop 60).take 60), ckx mx_239 e = true ∧ ∀ w ∈ ndx mx_239 e, w ∈ lw_tbl := okm_part [338, 339, 340, 68, 341, 1017, 1018, 1019, 81, 1020, 354, 355, 356, 68, 357, 1025, 1026, 1027, 81, 1028, 358, 359, 360, 68, 361] (by decide +kernel) (by decide +kernel)
set_option maxRecDepth 100000 in
theorem ok_239_2 : ∀ e ∈ ((mx_239.2.2.2.2.drop 120).take 60), ckx mx_239 e = true ∧ ∀ w ∈ ndx mx_239 e, w ∈ lw_tbl := okm_part [1029, 1030, 1031, 81, 1032, 362, 363, 364, 68, 365] (by decide +kernel) (by decide +kernel)
set_option maxRecDepth 100000 in
theorem ok_239_3 : ∀ e ∈ ((mx_239.2.2.2.2.drop 180).take 60), ckx mx_239 e = true ∧ ∀ w ∈ ndx mx_239 e, w ∈ lw_tbl := okm_part [1033, 1034, 1035, 81, 1036, 369, 370, 371, 68, 372, 1037, 1038, 1039, 81, 1040, 377, 378, 379, 68, 380, 1041, 1042, 1043, 81, 1044] (by decide +kernel) (by decide +kernel)
set_option maxRecDepth 100000 in
theorem ok_239_4 : ∀ e ∈ ((mx_239.2.2.2.2.drop 240).take 60), ckx mx_239 e = true ∧ ∀ w ∈ ndx mx_239 e, w ∈ lw_tbl := okm_part [384, 385, 386, 68, 387, 1049, 1050, 1051, 81, 1052, 388, 389, 390, 68, 391, 1053, 1054, 1055, 81, 1056, 430, 431, 432, 68, 433, 1084, 1085, 1086, 81, 1087] (by decide +kernel) (by decide +kernel)
set_option maxRecDepth 100000 in
theorem ok_239_5 : ∀ e ∈ ((mx_239.2.2.2.2.drop 300).take 60), ckx mx_239 e = true ∧ ∀ w ∈ ndx mx_239 e, w ∈ lw_tbl := okm_part [441, 442, 443, 68, 444, 1088, 1089, 1090, 81, 1091, 549, 550, 551, 68, 552, 1129, 1130, 1131, 81, 1132, 585, 586, 587, 68, 588, 1151, 1152, 1153, 81, 1154] (by decide +kernel) (by decide +kernel)
set_option maxRecDepth 100000 in
theorem ok_239_6 : ∀ e ∈ ((mx_239.2.2.2.2.drop 360).take 60), ckx mx_239 e = true ∧ ∀ w ∈ ndx mx_239 e, w ∈ lw_tbl := okm_part [610, 611, 612, 68, 613, 1170, 1171, 1172, 81, 1173, 614, 615, 616, 68, 617, 1178, 1179, 1180, 81, 1181, 625, 626, 627, 68, 628, 1190, 1191, 1192, 81, 1193, 629, 630, 631, 68, 632, 1194, 1195, 1196, 81, 1197] (by decide +kernel) (by decide +kernel)
set_option maxRecDepth 100000 in
theorem ok_239_7 : ∀ e ∈ ((mx_239.2.2.2.2.drop 420).take 60), ckx mx_239 e = true ∧ ∀ w ∈ ndx mx_239 e, w ∈ lw_tbl := okm_part [633, 634, 635, 68, 636, 1198, 1199, 1200, 81, 1201, 637, 638, 639, 68, 640, 1202, 1203, 1204, 81, 1205, 646, 647, 648, 68, 649, 1206, 1207, 1208, 81, 1209, 653, 654, 655, 68, 656] (by decide +kernel) (by decide +kernel)
set_option maxRecDepth 100000 in
theorem ok_239_8 : ∀ e ∈ ((mx_239.2.2.2.2.drop 480).take 60), ckx mx_239 e = true ∧ ∀ w ∈ ndx mx_239 e, w ∈ lw_tbl := okm_part [1211, 1212, 1213, 81, 1214, 657, 658, 659, 68, 660, 1215, 1216, 1217, 81, 1218, 692, 693, 694, 68, 695, 1232, 1233, 1234, 81, 1235, 710, 711, 712, 68, 713] (by decide +kernel) (by decide +kernel)
set_option maxRecDepth 100000 in
theorem ok_239_9 : ∀ e ∈ ((mx_239.2.2.2.2.drop 540).take 60), ckx mx_239 e = true ∧ ∀ w ∈ ndx mx_239 e, w ∈ lw_tbl := okm_part [1251, 1252, 1253, 81, 1254, 741, 742, 743, 68, 744, 1255, 1256, 1257, 81, 1258, 753, 754, 755, 68, 756] (by decide +kernel) (by decide +kernel)
set_option maxRecDepth 100000 in
theorem ok_239_10 : ∀ e ∈ ((mx_239.2.2.2.2.drop 600).take 60), ckx mx_239 e = true ∧ ∀ w ∈ ndx mx_239 e, w ∈ lw_tbl := okm_part [1263, 1264, 1265, 81, 1266, 757, 758, 759, 68, 760, 1267, 1268, 1269, 81, 1270, 761, 762, 763, 68, 764, 1271, 1272, 1273, 81, 1274] (by decide +kernel) (by decide +kernel)
set_option maxRecDepth 100000 in
theorem ok_239_11 : ∀ e ∈ ((mx_239.2.2.2.2.drop 660).take 60), ckx mx_239 e = true ∧ ∀ w ∈ ndx mx_239 e, w ∈ lw_tbl := okm_part [777, 778, 779, 68, 780, 1284, 1285, 1286, 81, 1287, 781, 782, 783, 68, 784, 1288, 1289, 1290, 81, 1291, 789, 790, 791, 68, 792, 1296, 1297, 1298, 81, 1299] (by decide +kernel) (by decide +kernel)
set_option maxRecDepth 100000 in
theorem ok_239_12 : ∀ e ∈ ((mx_239.2.2.2.2.drop 720).take 60), ckx mx_239 e = true ∧ ∀ w ∈ ndx mx_239 e, w ∈ lw_tbl := okm_part [797, 798, 799, 68, 800, 1300, 1301, 1302, 81, 1303, 827, 828, 829, 68, 830, 1310, 1311, 1312, 81, 1313] (by decide +kernel) (by decide +kernel)
set_option maxRecDepth 100000 in
theorem ok_239_13 : ∀ e ∈ ((mx_239.2.2.2.2.drop 780).take 60), ckx mx_239 e = true ∧ ∀ w ∈ ndx mx_239 e, w ∈ lw_tbl := okm_part [847, 848, 849, 68, 850, 1323, 1324, 1325, 81, 1326, 851, 852, 853, 68, 854, 1327, 1328, 1329, 81, 1330, 863, 864, 865, 68, 866] (by decide +kernel) (by decide +kernel)
set_option maxRecDepth 100000 in
theorem ok_239_14 : ∀ e ∈ ((mx_239.2.2.2.2.drop 840).take 60), ckx mx_239 e = true ∧ ∀ w ∈ ndx mx_239 e, w ∈ lw_tbl := okm_part [1336, 1337, 1338, 81, 1339, 867, 868, 869, 68, 870, 1340, 1341, 1342, 81, 1343, 871, 872, 873, 68, 874, 1344, 1345, 1346, 81, 1347, 875, 876, 877, 68, 878, 1348, 1349, 1350, 81, 1351, 890, 891, 892, 68, 893, 1357, 1358, 1359, 81, 1360, 894, 895, 896, 68, 897, 1361, 1362, 1363, 81, 1364] (by decide +kernel) (by decide +kernel)
set_option maxRecDepth 100000 in
theorem ok_239_15 : ∀ e ∈ ((mx_239.2.2.2.2.drop 900).take 60), ckx mx_239 e = true ∧ ∀ w ∈ ndx mx_239 e, w ∈ lw_tbl := okm_part [898, 899, 900, 68, 901, 1365, 1366, 1367, 81, 1368] (by decide +kernel) (by decide +kernel)
theorem ok_239 : okm mx_239 := okm_chunks 60 16 (by decide +kernel) (fun q hq => by
  match q, hq with
  | 0, _ => exact ok_239_0
  | 1, _ => exact ok_239_1
  | 2, _ => exact ok_239_2
  | 3, _ => exact ok_239_3
  | 4, _ => exact ok_239_4
  | 5, _ => exact ok_239_5
  | 6, _ => exact ok_239_6
  | 7, _ => exact ok_239_7
  | 8, _ => exact ok_239_8
  | 9, _ => exact ok_239_9
  | 10, _ => exact ok_239_10
  | 11, _ => exact ok_239_11
  | 12, _ => exact ok_239_12
  | 13, _ => exact ok_239_13
  | 14, _ => exact ok_239_14
  | 15, _ => exact ok_239_15
  | q + 16, hq => omega)
