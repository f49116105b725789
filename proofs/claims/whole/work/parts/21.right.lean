/-! ===== every table is right ===== -/
set_option maxRecDepth 100000 in
theorem ok_0_0 : ∀ e ∈ ((mx_0.2.2.2.2.drop 0).take 60), ckx mx_0 e = true ∧ ∀ w ∈ ndx mx_0 e, w ∈ lw_tbl := okm_part [89, 90, 92, 274, 92, 275, 94, 94, 96, 69, 97, 98, 69, 99, 102, 103, 70, 104, 105, 70, 106, 109, 110, 71, 111, 112, 71, 113, 116, 117, 72, 118, 119, 72, 120, 123, 124, 73, 125, 126, 73, 127, 130, 131, 74, 132, 133, 74, 134, 276, 137, 138, 75, 276, 139, 140, 75, 141, 277, 137, 138, 75] (by decide +kernel) (by decide +kernel)
set_option maxRecDepth 100000 in
theorem ok_0_1 : ∀ e ∈ ((mx_0.2.2.2.2.drop 60).take 60), ckx mx_0 e = true ∧ ∀ w ∈ ndx mx_0 e, w ∈ lw_tbl := okm_part [276, 139, 140, 75, 141, 278, 137, 279, 215, 216, 76, 217, 218, 76, 219, 280, 225, 226, 77, 227, 228, 77, 229, 281, 239, 240, 78, 241, 242, 78, 243, 282, 283, 284, 285, 286, 287, 288, 274, 92, 255, 79, 256, 257, 79, 258] (by decide +kernel) (by decide +kernel)
set_option maxRecDepth 100000 in
theorem ok_0_2 : ∀ e ∈ ((mx_0.2.2.2.2.drop 120).take 60), ckx mx_0 e = true ∧ ∀ w ∈ ndx mx_0 e, w ∈ lw_tbl := okm_part [275, 92, 255, 79, 256, 257, 79, 258, 279, 137, 138, 75, 276, 139, 140, 75, 141] (by decide +kernel) (by decide +kernel)
theorem ok_0 : okm mx_0 := okm_chunks 60 3 (by decide +kernel) (fun q hq => by
  match q, hq with
  | 0, _ => exact ok_0_0
  | 1, _ => exact ok_0_1
  | 2, _ => exact ok_0_2
  | q + 3, hq => omega)
set_option maxRecDepth 100000 in
theorem ok_1 : okm mx_1 := okm_of [100, 90] (by decide +kernel) (by decide +kernel)
set_option maxRecDepth 100000 in
theorem ok_2 : okm mx_2 := okm_of [107, 98, 69, 99] (by decide +kernel) (by decide +kernel)
set_option maxRecDepth 100000 in
theorem ok_3 : okm mx_3 := okm_of [114, 98, 69, 99] (by decide +kernel) (by decide +kernel)
set_option maxRecDepth 100000 in
theorem ok_4 : okm mx_4 := okm_of [121, 98, 69, 99] (by decide +kernel) (by decide +kernel)
set_option maxRecDepth 100000 in
theorem ok_5 : okm mx_5 := okm_of [128, 112, 71, 113] (by decide +kernel) (by decide +kernel)
set_option maxRecDepth 100000 in
theorem ok_6 : okm mx_6 := okm_of [135, 105, 70, 106] (by decide +kernel) (by decide +kernel)
set_option maxRecDepth 100000 in
theorem ok_7 : okm mx_7 := okm_of [142, 90, 144, 146, 148, 150, 152, 153, 154, 155, 160, 165, 167, 169, 172, 176, 178, 143] (by decide +kernel) (by decide +kernel)
set_option maxRecDepth 100000 in
theorem ok_8 : okm mx_8 := okm_of [220, 90, 221] (by decide +kernel) (by decide +kernel)
set_option maxRecDepth 100000 in
theorem ok_9 : okm mx_9 := okm_of [230, 90, 231, 233] (by decide +kernel) (by decide +kernel)
set_option maxRecDepth 100000 in
theorem ok_10 : okm mx_10 := okm_of [244, 90, 245, 246, 247] (by decide +kernel) (by decide +kernel)
set_option maxRecDepth 100000 in
theorem ok_11 : okm mx_11 := okm_of [259, 90, 266, 260, 261, 80, 262, 263] (by decide +kernel) (by decide +kernel)
set_option maxRecDepth 100000 in
theorem ok_12 : okm mx_12 := okm_of [] (by decide +kernel) (by decide +kernel)
set_option maxRecDepth 100000 in
theorem ok_13 : okm mx_13 := okm_of [324, 325, 68, 326, 327, 329, 0, 68, 330, 274, 331, 332, 333, 79, 334] (by decide +kernel) (by decide +kernel)
set_option maxRecDepth 100000 in
theorem ok_14 : okm mx_14 := okm_of [] (by decide +kernel) (by decide +kernel)
set_option maxRecDepth 100000 in
theorem ok_15 : okm mx_15 := okm_of [285, 284] (by decide +kernel) (by decide +kernel)
set_option maxRecDepth 100000 in
theorem ok_16 : okm mx_16 := okm_of [263, 335, 336, 80, 337, 266, 266, 263] (by decide +kernel) (by decide +kernel)
set_option maxRecDepth 100000 in
theorem ok_17 : okm mx_17 := okm_of [] (by decide +kernel) (by decide +kernel)
set_option maxRecDepth 100000 in
theorem ok_18 : okm mx_18 := okm_of [342, 344, 1, 68, 345, 274, 265, 286, 274, 265] (by decide +kernel) (by decide +kernel)
set_option maxRecDepth 100000 in
theorem ok_19 : okm mx_19 := okm_of [324, 325, 68, 326, 274, 346, 347, 348, 79, 349, 327, 329, 0, 68, 330, 274, 350, 351, 352, 79, 353, 327, 329, 0, 68, 330] (by decide +kernel) (by decide +kernel)
set_option maxRecDepth 100000 in
theorem ok_20 : okm mx_20 := okm_of [266] (by decide +kernel) (by decide +kernel)
set_option maxRecDepth 100000 in
theorem ok_21 : okm mx_21 := okm_of [266, 266] (by decide +kernel) (by decide +kernel)
set_option maxRecDepth 100000 in
theorem ok_22 : okm mx_22 := okm_of [342, 344, 1, 68, 345, 274, 265, 286] (by decide +kernel) (by decide +kernel)
set_option maxRecDepth 100000 in
theorem ok_23 : okm mx_23 := okm_of [324, 325, 68, 326, 274, 346, 347, 348, 79, 349, 327, 329, 0, 68, 330, 274, 268] (by decide +kernel) (by decide +kernel)
set_option maxRecDepth 100000 in
theorem ok_24_0 : ∀ e ∈ ((mx_24.2.2.2.2.drop 0).take 60), ckx mx_24 e = true ∧ ∀ w ∈ ndx mx_24 e, w ∈ lw_tbl := okm_part [324, 325, 68, 326, 324, 325, 68, 326, 327, 329, 0, 68, 330, 274, 346, 347, 348, 79, 349, 274, 346, 347, 348, 79, 349, 327, 329, 0, 68, 330, 274, 350, 351, 352, 79, 353, 274, 350, 351, 352, 79, 353, 327, 329, 0, 68, 330, 274, 265, 274] (by decide +kernel) (by decide +kernel)
set_option maxRecDepth 100000 in
theorem ok_24_1 : ∀ e ∈ ((mx_24.2.2.2.2.drop 60).take 60), ckx mx_24 e = true ∧ ∀ w ∈ ndx mx_24 e, w ∈ lw_tbl := okm_part [265, 366, 368, 367] (by decide +kernel) (by decide +kernel)
theorem ok_24 : okm mx_24 := okm_chunks 60 2 (by decide +kernel) (fun q hq => by
  match q, hq with
  | 0, _ => exact ok_24_0
  | 1, _ => exact ok_24_1
  | q + 2, hq => omega)
set_option maxRecDepth 100000 in
theorem ok_25 : okm mx_25 := okm_of [324, 325, 68, 326, 274, 346, 347, 348, 79, 349, 327, 329, 0, 68, 330, 274, 268, 327, 329, 0, 68, 330, 274, 373, 374, 375, 79, 376, 286] (by decide +kernel) (by decide +kernel)
set_option maxRecDepth 100000 in
theorem ok_26 : okm mx_26 := okm_of [266, 263] (by decide +kernel) (by decide +kernel)
set_option maxRecDepth 100000 in
theorem ok_27 : okm mx_27 := okm_of [381, 382, 68, 383, 327, 329, 0, 68, 330, 275, 331, 332, 333, 79, 334] (by decide +kernel) (by decide +kernel)
set_option maxRecDepth 100000 in
theorem ok_28 : okm mx_28 := okm_of [] (by decide +kernel) (by decide +kernel)
set_option maxRecDepth 100000 in
theorem ok_29 : okm mx_29 := okm_of [381, 382, 68, 383, 275, 346, 347, 348, 79, 349, 327, 329, 0, 68, 330, 275, 350, 351, 352, 79, 353, 327, 329, 0, 68, 330, 275, 265, 275, 265] (by decide +kernel) (by decide +kernel)
set_option maxRecDepth 100000 in
theorem ok_30 : okm mx_30 := okm_of [381, 382, 68, 383, 275, 346, 347, 348, 79, 349, 327, 329, 0, 68, 330, 280, 275, 278, 392, 393, 394, 76, 395] (by decide +kernel) (by decide +kernel)
set_option maxRecDepth 100000 in
theorem ok_31 : okm mx_31 := okm_of [396, 397, 398, 75, 399, 221, 404, 406, 2, 76, 407, 408, 410, 3, 76, 411, 221, 404, 406, 2, 76, 407, 221, 267, 416, 418, 5, 76, 419, 221, 404, 406, 2, 76, 407, 161, 221] (by decide +kernel) (by decide +kernel)
set_option maxRecDepth 100000 in
theorem ok_32 : okm mx_32 := okm_of [155, 160, 165, 400, 401, 402, 75, 403] (by decide +kernel) (by decide +kernel)
set_option maxRecDepth 100000 in
theorem ok_33 : okm mx_33 := okm_of [160, 148, 152, 150, 153, 165, 167, 169, 172, 176, 178] (by decide +kernel) (by decide +kernel)
set_option maxRecDepth 100000 in
theorem ok_34 : okm mx_34 := okm_of [221, 267, 264, 221, 221, 221] (by decide +kernel) (by decide +kernel)
set_option maxRecDepth 100000 in
theorem ok_35_0 : ∀ e ∈ ((mx_35.2.2.2.2.drop 0).take 60), ckx mx_35 e = true ∧ ∀ w ∈ ndx mx_35 e, w ∈ lw_tbl := okm_part [221, 267, 264, 221, 221, 221, 412, 414, 4, 76, 415, 412, 414, 4, 76, 415, 412, 414, 4, 76, 415, 157] (by decide +kernel) (by decide +kernel)
set_option maxRecDepth 100000 in
theorem ok_35_1 : ∀ e ∈ ((mx_35.2.2.2.2.drop 60).take 60), ckx mx_35 e = true ∧ ∀ w ∈ ndx mx_35 e, w ∈ lw_tbl := okm_part [166] (by decide +kernel) (by decide +kernel)
theorem ok_35 : okm mx_35 := okm_chunks 60 2 (by decide +kernel) (fun q hq => by
  match q, hq with
  | 0, _ => exact ok_35_0
  | 1, _ => exact ok_35_1
  | q + 2, hq => omega)
set_option maxRecDepth 100000 in
theorem ok_36 : okm mx_36 := okm_of [221, 267, 264, 221, 221, 221] (by decide +kernel) (by decide +kernel)
set_option maxRecDepth 100000 in
theorem ok_37_0 : ∀ e ∈ ((mx_37.2.2.2.2.drop 0).take 60), ckx mx_37 e = true ∧ ∀ w ∈ ndx mx_37 e, w ∈ lw_tbl := okm_part [161, 420, 422, 6, 76, 423, 157, 412, 414, 4, 76, 415, 157, 412, 414, 4, 76, 415, 412, 414, 4, 76, 415, 426, 427, 428, 75, 429] (by decide +kernel) (by decide +kernel)
set_option maxRecDepth 100000 in
theorem ok_37_1 : ∀ e ∈ ((mx_37.2.2.2.2.drop 60).take 60), ckx mx_37 e = true ∧ ∀ w ∈ ndx mx_37 e, w ∈ lw_tbl := okm_part [] (by decide +kernel) (by decide +kernel)
theorem ok_37 : okm mx_37 := okm_chunks 60 2 (by decide +kernel) (fun q hq => by
  match q, hq with
  | 0, _ => exact ok_37_0
  | 1, _ => exact ok_37_1
  | q + 2, hq => omega)
set_option maxRecDepth 100000 in
theorem ok_38 : okm mx_38 := okm_of [221, 267, 264, 221, 424, 221, 221] (by decide +kernel) (by decide +kernel)
set_option maxRecDepth 100000 in
theorem ok_39 : okm mx_39 := okm_of [160, 144, 160, 152, 160, 153, 160, 146, 160, 160, 160] (by decide +kernel) (by decide +kernel)
set_option maxRecDepth 100000 in
theorem ok_40 : okm mx_40 := okm_of [381, 382, 68, 383, 275, 346, 347, 348, 79, 349, 327, 329, 0, 68, 330, 280, 275, 278, 392, 393, 394, 76, 395, 278, 434, 401, 402, 75, 403, 277, 278, 435, 436, 437, 75, 438, 279, 440, 397, 398, 75, 399, 277, 164] (by decide +kernel) (by decide +kernel)
set_option maxRecDepth 100000 in
theorem ok_41_0 : ∀ e ∈ ((mx_41.2.2.2.2.drop 0).take 60), ckx mx_41 e = true ∧ ∀ w ∈ ndx mx_41 e, w ∈ lw_tbl := okm_part [144, 144, 439, 368, 367, 146, 146, 439, 368, 367, 148, 148, 439, 368, 367, 150, 150, 439, 368, 367, 152, 152, 439, 368, 367, 153, 153, 439, 368, 367, 154, 154, 439, 368, 367, 155, 155] (by decide +kernel) (by decide +kernel)
set_option maxRecDepth 100000 in
theorem ok_41_1 : ∀ e ∈ ((mx_41.2.2.2.2.drop 60).take 60), ckx mx_41 e = true ∧ ∀ w ∈ ndx mx_41 e, w ∈ lw_tbl := okm_part [160, 160, 165, 165, 167, 167, 169, 169, 172, 172, 176, 176, 178, 178] (by decide +kernel) (by decide +kernel)
theorem ok_41 : okm mx_41 := okm_chunks 60 2 (by decide +kernel) (fun q hq => by
  match q, hq with
  | 0, _ => exact ok_41_0
  | 1, _ => exact ok_41_1
  | q + 2, hq => omega)
set_option maxRecDepth 100000 in
theorem ok_42 : okm mx_42 := okm_of [445, 447, 7, 68, 448, 449, 451, 8, 68, 452, 286] (by decide +kernel) (by decide +kernel)
set_option maxRecDepth 100000 in
theorem ok_43 : okm mx_43 := okm_of [277, 164] (by decide +kernel) (by decide +kernel)
set_option maxRecDepth 100000 in
theorem ok_44 : okm mx_44 := okm_of [277, 145, 277, 149, 277, 151, 277, 453, 454, 455, 75, 456, 277, 277, 175, 478, 479, 480, 75, 481, 277, 277, 175, 503, 504, 505, 75, 506, 277, 521, 522, 523, 75, 524, 277, 545, 546, 547, 75, 548] (by decide +kernel) (by decide +kernel)
set_option maxRecDepth 100000 in
theorem ok_45 : okm mx_45 := okm_of [144, 457, 458, 459, 75, 460, 146, 461, 462, 463, 69, 477, 461, 464, 472, 462, 69, 477, 461, 464, 462, 465, 466, 71, 467, 461, 464, 462, 468, 469, 72, 470, 461, 464, 462, 473, 474, 73, 475, 461, 464, 471, 462, 69, 477] (by decide +kernel) (by decide +kernel)
set_option maxRecDepth 100000 in
theorem ok_46 : okm mx_46 := okm_of [143, 143, 143] (by decide +kernel) (by decide +kernel)
set_option maxRecDepth 100000 in
theorem ok_47 : okm mx_47 := okm_of [] (by decide +kernel) (by decide +kernel)
set_option maxRecDepth 100000 in
theorem ok_48 : okm mx_48 := okm_of [] (by decide +kernel) (by decide +kernel)
set_option maxRecDepth 100000 in
theorem ok_49 : okm mx_49 := okm_of [476, 1371, 129, 466, 71, 467] (by decide +kernel) (by decide +kernel)
set_option maxRecDepth 100000 in
theorem ok_50 : okm mx_50 := okm_of [] (by decide +kernel) (by decide +kernel)
set_option maxRecDepth 100000 in
theorem ok_51 : okm mx_51 := okm_of [144, 457, 458, 459, 75, 460, 148, 150, 482, 483, 484, 69, 495, 482, 485, 493, 483, 69, 495, 482, 485, 483, 486, 487, 71, 488, 482, 485, 489, 483, 69, 495, 482, 485, 483, 494, 487, 71, 488, 482, 485, 483, 490, 491, 74, 492, 496, 497, 498, 75, 499] (by decide +kernel) (by decide +kernel)
set_option maxRecDepth 100000 in
theorem ok_52 : okm mx_52 := okm_of [] (by decide +kernel) (by decide +kernel)
set_option maxRecDepth 100000 in
theorem ok_53 : okm mx_53 := okm_of [] (by decide +kernel) (by decide +kernel)
set_option maxRecDepth 100000 in
theorem ok_54 : okm mx_54 := okm_of [] (by decide +kernel) (by decide +kernel)
set_option maxRecDepth 100000 in
theorem ok_55 : okm mx_55 := okm_of [155, 155, 500, 501, 80, 502] (by decide +kernel) (by decide +kernel)
set_option maxRecDepth 100000 in
theorem ok_56 : okm mx_56 := okm_of [] (by decide +kernel) (by decide +kernel)
set_option maxRecDepth 100000 in
theorem ok_57 : okm mx_57 := okm_of [144, 457, 458, 459, 75, 460, 507, 508, 509, 69, 520, 507, 510, 508, 518, 516, 70, 517, 507, 510, 511, 508, 69, 520, 507, 510, 508, 512, 513, 72, 514, 507, 510, 519, 508, 69, 520, 507, 510, 508, 515, 516, 70, 517] (by decide +kernel) (by decide +kernel)
set_option maxRecDepth 100000 in
theorem ok_58 : okm mx_58 := okm_of [] (by decide +kernel) (by decide +kernel)
set_option maxRecDepth 100000 in
theorem ok_59 : okm mx_59 := okm_of [] (by decide +kernel) (by decide +kernel)
