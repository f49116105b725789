/-! ===== the methods: their bytes as instructions, with what each resolves to ===== -/
-- 0 DoorSold.<init>()V
def mx_0 : Mx := (⟨"DoorSold", "<init>", "()V"⟩, prog_1_method_1_code, 2, (none : Option FieldType), [
  (0, .aload_n 0, 1, 0, 0, 0, []), (1, .invokespecial 1, 4, 0, 0, 0, [3]), (4, .aload_n 0, 5, 0, 0, 0, []), (5, .bipush 6, 7, 0, 6, 0, []), (7, .anewarray 9, 10, 3, 0, 0, []), (10, .putfield 11, 13, 11, 0, 0, [0, 2]),
  (13, .aload_n 0, 14, 0, 0, 0, []), (14, .iconst 4, 15, 0, 4, 0, []), (15, .anewarray 9, 18, 3, 0, 0, []), (18, .putfield 15, 21, 11, 0, 0, [1, 2]), (21, .aload_n 0, 22, 0, 0, 0, []), (22, .bipush 6, 24, 0, 6, 0, []),
  (24, .anewarray 18, 27, 4, 0, 0, []), (27, .dup, 28, 0, 0, 0, []), (28, .iconst 0, 29, 0, 0, 0, []), (29, .new 18, 32, 6, 0, 0, []), (32, .dup, 33, 0, 0, 0, []), (33, .invokespecial 20, 36, 1, 0, 0, [6, 0]),
  (36, .aastore, 37, 4, 0, 0, [6, 5, 0, 1, 9, 2]), (37, .dup, 38, 0, 0, 0, []), (38, .iconst 1, 39, 0, 1, 0, []), (39, .new 21, 42, 5, 0, 0, []), (42, .dup, 43, 0, 0, 0, []), (43, .invokespecial 23, 46, 2, 0, 0, [6, 0]),
  (46, .aastore, 47, 4, 0, 0, [6, 5, 0, 1, 9, 2]), (47, .dup, 48, 0, 0, 0, []), (48, .iconst 2, 49, 0, 2, 0, []), (49, .new 24, 52, 0, 0, 0, []), (52, .dup, 53, 0, 0, 0, []), (53, .invokespecial 26, 56, 3, 0, 0, [6, 0]),
  (56, .aastore, 57, 4, 0, 0, [6, 5, 0, 1, 9, 2]), (57, .dup, 58, 0, 0, 0, []), (58, .iconst 3, 59, 0, 3, 0, []), (59, .new 27, 62, 1, 0, 0, []), (62, .dup, 63, 0, 0, 0, []), (63, .invokespecial 29, 66, 4, 0, 0, [6, 0]),
  (66, .aastore, 67, 4, 0, 0, [6, 5, 0, 1, 9, 2]), (67, .dup, 68, 0, 0, 0, []), (68, .iconst 4, 69, 0, 4, 0, []), (69, .new 30, 72, 9, 0, 0, []), (72, .dup, 73, 0, 0, 0, []), (73, .invokespecial 32, 76, 5, 0, 0, [6, 0]),
  (76, .aastore, 77, 4, 0, 0, [6, 5, 0, 1, 9, 2]), (77, .dup, 78, 0, 0, 0, []), (78, .iconst 5, 79, 0, 5, 0, []), (79, .new 33, 82, 2, 0, 0, []), (82, .dup, 83, 0, 0, 0, []), (83, .invokespecial 35, 86, 6, 0, 0, [6, 0]),
  (86, .aastore, 87, 4, 0, 0, [6, 5, 0, 1, 9, 2]), (87, .putfield 36, 90, 11, 0, 0, [2, 2]), (90, .aload_n 0, 91, 0, 0, 0, []), (91, .new 40, 94, 4, 0, 0, []), (94, .dup, 95, 0, 0, 0, []), (95, .aload_n 0, 96, 0, 0, 0, []),
  (96, .getfield 36, 99, 11, 0, 0, [2, 2]), (99, .invokespecial 42, 102, 7, 0, 0, [2, 1]), (102, .putfield 45, 105, 11, 0, 0, [3, 2]), (105, .aload_n 0, 106, 0, 0, 0, []), (106, .new 40, 109, 4, 0, 0, []), (109, .dup, 110, 0, 0, 0, []),
  (110, .aload_n 0, 111, 0, 0, 0, []), (111, .getfield 36, 114, 11, 0, 0, [2, 2]), (114, .invokespecial 42, 117, 7, 0, 0, [2, 1]), (117, .putfield 49, 120, 11, 0, 0, [4, 2]), (120, .aload_n 0, 121, 0, 0, 0, []), (121, .iconst 3, 122, 0, 3, 0, []),
  (122, .anewarray 40, 125, 5, 0, 0, []), (125, .putfield 52, 128, 11, 0, 0, [5, 2]), (128, .aload_n 0, 129, 0, 0, 0, []), (129, .new 56, 132, 7, 0, 0, []), (132, .dup, 133, 0, 0, 0, []), (133, .invokespecial 58, 136, 8, 0, 0, [6, 0]),
  (136, .putfield 59, 139, 11, 0, 0, [6, 2]), (139, .aload_n 0, 140, 0, 0, 0, []), (140, .new 63, 143, 10, 0, 0, []), (143, .dup, 144, 0, 0, 0, []), (144, .invokespecial 65, 147, 9, 0, 0, [6, 0]), (147, .putfield 66, 150, 11, 0, 0, [7, 2]),
  (150, .aload_n 0, 151, 0, 0, 0, []), (151, .new 70, 154, 3, 0, 0, []), (154, .dup, 155, 0, 0, 0, []), (155, .invokespecial 72, 158, 10, 0, 0, [6, 0]), (158, .putfield 73, 161, 11, 0, 0, [8, 2]), (161, .aload_n 0, 162, 0, 0, 0, []),
  (162, .bipush 7, 164, 0, 7, 0, []), (164, .newarray .int, 166, 1, 0, 0, []), (166, .putfield 77, 169, 11, 0, 0, [9, 2]), (169, .aload_n 0, 170, 0, 0, 0, []), (170, .bipush 6, 172, 0, 6, 0, []), (172, .newarray .int, 174, 1, 0, 0, []),
  (174, .putfield 81, 177, 11, 0, 0, [10, 2]), (177, .aload_n 0, 178, 0, 0, 0, []), (178, .iconst 0, 179, 0, 0, 0, []), (179, .putfield 84, 182, 11, 0, 0, [11, 0]), (182, .aload_n 0, 183, 0, 0, 0, []), (183, .iconst 0, 184, 0, 0, 0, []),
  (184, .putfield 88, 187, 11, 0, 0, [12, 0]), (187, .aload_n 0, 188, 0, 0, 0, []), (188, .lconst 0, 189, 0, 0, 0, []), (189, .putfield 91, 192, 11, 0, 0, [13, 1]), (192, .aload_n 0, 193, 0, 0, 0, []), (193, .lconst 1, 194, 0, 0, 1, []),
  (194, .putfield 95, 197, 11, 0, 0, [14, 1]), (197, .iconst 0, 198, 0, 0, 0, []), (198, .istore_n 1, 199, 1, 0, 0, []), (199, .iload_n 1, 200, 1, 0, 0, []), (200, .bipush 6, 202, 0, 6, 0, []), (202, .if_icmp .ge 24, 205, 226, 0, 0, []),
  (205, .aload_n 0, 206, 0, 0, 0, []), (206, .getfield 11, 209, 11, 0, 0, [0, 2]), (209, .iload_n 1, 210, 1, 0, 0, []), (210, .new 9, 213, 8, 0, 0, []), (213, .dup, 214, 0, 0, 0, []), (214, .bipush 40, 216, 0, 40, 0, []),
  (216, .invokespecial 98, 219, 11, 0, 0, [2, 1]), (219, .aastore, 220, 3, 0, 0, [8]), (220, .iinc 1 1, 223, 1, 1, 0, []), (223, .goto (-24), 226, 199, 0, 0, []), (226, .iconst 0, 227, 0, 0, 0, []), (227, .istore_n 1, 228, 1, 0, 0, []),
  (228, .iload_n 1, 229, 1, 0, 0, []), (229, .iconst 4, 230, 0, 4, 0, []), (230, .if_icmp .ge 24, 233, 254, 0, 0, []), (233, .aload_n 0, 234, 0, 0, 0, []), (234, .getfield 15, 237, 11, 0, 0, [1, 2]), (237, .iload_n 1, 238, 1, 0, 0, []),
  (238, .new 9, 241, 8, 0, 0, []), (241, .dup, 242, 0, 0, 0, []), (242, .bipush 60, 244, 0, 60, 0, []), (244, .invokespecial 98, 247, 11, 0, 0, [2, 1]), (247, .aastore, 248, 3, 0, 0, [8]), (248, .iinc 1 1, 251, 1, 1, 0, []),
  (251, .goto (-23), 254, 228, 0, 0, []), (254, .iconst 0, 255, 0, 0, 0, []), (255, .istore_n 1, 256, 1, 0, 0, []), (256, .iload_n 1, 257, 1, 0, 0, []), (257, .iconst 3, 258, 0, 3, 0, []), (258, .if_icmp .ge 26, 261, 284, 0, 0, []),
  (261, .aload_n 0, 262, 0, 0, 0, []), (262, .getfield 52, 265, 11, 0, 0, [5, 2]), (265, .iload_n 1, 266, 1, 0, 0, []), (266, .new 40, 269, 4, 0, 0, []), (269, .dup, 270, 0, 0, 0, []), (270, .aload_n 0, 271, 0, 0, 0, []),
  (271, .getfield 36, 274, 11, 0, 0, [2, 2]), (274, .invokespecial 42, 277, 7, 0, 0, [2, 1]), (277, .aastore, 278, 5, 0, 0, [4]), (278, .iinc 1 1, 281, 1, 1, 0, []), (281, .goto (-25), 284, 256, 0, 0, []), (284, .return_, 285, 0, 0, 0, [])])
-- 1 DoorSold$Kind.<init>()V
def mx_1 : Mx := (⟨"DoorSold$Kind", "<init>", "()V"⟩, prog_8_method_1_code, 1, (none : Option FieldType), [
  (0, .aload_n 0, 1, 0, 0, 0, []), (1, .invokespecial 1, 4, 0, 0, 0, [3]), (4, .return_, 5, 0, 0, 0, [])])
-- 2 DoorSold$Dutch.<init>()V
def mx_2 : Mx := (⟨"DoorSold$Dutch", "<init>", "()V"⟩, prog_7_method_1_code, 1, (none : Option FieldType), [
  (0, .aload_n 0, 1, 0, 0, 0, []), (1, .invokespecial 1, 4, 1, 0, 0, [6, 0]), (4, .return_, 5, 0, 0, 0, [])])
-- 3 DoorSold$Back.<init>()V
def mx_3 : Mx := (⟨"DoorSold$Back", "<init>", "()V"⟩, prog_2_method_1_code, 1, (none : Option FieldType), [
  (0, .aload_n 0, 1, 0, 0, 0, []), (1, .invokespecial 1, 4, 1, 0, 0, [6, 0]), (4, .return_, 5, 0, 0, 0, [])])
-- 4 DoorSold$Bricked.<init>()V
def mx_4 : Mx := (⟨"DoorSold$Bricked", "<init>", "()V"⟩, prog_3_method_1_code, 1, (none : Option FieldType), [
  (0, .aload_n 0, 1, 0, 0, 0, []), (1, .invokespecial 1, 4, 1, 0, 0, [6, 0]), (4, .return_, 5, 0, 0, 0, [])])
-- 5 DoorSold$Study.<init>()V
def mx_5 : Mx := (⟨"DoorSold$Study", "<init>", "()V"⟩, prog_11_method_1_code, 1, (none : Option FieldType), [
  (0, .aload_n 0, 1, 0, 0, 0, []), (1, .invokespecial 1, 4, 3, 0, 0, [6, 0]), (4, .return_, 5, 0, 0, 0, [])])
-- 6 DoorSold$Cart.<init>()V
def mx_6 : Mx := (⟨"DoorSold$Cart", "<init>", "()V"⟩, prog_4_method_1_code, 1, (none : Option FieldType), [
  (0, .aload_n 0, 1, 0, 0, 0, []), (1, .invokespecial 1, 4, 2, 0, 0, [6, 0]), (4, .return_, 5, 0, 0, 0, [])])
-- 7 DoorSold$Country.<init>([LDoorSold$Kind;)V
def mx_7 : Mx := (⟨"DoorSold$Country", "<init>", "([LDoorSold$Kind;)V"⟩, prog_6_method_1_code, 2, (none : Option FieldType), [
  (0, .aload_n 0, 1, 0, 0, 0, []), (1, .invokespecial 3, 4, 0, 0, 0, [3]), (4, .aload_n 0, 5, 0, 0, 0, []), (5, .bipush 6, 7, 0, 6, 0, []), (7, .newarray .int, 9, 1, 0, 0, []), (9, .putfield 9, 12, 4, 0, 0, [1, 2]),
  (12, .aload_n 0, 13, 0, 0, 0, []), (13, .bipush 6, 15, 0, 6, 0, []), (15, .newarray .int, 17, 1, 0, 0, []), (17, .putfield 15, 20, 4, 0, 0, [2, 2]), (20, .aload_n 0, 21, 0, 0, 0, []), (21, .bipush 6, 23, 0, 6, 0, []),
  (23, .newarray .int, 25, 1, 0, 0, []), (25, .putfield 18, 28, 4, 0, 0, [3, 2]), (28, .aload_n 0, 29, 0, 0, 0, []), (29, .bipush 6, 31, 0, 6, 0, []), (31, .newarray .int, 33, 1, 0, 0, []), (33, .putfield 21, 36, 4, 0, 0, [4, 2]),
  (36, .aload_n 0, 37, 0, 0, 0, []), (37, .bipush 6, 39, 0, 6, 0, []), (39, .newarray .int, 41, 1, 0, 0, []), (41, .putfield 24, 44, 4, 0, 0, [5, 2]), (44, .aload_n 0, 45, 0, 0, 0, []), (45, .bipush 6, 47, 0, 6, 0, []),
  (47, .newarray .int, 49, 1, 0, 0, []), (49, .putfield 27, 52, 4, 0, 0, [6, 2]), (52, .aload_n 0, 53, 0, 0, 0, []), (53, .bipush 40, 55, 0, 40, 0, []), (55, .newarray .int, 57, 1, 0, 0, []), (57, .putfield 30, 60, 4, 0, 0, [7, 2]),
  (60, .aload_n 0, 61, 0, 0, 0, []), (61, .iconst 0, 62, 0, 0, 0, []), (62, .putfield 33, 65, 4, 0, 0, [8, 0]), (65, .aload_n 0, 66, 0, 0, 0, []), (66, .iconst 0, 67, 0, 0, 0, []), (67, .putfield 37, 70, 4, 0, 0, [9, 0]),
  (70, .aload_n 0, 71, 0, 0, 0, []), (71, .iconst 0, 72, 0, 0, 0, []), (72, .putfield 40, 75, 4, 0, 0, [10, 0]), (75, .aload_n 0, 76, 0, 0, 0, []), (76, .iconst 0, 77, 0, 0, 0, []), (77, .putfield 43, 80, 4, 0, 0, [11, 0]),
  (80, .aload_n 0, 81, 0, 0, 0, []), (81, .iconst 0, 82, 0, 0, 0, []), (82, .putfield 46, 85, 4, 0, 0, [12, 0]), (85, .aload_n 0, 86, 0, 0, 0, []), (86, .iconst 0, 87, 0, 0, 0, []), (87, .putfield 49, 90, 4, 0, 0, [13, 0]),
  (90, .aload_n 0, 91, 0, 0, 0, []), (91, .iconst 0, 92, 0, 0, 0, []), (92, .putfield 52, 95, 4, 0, 0, [14, 0]), (95, .aload_n 0, 96, 0, 0, 0, []), (96, .iconst 0, 97, 0, 0, 0, []), (97, .putfield 55, 100, 4, 0, 0, [15, 0]),
  (100, .aload_n 0, 101, 0, 0, 0, []), (101, .aload_n 1, 102, 1, 0, 0, []), (102, .putfield 58, 105, 4, 0, 0, [0, 2]), (105, .return_, 106, 0, 0, 0, [])])
-- 8 DoorSold$Reader.<init>()V
def mx_8 : Mx := (⟨"DoorSold$Reader", "<init>", "()V"⟩, prog_9_method_1_code, 1, (none : Option FieldType), [
  (0, .aload_n 0, 1, 0, 0, 0, []), (1, .invokespecial 3, 4, 0, 0, 0, [3]), (4, .aload_n 0, 5, 0, 0, 0, []), (5, .iconst 0, 6, 0, 0, 0, []), (6, .putfield 9, 9, 7, 0, 0, [0, 0]), (9, .return_, 10, 0, 0, 0, [])])
-- 9 DoorSold$Ways.<init>()V
def mx_9 : Mx := (⟨"DoorSold$Ways", "<init>", "()V"⟩, prog_12_method_1_code, 1, (none : Option FieldType), [
  (0, .aload_n 0, 1, 0, 0, 0, []), (1, .invokespecial 3, 4, 0, 0, 0, [3]), (4, .aload_n 0, 5, 0, 0, 0, []), (5, .bipush 31, 7, 0, 31, 0, []), (7, .newarray .int, 9, 1, 0, 0, []), (9, .putfield 9, 12, 10, 0, 0, [0, 2]),
  (12, .aload_n 0, 13, 0, 0, 0, []), (13, .bipush 31, 15, 0, 31, 0, []), (15, .newarray .int, 17, 1, 0, 0, []), (17, .putfield 15, 20, 10, 0, 0, [1, 2]), (20, .return_, 21, 0, 0, 0, [])])
-- 10 DoorSold$Chase.<init>()V
def mx_10 : Mx := (⟨"DoorSold$Chase", "<init>", "()V"⟩, prog_5_method_1_code, 1, (none : Option FieldType), [
  (0, .aload_n 0, 1, 0, 0, 0, []), (1, .invokespecial 3, 4, 0, 0, 0, [3]), (4, .aload_n 0, 5, 0, 0, 0, []), (5, .bipush 7, 7, 0, 7, 0, []), (7, .newarray .int, 9, 1, 0, 0, []), (9, .putfield 9, 12, 3, 0, 0, [0, 2]),
  (12, .aload_n 0, 13, 0, 0, 0, []), (13, .bipush 49, 15, 0, 49, 0, []), (15, .newarray .int, 17, 1, 0, 0, []), (17, .putfield 15, 20, 3, 0, 0, [1, 2]), (20, .aload_n 0, 21, 0, 0, 0, []), (21, .bipush 49, 23, 0, 49, 0, []),
  (23, .newarray .int, 25, 1, 0, 0, []), (25, .putfield 18, 28, 3, 0, 0, [2, 2]), (28, .return_, 29, 0, 0, 0, [])])
-- 11 DoorSold$Row.<init>(I)V
def mx_11 : Mx := (⟨"DoorSold$Row", "<init>", "(I)V"⟩, prog_10_method_1_code, 2, (none : Option FieldType), [
  (0, .aload_n 0, 1, 0, 0, 0, []), (1, .invokespecial 1, 4, 0, 0, 0, [3]), (4, .aload_n 0, 5, 0, 0, 0, []), (5, .iconst (-1), 6, 0, (-1), 0, []), (6, .putfield 9, 9, 8, 0, 0, [1, 0]), (9, .aload_n 0, 10, 0, 0, 0, []),
  (10, .iconst 0, 11, 0, 0, 0, []), (11, .iload_n 1, 12, 1, 0, 0, []), (12, .invokestatic 13, 15, 12, 0, 0, [0, 2]), (15, .newarray .int, 17, 1, 0, 0, []), (17, .putfield 19, 20, 8, 0, 0, [0, 2]), (20, .return_, 21, 0, 0, 0, [])])
-- 12 java/lang/Math.max(II)I
def mx_12 : Mx := (⟨"java/lang/Math", "max", "(II)I"⟩, prog_16_method_65_code, 2, (Option.some FieldType.int), [
  (0, .iload_n 0, 1, 0, 0, 0, []), (1, .iload_n 1, 2, 1, 0, 0, []), (2, .if_icmp .lt 7, 5, 9, 0, 0, []), (5, .iload_n 0, 6, 0, 0, 0, []), (6, .goto 4, 9, 10, 0, 0, []), (9, .iload_n 1, 10, 1, 0, 0, []),
  (10, .ireturn, 11, 0, 0, 0, [])])
-- 13 DoorSold.row(II)I
def mx_13 : Mx := (⟨"DoorSold", "row", "(II)I"⟩, prog_1_method_2_code, 3, (Option.some FieldType.int), [
  (0, .iload_n 1, 1, 1, 0, 0, []), (1, .invokestatic 101, 4, 14, 0, 0, [0, 1]), (4, .ifCond .ne 9, 7, 13, 0, 0, []), (7, .iload_n 2, 8, 2, 0, 0, []), (8, .bipush 40, 10, 0, 40, 0, []), (10, .if_icmp .le 5, 13, 15, 0, 0, []),
  (13, .iconst (-1), 14, 0, (-1), 0, []), (14, .ireturn, 15, 0, 0, 0, []), (15, .iload_n 2, 16, 2, 0, 0, []), (16, .ifCond .ge 9, 19, 25, 0, 0, []), (19, .aload_n 0, 20, 0, 0, 0, []), (20, .iconst 5, 21, 0, 5, 0, []),
  (21, .invokevirtual 105, 24, 0, 0, 0, [1, 11, 15]), (24, .ireturn, 25, 0, 0, 0, []), (25, .aload_n 0, 26, 0, 0, 0, []), (26, .getfield 11, 29, 11, 0, 0, [0, 2]), (29, .iload_n 1, 30, 1, 0, 0, []), (30, .aaload, 31, 3, 0, 0, []),
  (31, .iload_n 2, 32, 2, 0, 0, []), (32, .iconst 0, 33, 0, 0, 0, []), (33, .invokevirtual 109, 36, 0, 0, 0, [2, 8, 16]), (36, .iload_n 2, 37, 2, 0, 0, []), (37, .ireturn, 38, 0, 0, 0, [])])
-- 14 DoorSold.noRow(I)Z
def mx_14 : Mx := (⟨"DoorSold", "noRow", "(I)Z"⟩, prog_1_method_44_code, 1, (Option.some FieldType.boolean), [
  (0, .iload_n 0, 1, 0, 0, 0, []), (1, .ifCond .lt 9, 4, 10, 0, 0, []), (4, .iload_n 0, 5, 0, 0, 0, []), (5, .bipush 6, 7, 0, 6, 0, []), (7, .if_icmp .lt 7, 10, 14, 0, 0, []), (10, .iconst 1, 11, 0, 1, 0, []),
  (11, .goto 4, 14, 15, 0, 0, []), (14, .iconst 0, 15, 0, 0, 0, []), (15, .ireturn, 16, 1, 0, 0, [])])
-- 15 DoorSold.find(I)I
def mx_15 : Mx := (⟨"DoorSold", "find", "(I)I"⟩, prog_1_method_51_code, 2, (Option.some FieldType.int), [
  (0, .aload_n 0, 1, 0, 0, 0, []), (1, .iload_n 1, 2, 1, 0, 0, []), (2, .putfield 84, 5, 11, 0, 0, [11, 0]), (5, .aload_n 0, 6, 0, 0, 0, []), (6, .getfield 81, 9, 11, 0, 0, [10, 2]), (9, .iload_n 1, 10, 1, 0, 0, []),
  (10, .dup2, 11, 0, 0, 0, []), (11, .iaload, 12, 0, 0, 0, []), (12, .iconst 1, 13, 0, 1, 0, []), (13, .iadd, 14, 0, 0, 0, []), (14, .iastore, 15, 0, 0, 0, []), (15, .bipush (-3), 17, 0, (-3), 0, []),
  (17, .ireturn, 18, 0, 0, 0, [])])
-- 16 DoorSold$Row.make(II)V
def mx_16 : Mx := (⟨"DoorSold$Row", "make", "(II)V"⟩, prog_10_method_3_code, 4, (none : Option FieldType), [
  (0, .aload_n 0, 1, 0, 0, 0, []), (1, .iload_n 1, 2, 1, 0, 0, []), (2, .aload_n 0, 3, 0, 0, 0, []), (3, .getfield 19, 6, 8, 0, 0, [0, 2]), (6, .arraylength, 7, 1, 0, 0, []), (7, .invokestatic 23, 10, 17, 0, 0, [0, 2]),
  (10, .putfield 9, 13, 8, 0, 0, [1, 0]), (13, .iconst 0, 14, 0, 0, 0, []), (14, .istore_n 3, 15, 3, 0, 0, []), (15, .iload_n 3, 16, 3, 0, 0, []), (16, .aload_n 0, 17, 0, 0, 0, []), (17, .getfield 9, 20, 8, 0, 0, [1, 0]),
  (20, .if_icmp .ge 16, 23, 36, 0, 0, []), (23, .aload_n 0, 24, 0, 0, 0, []), (24, .getfield 19, 27, 8, 0, 0, [0, 2]), (27, .iload_n 3, 28, 3, 0, 0, []), (28, .iload_n 2, 29, 2, 0, 0, []), (29, .iastore, 30, 0, 0, 0, []),
  (30, .iinc 3 1, 33, 3, 1, 0, []), (33, .goto (-18), 36, 15, 0, 0, []), (36, .return_, 37, 0, 0, 0, [])])
-- 17 java/lang/Math.min(II)I
def mx_17 : Mx := (⟨"java/lang/Math", "min", "(II)I"⟩, prog_16_method_69_code, 2, (Option.some FieldType.int), [
  (0, .iload_n 0, 1, 0, 0, 0, []), (1, .iload_n 1, 2, 1, 0, 0, []), (2, .if_icmp .gt 7, 5, 9, 0, 0, []), (5, .iload_n 0, 6, 0, 0, 0, []), (6, .goto 4, 9, 10, 0, 0, []), (9, .iload_n 1, 10, 1, 0, 0, []),
  (10, .ireturn, 11, 0, 0, 0, [])])
-- 18 DoorSold.lay(III)I
def mx_18 : Mx := (⟨"DoorSold", "lay", "(III)I"⟩, prog_1_method_3_code, 5, (Option.some FieldType.int), [
  (0, .aload_n 0, 1, 0, 0, 0, []), (1, .iload_n 1, 2, 1, 0, 0, []), (2, .iload_n 2, 3, 2, 0, 0, []), (3, .invokevirtual 113, 6, 0, 0, 0, [2, 11, 19]), (6, .istore 4, 8, 4, 0, 0, []), (8, .iload 4, 10, 4, 0, 0, []),
  (10, .ifCond .eq 6, 13, 16, 0, 0, []), (13, .iload 4, 15, 4, 0, 0, []), (15, .ireturn, 16, 0, 0, 0, []), (16, .aload_n 0, 17, 0, 0, 0, []), (17, .aload_n 0, 18, 0, 0, 0, []), (18, .getfield 11, 21, 11, 0, 0, [0, 2]),
  (21, .iload_n 1, 22, 1, 0, 0, []), (22, .aaload, 23, 3, 0, 0, []), (23, .getfield 117, 26, 8, 0, 0, [0, 2]), (26, .iload_n 2, 27, 2, 0, 0, []), (27, .iaload, 28, 0, 0, 0, []), (28, .putfield 88, 31, 11, 0, 0, [12, 0]),
  (31, .aload_n 0, 32, 0, 0, 0, []), (32, .getfield 11, 35, 11, 0, 0, [0, 2]), (35, .iload_n 1, 36, 1, 0, 0, []), (36, .aaload, 37, 3, 0, 0, []), (37, .getfield 117, 40, 8, 0, 0, [0, 2]), (40, .iload_n 2, 41, 2, 0, 0, []),
  (41, .iload_n 3, 42, 3, 0, 0, []), (42, .iastore, 43, 0, 0, 0, []), (43, .iconst 1, 44, 0, 1, 0, []), (44, .ireturn, 45, 0, 0, 0, [])])
-- 19 DoorSold.cellRefusal(II)I
def mx_19 : Mx := (⟨"DoorSold", "cellRefusal", "(II)I"⟩, prog_1_method_52_code, 3, (Option.some FieldType.int), [
  (0, .iload_n 1, 1, 1, 0, 0, []), (1, .invokestatic 101, 4, 14, 0, 0, [0, 1]), (4, .ifCond .eq 5, 7, 9, 0, 0, []), (7, .iconst (-1), 8, 0, (-1), 0, []), (8, .ireturn, 9, 0, 0, 0, []), (9, .aload_n 0, 10, 0, 0, 0, []),
  (10, .getfield 11, 13, 11, 0, 0, [0, 2]), (13, .iload_n 1, 14, 1, 0, 0, []), (14, .aaload, 15, 3, 0, 0, []), (15, .invokevirtual 120, 18, 0, 0, 0, [0, 8, 20]), (18, .ifCond .eq 9, 21, 27, 0, 0, []), (21, .aload_n 0, 22, 0, 0, 0, []),
  (22, .iconst 1, 23, 0, 1, 0, []), (23, .invokevirtual 105, 26, 0, 0, 0, [1, 11, 15]), (26, .ireturn, 27, 0, 0, 0, []), (27, .aload_n 0, 28, 0, 0, 0, []), (28, .getfield 11, 31, 11, 0, 0, [0, 2]), (31, .iload_n 1, 32, 1, 0, 0, []),
  (32, .aaload, 33, 3, 0, 0, []), (33, .iload_n 2, 34, 2, 0, 0, []), (34, .iconst 1, 35, 0, 1, 0, []), (35, .invokevirtual 127, 38, 0, 0, 0, [2, 8, 21]), (38, .ifCond .ne 9, 41, 47, 0, 0, []), (41, .aload_n 0, 42, 0, 0, 0, []),
  (42, .iconst 2, 43, 0, 2, 0, []), (43, .invokevirtual 105, 46, 0, 0, 0, [1, 11, 15]), (46, .ireturn, 47, 0, 0, 0, []), (47, .iconst 0, 48, 0, 0, 0, []), (48, .ireturn, 49, 0, 0, 0, [])])
-- 20 DoorSold$Row.missing()Z
def mx_20 : Mx := (⟨"DoorSold$Row", "missing", "()Z"⟩, prog_10_method_2_code, 1, (Option.some FieldType.boolean), [
  (0, .aload_n 0, 1, 0, 0, 0, []), (1, .getfield 9, 4, 8, 0, 0, [1, 0]), (4, .iconst (-1), 5, 0, (-1), 0, []), (5, .if_icmp .ne 7, 8, 12, 0, 0, []), (8, .iconst 1, 9, 0, 1, 0, []), (9, .goto 4, 12, 13, 0, 0, []),
  (12, .iconst 0, 13, 0, 0, 0, []), (13, .ireturn, 14, 1, 0, 0, [])])
-- 21 DoorSold$Row.holds(II)Z
def mx_21 : Mx := (⟨"DoorSold$Row", "holds", "(II)Z"⟩, prog_10_method_4_code, 3, (Option.some FieldType.boolean), [
  (0, .iload_n 1, 1, 1, 0, 0, []), (1, .ifCond .lt 25, 4, 26, 0, 0, []), (4, .iload_n 1, 5, 1, 0, 0, []), (5, .aload_n 0, 6, 0, 0, 0, []), (6, .getfield 9, 9, 8, 0, 0, [1, 0]), (9, .if_icmp .gt 17, 12, 26, 0, 0, []),
  (12, .iload_n 2, 13, 2, 0, 0, []), (13, .aload_n 0, 14, 0, 0, 0, []), (14, .getfield 9, 17, 8, 0, 0, [1, 0]), (17, .iload_n 1, 18, 1, 0, 0, []), (18, .isub, 19, 0, 0, 0, []), (19, .if_icmp .gt 7, 22, 26, 0, 0, []),
  (22, .iconst 1, 23, 0, 1, 0, []), (23, .goto 4, 26, 27, 0, 0, []), (26, .iconst 0, 27, 0, 0, 0, []), (27, .ireturn, 28, 1, 0, 0, [])])
-- 22 DoorSold.at(II)I
def mx_22 : Mx := (⟨"DoorSold", "at", "(II)I"⟩, prog_1_method_4_code, 4, (Option.some FieldType.int), [
  (0, .aload_n 0, 1, 0, 0, 0, []), (1, .iload_n 1, 2, 1, 0, 0, []), (2, .iload_n 2, 3, 2, 0, 0, []), (3, .invokevirtual 113, 6, 0, 0, 0, [2, 11, 19]), (6, .istore_n 3, 7, 3, 0, 0, []), (7, .iload_n 3, 8, 3, 0, 0, []),
  (8, .ifCond .eq 5, 11, 13, 0, 0, []), (11, .iload_n 3, 12, 3, 0, 0, []), (12, .ireturn, 13, 0, 0, 0, []), (13, .aload_n 0, 14, 0, 0, 0, []), (14, .aload_n 0, 15, 0, 0, 0, []), (15, .getfield 11, 18, 11, 0, 0, [0, 2]),
  (18, .iload_n 1, 19, 1, 0, 0, []), (19, .aaload, 20, 3, 0, 0, []), (20, .getfield 117, 23, 8, 0, 0, [0, 2]), (23, .iload_n 2, 24, 2, 0, 0, []), (24, .iaload, 25, 0, 0, 0, []), (25, .putfield 88, 28, 11, 0, 0, [12, 0]),
  (28, .iconst 1, 29, 0, 1, 0, []), (29, .ireturn, 30, 0, 0, 0, [])])
-- 23 DoorSold.tear(I)I
def mx_23 : Mx := (⟨"DoorSold", "tear", "(I)I"⟩, prog_1_method_5_code, 2, (Option.some FieldType.int), [
  (0, .iload_n 1, 1, 1, 0, 0, []), (1, .invokestatic 101, 4, 14, 0, 0, [0, 1]), (4, .ifCond .eq 5, 7, 9, 0, 0, []), (7, .iconst (-1), 8, 0, (-1), 0, []), (8, .ireturn, 9, 0, 0, 0, []), (9, .aload_n 0, 10, 0, 0, 0, []),
  (10, .getfield 11, 13, 11, 0, 0, [0, 2]), (13, .iload_n 1, 14, 1, 0, 0, []), (14, .aaload, 15, 3, 0, 0, []), (15, .invokevirtual 120, 18, 0, 0, 0, [0, 8, 20]), (18, .ifCond .eq 9, 21, 27, 0, 0, []), (21, .aload_n 0, 22, 0, 0, 0, []),
  (22, .iconst 1, 23, 0, 1, 0, []), (23, .invokevirtual 105, 26, 0, 0, 0, [1, 11, 15]), (26, .ireturn, 27, 0, 0, 0, []), (27, .aload_n 0, 28, 0, 0, 0, []), (28, .getfield 11, 31, 11, 0, 0, [0, 2]), (31, .iload_n 1, 32, 1, 0, 0, []),
  (32, .aaload, 33, 3, 0, 0, []), (33, .iconst (-1), 34, 0, (-1), 0, []), (34, .putfield 124, 37, 8, 0, 0, [1, 0]), (37, .iconst 1, 38, 0, 1, 0, []), (38, .ireturn, 39, 0, 0, 0, [])])
-- 24 DoorSold.copy(IIIII)I
def mx_24 : Mx := (⟨"DoorSold", "copy", "(IIIII)I"⟩, prog_1_method_6_code, 6, (Option.some FieldType.int), [
  (0, .iload_n 1, 1, 1, 0, 0, []), (1, .invokestatic 101, 4, 14, 0, 0, [0, 1]), (4, .ifCond .ne 10, 7, 14, 0, 0, []), (7, .iload_n 3, 8, 3, 0, 0, []), (8, .invokestatic 101, 11, 14, 0, 0, [0, 1]), (11, .ifCond .eq 5, 14, 16, 0, 0, []),
  (14, .iconst (-1), 15, 0, (-1), 0, []), (15, .ireturn, 16, 0, 0, 0, []), (16, .iload 5, 18, 5, 0, 0, []), (18, .ifCond .ge 9, 21, 27, 0, 0, []), (21, .aload_n 0, 22, 0, 0, 0, []), (22, .iconst 5, 23, 0, 5, 0, []),
  (23, .invokevirtual 105, 26, 0, 0, 0, [1, 11, 15]), (26, .ireturn, 27, 0, 0, 0, []), (27, .aload_n 0, 28, 0, 0, 0, []), (28, .getfield 11, 31, 11, 0, 0, [0, 2]), (31, .iload_n 1, 32, 1, 0, 0, []), (32, .aaload, 33, 3, 0, 0, []),
  (33, .invokevirtual 120, 36, 0, 0, 0, [0, 8, 20]), (36, .ifCond .ne 15, 39, 51, 0, 0, []), (39, .aload_n 0, 40, 0, 0, 0, []), (40, .getfield 11, 43, 11, 0, 0, [0, 2]), (43, .iload_n 3, 44, 3, 0, 0, []), (44, .aaload, 45, 3, 0, 0, []),
  (45, .invokevirtual 120, 48, 0, 0, 0, [0, 8, 20]), (48, .ifCond .eq 9, 51, 57, 0, 0, []), (51, .aload_n 0, 52, 0, 0, 0, []), (52, .iconst 1, 53, 0, 1, 0, []), (53, .invokevirtual 105, 56, 0, 0, 0, [1, 11, 15]), (56, .ireturn, 57, 0, 0, 0, []),
  (57, .aload_n 0, 58, 0, 0, 0, []), (58, .getfield 11, 61, 11, 0, 0, [0, 2]), (61, .iload_n 1, 62, 1, 0, 0, []), (62, .aaload, 63, 3, 0, 0, []), (63, .iload_n 2, 64, 2, 0, 0, []), (64, .iload 5, 66, 5, 0, 0, []),
  (66, .invokevirtual 127, 69, 0, 0, 0, [2, 8, 21]), (69, .ifCond .eq 19, 72, 88, 0, 0, []), (72, .aload_n 0, 73, 0, 0, 0, []), (73, .getfield 11, 76, 11, 0, 0, [0, 2]), (76, .iload_n 3, 77, 3, 0, 0, []), (77, .aaload, 78, 3, 0, 0, []),
  (78, .iload 4, 80, 4, 0, 0, []), (80, .iload 5, 82, 5, 0, 0, []), (82, .invokevirtual 127, 85, 0, 0, 0, [2, 8, 21]), (85, .ifCond .ne 9, 88, 94, 0, 0, []), (88, .aload_n 0, 89, 0, 0, 0, []), (89, .iconst 2, 90, 0, 2, 0, []),
  (90, .invokevirtual 105, 93, 0, 0, 0, [1, 11, 15]), (93, .ireturn, 94, 0, 0, 0, []), (94, .aload_n 0, 95, 0, 0, 0, []), (95, .getfield 11, 98, 11, 0, 0, [0, 2]), (98, .iload_n 1, 99, 1, 0, 0, []), (99, .aaload, 100, 3, 0, 0, []),
  (100, .getfield 117, 103, 8, 0, 0, [0, 2]), (103, .iload_n 2, 104, 2, 0, 0, []), (104, .aload_n 0, 105, 0, 0, 0, []), (105, .getfield 11, 108, 11, 0, 0, [0, 2]), (108, .iload_n 3, 109, 3, 0, 0, []), (109, .aaload, 110, 3, 0, 0, []),
  (110, .getfield 117, 113, 8, 0, 0, [0, 2]), (113, .iload 4, 115, 4, 0, 0, []), (115, .iload 5, 117, 5, 0, 0, []), (117, .invokestatic 131, 120, 0, 0, 0, [5]), (120, .iconst 1, 121, 0, 1, 0, []), (121, .ireturn, 122, 0, 0, 0, [])])
-- 25 DoorSold.mean(I)I
def mx_25 : Mx := (⟨"DoorSold", "mean", "(I)I"⟩, prog_1_method_7_code, 3, (Option.some FieldType.int), [
  (0, .iload_n 1, 1, 1, 0, 0, []), (1, .invokestatic 101, 4, 14, 0, 0, [0, 1]), (4, .ifCond .eq 5, 7, 9, 0, 0, []), (7, .iconst (-1), 8, 0, (-1), 0, []), (8, .ireturn, 9, 0, 0, 0, []), (9, .aload_n 0, 10, 0, 0, 0, []),
  (10, .getfield 11, 13, 11, 0, 0, [0, 2]), (13, .iload_n 1, 14, 1, 0, 0, []), (14, .aaload, 15, 3, 0, 0, []), (15, .invokevirtual 120, 18, 0, 0, 0, [0, 8, 20]), (18, .ifCond .eq 9, 21, 27, 0, 0, []), (21, .aload_n 0, 22, 0, 0, 0, []),
  (22, .iconst 1, 23, 0, 1, 0, []), (23, .invokevirtual 105, 26, 0, 0, 0, [1, 11, 15]), (26, .ireturn, 27, 0, 0, 0, []), (27, .aload_n 0, 28, 0, 0, 0, []), (28, .getfield 11, 31, 11, 0, 0, [0, 2]), (31, .iload_n 1, 32, 1, 0, 0, []),
  (32, .aaload, 33, 3, 0, 0, []), (33, .getfield 124, 36, 8, 0, 0, [1, 0]), (36, .istore_n 2, 37, 2, 0, 0, []), (37, .iload_n 2, 38, 2, 0, 0, []), (38, .ifCond .ne 9, 41, 47, 0, 0, []), (41, .aload_n 0, 42, 0, 0, 0, []),
  (42, .iconst 4, 43, 0, 4, 0, []), (43, .invokevirtual 105, 46, 0, 0, 0, [1, 11, 15]), (46, .ireturn, 47, 0, 0, 0, []), (47, .aload_n 0, 48, 0, 0, 0, []), (48, .aload_n 0, 49, 0, 0, 0, []), (49, .getfield 11, 52, 11, 0, 0, [0, 2]),
  (52, .iload_n 1, 53, 1, 0, 0, []), (53, .aaload, 54, 3, 0, 0, []), (54, .invokevirtual 137, 57, 0, 0, 0, [0, 8, 26]), (57, .iload_n 2, 58, 2, 0, 0, []), (58, .i2l, 59, 0, 0, 0, []), (59, .ldiv, 60, 0, 0, 0, []),
  (60, .l2i, 61, 0, 0, 0, []), (61, .putfield 88, 64, 11, 0, 0, [12, 0]), (64, .iconst 1, 65, 0, 1, 0, []), (65, .ireturn, 66, 0, 0, 0, [])])
-- 26 DoorSold$Row.sum()J
def mx_26 : Mx := (⟨"DoorSold$Row", "sum", "()J"⟩, prog_10_method_6_code, 4, (Option.some FieldType.long), [
  (0, .lconst 0, 1, 0, 0, 0, []), (1, .lstore_n 1, 2, 1, 0, 0, []), (2, .iconst 0, 3, 0, 0, 0, []), (3, .istore_n 3, 4, 3, 0, 0, []), (4, .iload_n 3, 5, 3, 0, 0, []), (5, .aload_n 0, 6, 0, 0, 0, []),
  (6, .getfield 9, 9, 8, 0, 0, [1, 0]), (9, .if_icmp .ge 19, 12, 28, 0, 0, []), (12, .lload_n 1, 13, 1, 0, 0, []), (13, .aload_n 0, 14, 0, 0, 0, []), (14, .getfield 19, 17, 8, 0, 0, [0, 2]), (17, .iload_n 3, 18, 3, 0, 0, []),
  (18, .iaload, 19, 0, 0, 0, []), (19, .i2l, 20, 0, 0, 0, []), (20, .ladd, 21, 0, 0, 0, []), (21, .lstore_n 1, 22, 1, 0, 0, []), (22, .iinc 3 1, 25, 3, 1, 0, []), (25, .goto (-21), 28, 4, 0, 0, []),
  (28, .lload_n 1, 29, 1, 0, 0, []), (29, .lreturn, 30, 0, 0, 0, [])])
-- 27 DoorSold.text(II)I
def mx_27 : Mx := (⟨"DoorSold", "text", "(II)I"⟩, prog_1_method_8_code, 3, (Option.some FieldType.int), [
  (0, .iload_n 1, 1, 1, 0, 0, []), (1, .invokestatic 141, 4, 28, 0, 0, [0, 1]), (4, .ifCond .ne 9, 7, 13, 0, 0, []), (7, .iload_n 2, 8, 2, 0, 0, []), (8, .bipush 60, 10, 0, 60, 0, []), (10, .if_icmp .le 5, 13, 15, 0, 0, []),
  (13, .iconst (-1), 14, 0, (-1), 0, []), (14, .ireturn, 15, 0, 0, 0, []), (15, .iload_n 2, 16, 2, 0, 0, []), (16, .ifCond .ge 9, 19, 25, 0, 0, []), (19, .aload_n 0, 20, 0, 0, 0, []), (20, .iconst 5, 21, 0, 5, 0, []),
  (21, .invokevirtual 105, 24, 0, 0, 0, [1, 11, 15]), (24, .ireturn, 25, 0, 0, 0, []), (25, .aload_n 0, 26, 0, 0, 0, []), (26, .getfield 15, 29, 11, 0, 0, [1, 2]), (29, .iload_n 1, 30, 1, 0, 0, []), (30, .aaload, 31, 3, 0, 0, []),
  (31, .iload_n 2, 32, 2, 0, 0, []), (32, .bipush 32, 34, 0, 32, 0, []), (34, .invokevirtual 109, 37, 0, 0, 0, [2, 8, 16]), (37, .iload_n 2, 38, 2, 0, 0, []), (38, .ireturn, 39, 0, 0, 0, [])])
-- 28 DoorSold.noText(I)Z
def mx_28 : Mx := (⟨"DoorSold", "noText", "(I)Z"⟩, prog_1_method_45_code, 1, (Option.some FieldType.boolean), [
  (0, .iload_n 0, 1, 0, 0, 0, []), (1, .ifCond .lt 8, 4, 9, 0, 0, []), (4, .iload_n 0, 5, 0, 0, 0, []), (5, .iconst 4, 6, 0, 4, 0, []), (6, .if_icmp .lt 7, 9, 13, 0, 0, []), (9, .iconst 1, 10, 0, 1, 0, []),
  (10, .goto 4, 13, 14, 0, 0, []), (13, .iconst 0, 14, 0, 0, 0, []), (14, .ireturn, 15, 1, 0, 0, [])])
-- 29 DoorSold.put(III)I
def mx_29 : Mx := (⟨"DoorSold", "put", "(III)I"⟩, prog_1_method_9_code, 5, (Option.some FieldType.int), [
  (0, .iload_n 1, 1, 1, 0, 0, []), (1, .invokestatic 141, 4, 28, 0, 0, [0, 1]), (4, .ifCond .eq 5, 7, 9, 0, 0, []), (7, .iconst (-1), 8, 0, (-1), 0, []), (8, .ireturn, 9, 0, 0, 0, []), (9, .aload_n 0, 10, 0, 0, 0, []),
  (10, .getfield 15, 13, 11, 0, 0, [1, 2]), (13, .iload_n 1, 14, 1, 0, 0, []), (14, .aaload, 15, 3, 0, 0, []), (15, .invokevirtual 120, 18, 0, 0, 0, [0, 8, 20]), (18, .ifCond .eq 9, 21, 27, 0, 0, []), (21, .aload_n 0, 22, 0, 0, 0, []),
  (22, .iconst 1, 23, 0, 1, 0, []), (23, .invokevirtual 105, 26, 0, 0, 0, [1, 11, 15]), (26, .ireturn, 27, 0, 0, 0, []), (27, .aload_n 0, 28, 0, 0, 0, []), (28, .getfield 15, 31, 11, 0, 0, [1, 2]), (31, .iload_n 1, 32, 1, 0, 0, []),
  (32, .aaload, 33, 3, 0, 0, []), (33, .iload_n 2, 34, 2, 0, 0, []), (34, .iconst 1, 35, 0, 1, 0, []), (35, .invokevirtual 127, 38, 0, 0, 0, [2, 8, 21]), (38, .ifCond .ne 9, 41, 47, 0, 0, []), (41, .aload_n 0, 42, 0, 0, 0, []),
  (42, .iconst 2, 43, 0, 2, 0, []), (43, .invokevirtual 105, 46, 0, 0, 0, [1, 11, 15]), (46, .ireturn, 47, 0, 0, 0, []), (47, .aload_n 0, 48, 0, 0, 0, []), (48, .getfield 15, 51, 11, 0, 0, [1, 2]), (51, .iload_n 1, 52, 1, 0, 0, []),
  (52, .aaload, 53, 3, 0, 0, []), (53, .getfield 117, 56, 8, 0, 0, [0, 2]), (56, .iload_n 2, 57, 2, 0, 0, []), (57, .iaload, 58, 0, 0, 0, []), (58, .istore 4, 60, 4, 0, 0, []), (60, .aload_n 0, 61, 0, 0, 0, []),
  (61, .getfield 15, 64, 11, 0, 0, [1, 2]), (64, .iload_n 1, 65, 1, 0, 0, []), (65, .aaload, 66, 3, 0, 0, []), (66, .getfield 117, 69, 8, 0, 0, [0, 2]), (69, .iload_n 2, 70, 2, 0, 0, []), (70, .iload_n 3, 71, 3, 0, 0, []),
  (71, .i2b, 72, 0, 0, 0, []), (72, .iastore, 73, 0, 0, 0, []), (73, .sipush 1000, 76, 0, 1000, 0, []), (76, .iload 4, 78, 4, 0, 0, []), (78, .iadd, 79, 0, 0, 0, []), (79, .ireturn, 80, 0, 0, 0, [])])
-- 30 DoorSold.fault(I)I
def mx_30 : Mx := (⟨"DoorSold", "fault", "(I)I"⟩, prog_1_method_10_code, 2, (Option.some FieldType.int), [
  (0, .iload_n 1, 1, 1, 0, 0, []), (1, .invokestatic 141, 4, 28, 0, 0, [0, 1]), (4, .ifCond .eq 5, 7, 9, 0, 0, []), (7, .iconst (-1), 8, 0, (-1), 0, []), (8, .ireturn, 9, 0, 0, 0, []), (9, .aload_n 0, 10, 0, 0, 0, []),
  (10, .getfield 15, 13, 11, 0, 0, [1, 2]), (13, .iload_n 1, 14, 1, 0, 0, []), (14, .aaload, 15, 3, 0, 0, []), (15, .invokevirtual 120, 18, 0, 0, 0, [0, 8, 20]), (18, .ifCond .eq 9, 21, 27, 0, 0, []), (21, .aload_n 0, 22, 0, 0, 0, []),
  (22, .iconst 1, 23, 0, 1, 0, []), (23, .invokevirtual 105, 26, 0, 0, 0, [1, 11, 15]), (26, .ireturn, 27, 0, 0, 0, []), (27, .aload_n 0, 28, 0, 0, 0, []), (28, .getfield 59, 31, 11, 0, 0, [6, 2]), (31, .aload_n 0, 32, 0, 0, 0, []),
  (32, .getfield 15, 35, 11, 0, 0, [1, 2]), (35, .iload_n 1, 36, 1, 0, 0, []), (36, .aaload, 37, 3, 0, 0, []), (37, .aload_n 0, 38, 0, 0, 0, []), (38, .getfield 49, 41, 11, 0, 0, [4, 2]), (41, .invokevirtual 144, 44, 0, 0, 0, [2, 7, 31]),
  (44, .ireturn, 45, 0, 0, 0, [])])
-- 31 DoorSold$Reader.faultOf(LDoorSold$Row;LDoorSold$Country;)I
def mx_31 : Mx := (⟨"DoorSold$Reader", "faultOf", "(LDoorSold$Row;LDoorSold$Country;)I"⟩, prog_9_method_2_code, 4, (Option.some FieldType.int), [
  (0, .aload_n 2, 1, 2, 0, 0, []), (1, .invokevirtual 15, 4, 0, 0, 0, [0, 4, 32]), (4, .aload_n 0, 5, 0, 0, 0, []), (5, .iconst 0, 6, 0, 0, 0, []), (6, .putfield 9, 9, 7, 0, 0, [0, 0]), (9, .aload_n 0, 10, 0, 0, 0, []),
  (10, .aload_n 1, 11, 1, 0, 0, []), (11, .invokevirtual 20, 14, 0, 0, 0, [1, 7, 34]), (14, .aload_n 0, 15, 0, 0, 0, []), (15, .aload_n 1, 16, 1, 0, 0, []), (16, .aload_n 2, 17, 2, 0, 0, []), (17, .invokevirtual 24, 20, 0, 0, 0, [2, 7, 35]),
  (20, .ifCond .ne 8, 23, 28, 0, 0, []), (23, .aload_n 0, 24, 0, 0, 0, []), (24, .getfield 9, 27, 7, 0, 0, [0, 0]), (27, .ireturn, 28, 0, 0, 0, []), (28, .aload_n 0, 29, 0, 0, 0, []), (29, .aload_n 1, 30, 1, 0, 0, []),
  (30, .invokevirtual 20, 33, 0, 0, 0, [1, 7, 34]), (33, .iconst 0, 34, 0, 0, 0, []), (34, .istore_n 3, 35, 3, 0, 0, []), (35, .iload_n 3, 36, 3, 0, 0, []), (36, .bipush 6, 38, 0, 6, 0, []), (38, .if_icmp .gt 39, 41, 77, 0, 0, []),
  (41, .aload_n 0, 42, 0, 0, 0, []), (42, .getfield 9, 45, 7, 0, 0, [0, 0]), (45, .aload_n 1, 46, 1, 0, 0, []), (46, .getfield 28, 49, 8, 0, 0, [1, 0]), (49, .if_icmp .ge 28, 52, 77, 0, 0, []), (52, .aload_n 0, 53, 0, 0, 0, []),
  (53, .aload_n 1, 54, 1, 0, 0, []), (54, .aload_n 2, 55, 2, 0, 0, []), (55, .invokevirtual 33, 58, 0, 0, 0, [2, 7, 37]), (58, .ifCond .ne 8, 61, 66, 0, 0, []), (61, .aload_n 0, 62, 0, 0, 0, []), (62, .getfield 9, 65, 7, 0, 0, [0, 0]),
  (65, .ireturn, 66, 0, 0, 0, []), (66, .aload_n 0, 67, 0, 0, 0, []), (67, .aload_n 1, 68, 1, 0, 0, []), (68, .invokevirtual 20, 71, 0, 0, 0, [1, 7, 34]), (71, .iinc 3 1, 74, 3, 1, 0, []), (74, .goto (-39), 77, 35, 0, 0, []),
  (77, .aload_n 2, 78, 2, 0, 0, []), (78, .getfield 36, 81, 4, 0, 0, [9, 0]), (81, .ifCond .ne 10, 84, 91, 0, 0, []), (84, .aload_n 0, 85, 0, 0, 0, []), (85, .getfield 9, 88, 7, 0, 0, [0, 0]), (88, .goto 5, 91, 93, 0, 0, []),
  (91, .bipush (-9), 93, 0, (-9), 0, []), (93, .ireturn, 94, 0, 0, 0, [])])
-- 32 DoorSold$Country.clear()V
def mx_32 : Mx := (⟨"DoorSold$Country", "clear", "()V"⟩, prog_6_method_2_code, 1, (none : Option FieldType), [
  (0, .aload_n 0, 1, 0, 0, 0, []), (1, .iconst 0, 2, 0, 0, 0, []), (2, .putfield 33, 5, 4, 0, 0, [8, 0]), (5, .aload_n 0, 6, 0, 0, 0, []), (6, .iconst 0, 7, 0, 0, 0, []), (7, .putfield 37, 10, 4, 0, 0, [9, 0]),
  (10, .aload_n 0, 11, 0, 0, 0, []), (11, .iconst 0, 12, 0, 0, 0, []), (12, .putfield 40, 15, 4, 0, 0, [10, 0]), (15, .aload_n 0, 16, 0, 0, 0, []), (16, .invokevirtual 62, 19, 0, 0, 0, [0, 4, 33]), (19, .return_, 20, 0, 0, 0, [])])
-- 33 DoorSold$Country.begin()V
def mx_33 : Mx := (⟨"DoorSold$Country", "begin", "()V"⟩, prog_6_method_4_code, 2, (none : Option FieldType), [
  (0, .iconst 0, 1, 0, 0, 0, []), (1, .istore_n 1, 2, 1, 0, 0, []), (2, .iload_n 1, 3, 1, 0, 0, []), (3, .aload_n 0, 4, 0, 0, 0, []), (4, .getfield 37, 7, 4, 0, 0, [9, 0]), (7, .if_icmp .ge 33, 10, 40, 0, 0, []),
  (10, .aload_n 0, 11, 0, 0, 0, []), (11, .getfield 18, 14, 4, 0, 0, [3, 2]), (14, .iload_n 1, 15, 1, 0, 0, []), (15, .aload_n 0, 16, 0, 0, 0, []), (16, .getfield 24, 19, 4, 0, 0, [5, 2]), (19, .iload_n 1, 20, 1, 0, 0, []),
  (20, .iaload, 21, 0, 0, 0, []), (21, .iastore, 22, 0, 0, 0, []), (22, .aload_n 0, 23, 0, 0, 0, []), (23, .getfield 21, 26, 4, 0, 0, [4, 2]), (26, .iload_n 1, 27, 1, 0, 0, []), (27, .aload_n 0, 28, 0, 0, 0, []),
  (28, .getfield 27, 31, 4, 0, 0, [6, 2]), (31, .iload_n 1, 32, 1, 0, 0, []), (32, .iaload, 33, 0, 0, 0, []), (33, .iastore, 34, 0, 0, 0, []), (34, .iinc 1 1, 37, 1, 1, 0, []), (37, .goto (-35), 40, 2, 0, 0, []),
  (40, .aload_n 0, 41, 0, 0, 0, []), (41, .aload_n 0, 42, 0, 0, 0, []), (42, .getfield 40, 45, 4, 0, 0, [10, 0]), (45, .putfield 43, 48, 4, 0, 0, [11, 0]), (48, .aload_n 0, 49, 0, 0, 0, []), (49, .iconst 0, 50, 0, 0, 0, []),
  (50, .putfield 46, 53, 4, 0, 0, [12, 0]), (53, .aload_n 0, 54, 0, 0, 0, []), (54, .iconst 0, 55, 0, 0, 0, []), (55, .putfield 49, 58, 4, 0, 0, [13, 0]), (58, .aload_n 0, 59, 0, 0, 0, []), (59, .iconst 0, 60, 0, 0, 0, []),
  (60, .putfield 52, 63, 4, 0, 0, [14, 0]), (63, .aload_n 0, 64, 0, 0, 0, []), (64, .iconst 0, 65, 0, 0, 0, []), (65, .putfield 55, 68, 4, 0, 0, [15, 0]), (68, .return_, 69, 0, 0, 0, [])])
-- 34 DoorSold$Reader.skipBlanks(LDoorSold$Row;)V
def mx_34 : Mx := (⟨"DoorSold$Reader", "skipBlanks", "(LDoorSold$Row;)V"⟩, prog_9_method_3_code, 2, (none : Option FieldType), [
  (0, .aload_n 0, 1, 0, 0, 0, []), (1, .getfield 9, 4, 7, 0, 0, [0, 0]), (4, .aload_n 1, 5, 1, 0, 0, []), (5, .getfield 28, 8, 8, 0, 0, [1, 0]), (8, .if_icmp .ge 30, 11, 38, 0, 0, []), (11, .aload_n 1, 12, 1, 0, 0, []),
  (12, .getfield 39, 15, 8, 0, 0, [0, 2]), (15, .aload_n 0, 16, 0, 0, 0, []), (16, .getfield 9, 19, 7, 0, 0, [0, 0]), (19, .iaload, 20, 0, 0, 0, []), (20, .bipush 32, 22, 0, 32, 0, []), (22, .if_icmp .ne 16, 25, 38, 0, 0, []),
  (25, .aload_n 0, 26, 0, 0, 0, []), (26, .dup, 27, 0, 0, 0, []), (27, .getfield 9, 30, 7, 0, 0, [0, 0]), (30, .iconst 1, 31, 0, 1, 0, []), (31, .iadd, 32, 0, 0, 0, []), (32, .putfield 9, 35, 7, 0, 0, [0, 0]),
  (35, .goto (-35), 38, 0, 0, 0, []), (38, .return_, 39, 0, 0, 0, [])])
-- 35 DoorSold$Reader.readHead(LDoorSold$Row;LDoorSold$Country;)Z
def mx_35 : Mx := (⟨"DoorSold$Reader", "readHead", "(LDoorSold$Row;LDoorSold$Country;)Z"⟩, prog_9_method_4_code, 6, (Option.some FieldType.boolean), [
  (0, .aload_n 0, 1, 0, 0, 0, []), (1, .getfield 9, 4, 7, 0, 0, [0, 0]), (4, .aload_n 1, 5, 1, 0, 0, []), (5, .getfield 28, 8, 8, 0, 0, [1, 0]), (8, .if_icmp .ge 17, 11, 25, 0, 0, []), (11, .aload_n 1, 12, 1, 0, 0, []),
  (12, .getfield 39, 15, 8, 0, 0, [0, 2]), (15, .aload_n 0, 16, 0, 0, 0, []), (16, .getfield 9, 19, 7, 0, 0, [0, 0]), (19, .iaload, 20, 0, 0, 0, []), (20, .bipush 110, 22, 0, 110, 0, []), (22, .if_icmp .eq 5, 25, 27, 0, 0, []),
  (25, .iconst 0, 26, 0, 0, 0, []), (26, .ireturn, 27, 1, 0, 0, []), (27, .aload_n 0, 28, 0, 0, 0, []), (28, .dup, 29, 0, 0, 0, []), (29, .getfield 9, 32, 7, 0, 0, [0, 0]), (32, .iconst 1, 33, 0, 1, 0, []),
  (33, .iadd, 34, 0, 0, 0, []), (34, .putfield 9, 37, 7, 0, 0, [0, 0]), (37, .aload_n 0, 38, 0, 0, 0, []), (38, .aload_n 1, 39, 1, 0, 0, []), (39, .iconst 2, 40, 0, 2, 0, []), (40, .bipush 7, 42, 0, 7, 0, []),
  (42, .invokevirtual 43, 45, 0, 0, 0, [3, 7, 36]), (45, .istore_n 3, 46, 3, 0, 0, []), (46, .iload_n 3, 47, 3, 0, 0, []), (47, .bipush (-9), 49, 0, (-9), 0, []), (49, .if_icmp .ne 5, 52, 54, 0, 0, []), (52, .iconst 0, 53, 0, 0, 0, []),
  (53, .ireturn, 54, 1, 0, 0, []), (54, .aload_n 0, 55, 0, 0, 0, []), (55, .aload_n 1, 56, 1, 0, 0, []), (56, .iconst 0, 57, 0, 0, 0, []), (57, .bipush 9, 59, 0, 9, 0, []), (59, .invokevirtual 43, 62, 0, 0, 0, [3, 7, 36]),
  (62, .istore 4, 64, 4, 0, 0, []), (64, .iload 4, 66, 4, 0, 0, []), (66, .bipush (-9), 68, 0, (-9), 0, []), (68, .if_icmp .ne 5, 71, 73, 0, 0, []), (71, .iconst 0, 72, 0, 0, 0, []), (72, .ireturn, 73, 1, 0, 0, []),
  (73, .aload_n 0, 74, 0, 0, 0, []), (74, .aload_n 1, 75, 1, 0, 0, []), (75, .iconst 0, 76, 0, 0, 0, []), (76, .bipush 9, 78, 0, 9, 0, []), (78, .invokevirtual 43, 81, 0, 0, 0, [3, 7, 36]), (81, .istore 5, 83, 5, 0, 0, []),
  (83, .iload 5, 85, 5, 0, 0, []), (85, .bipush (-9), 87, 0, (-9), 0, []), (87, .if_icmp .ne 5, 90, 92, 0, 0, []), (90, .iconst 0, 91, 0, 0, 0, []), (91, .ireturn, 92, 1, 0, 0, []), (92, .aload_n 2, 93, 2, 0, 0, []),
  (93, .iload_n 3, 94, 3, 0, 0, []), (94, .putfield 47, 97, 4, 0, 0, [8, 0]), (97, .aload_n 2, 98, 2, 0, 0, []), (98, .bipush 10, 100, 0, 10, 0, []), (100, .iload 4, 102, 4, 0, 0, []), (102, .imul, 103, 0, 0, 0, []),
  (103, .iload 5, 105, 5, 0, 0, []), (105, .iadd, 106, 0, 0, 0, []), (106, .putfield 50, 109, 4, 0, 0, [10, 0]), (109, .iconst 1, 110, 0, 1, 0, []), (110, .ireturn, 111, 1, 0, 0, [])])
-- 36 DoorSold$Reader.readFigure(LDoorSold$Row;II)I
def mx_36 : Mx := (⟨"DoorSold$Reader", "readFigure", "(LDoorSold$Row;II)I"⟩, prog_9_method_7_code, 5, (Option.some FieldType.int), [
  (0, .aload_n 0, 1, 0, 0, 0, []), (1, .getfield 9, 4, 7, 0, 0, [0, 0]), (4, .aload_n 1, 5, 1, 0, 0, []), (5, .getfield 28, 8, 8, 0, 0, [1, 0]), (8, .if_icmp .lt 6, 11, 14, 0, 0, []), (11, .bipush (-9), 13, 0, (-9), 0, []),
  (13, .ireturn, 14, 0, 0, 0, []), (14, .aload_n 1, 15, 1, 0, 0, []), (15, .getfield 39, 18, 8, 0, 0, [0, 2]), (18, .aload_n 0, 19, 0, 0, 0, []), (19, .getfield 9, 22, 7, 0, 0, [0, 0]), (22, .iaload, 23, 0, 0, 0, []),
  (23, .bipush 48, 25, 0, 48, 0, []), (25, .isub, 26, 0, 0, 0, []), (26, .istore 4, 28, 4, 0, 0, []), (28, .iload 4, 30, 4, 0, 0, []), (30, .iload_n 2, 31, 2, 0, 0, []), (31, .if_icmp .lt 9, 34, 40, 0, 0, []),
  (34, .iload 4, 36, 4, 0, 0, []), (36, .iload_n 3, 37, 3, 0, 0, []), (37, .if_icmp .le 6, 40, 43, 0, 0, []), (40, .bipush (-9), 42, 0, (-9), 0, []), (42, .ireturn, 43, 0, 0, 0, []), (43, .aload_n 0, 44, 0, 0, 0, []),
  (44, .dup, 45, 0, 0, 0, []), (45, .getfield 9, 48, 7, 0, 0, [0, 0]), (48, .iconst 1, 49, 0, 1, 0, []), (49, .iadd, 50, 0, 0, 0, []), (50, .putfield 9, 53, 7, 0, 0, [0, 0]), (53, .iload 4, 55, 4, 0, 0, []),
  (55, .ireturn, 56, 0, 0, 0, [])])
-- 37 DoorSold$Reader.readDoor(LDoorSold$Row;LDoorSold$Country;)Z
def mx_37 : Mx := (⟨"DoorSold$Reader", "readDoor", "(LDoorSold$Row;LDoorSold$Country;)Z"⟩, prog_9_method_5_code, 7, (Option.some FieldType.boolean), [
  (0, .aload_n 2, 1, 2, 0, 0, []), (1, .getfield 36, 4, 4, 0, 0, [9, 0]), (4, .bipush 6, 6, 0, 6, 0, []), (6, .if_icmp .ne 5, 9, 11, 0, 0, []), (9, .iconst 0, 10, 0, 0, 0, []), (10, .ireturn, 11, 1, 0, 0, []),
  (11, .aload_n 0, 12, 0, 0, 0, []), (12, .aload_n 1, 13, 1, 0, 0, []), (13, .invokevirtual 53, 16, 0, 0, 0, [1, 7, 38]), (16, .istore_n 3, 17, 3, 0, 0, []), (17, .iload_n 3, 18, 3, 0, 0, []), (18, .bipush (-9), 20, 0, (-9), 0, []),
  (20, .if_icmp .ne 5, 23, 25, 0, 0, []), (23, .iconst 0, 24, 0, 0, 0, []), (24, .ireturn, 25, 1, 0, 0, []), (25, .aload_n 0, 26, 0, 0, 0, []), (26, .aload_n 1, 27, 1, 0, 0, []), (27, .iconst 0, 28, 0, 0, 0, []),
  (28, .aload_n 2, 29, 2, 0, 0, []), (29, .getfield 47, 32, 4, 0, 0, [8, 0]), (32, .iconst 1, 33, 0, 1, 0, []), (33, .isub, 34, 0, 0, 0, []), (34, .invokevirtual 43, 37, 0, 0, 0, [3, 7, 36]), (37, .istore 4, 39, 4, 0, 0, []),
  (39, .iload 4, 41, 4, 0, 0, []), (41, .bipush (-9), 43, 0, (-9), 0, []), (43, .if_icmp .ne 5, 46, 48, 0, 0, []), (46, .iconst 0, 47, 0, 0, 0, []), (47, .ireturn, 48, 1, 0, 0, []), (48, .aload_n 0, 49, 0, 0, 0, []),
  (49, .aload_n 1, 50, 1, 0, 0, []), (50, .iconst 0, 51, 0, 0, 0, []), (51, .aload_n 2, 52, 2, 0, 0, []), (52, .getfield 47, 55, 4, 0, 0, [8, 0]), (55, .iconst 1, 56, 0, 1, 0, []), (56, .isub, 57, 0, 0, 0, []),
  (57, .invokevirtual 43, 60, 0, 0, 0, [3, 7, 36]), (60, .istore 5, 62, 5, 0, 0, []), (62, .iload 5, 64, 5, 0, 0, []), (64, .bipush (-9), 66, 0, (-9), 0, []), (66, .if_icmp .ne 5, 69, 71, 0, 0, []), (69, .iconst 0, 70, 0, 0, 0, []),
  (70, .ireturn, 71, 1, 0, 0, []), (71, .aload_n 0, 72, 0, 0, 0, []), (72, .aload_n 1, 73, 1, 0, 0, []), (73, .iconst 0, 74, 0, 0, 0, []), (74, .bipush 9, 76, 0, 9, 0, []), (76, .invokevirtual 43, 79, 0, 0, 0, [3, 7, 36]),
  (79, .istore 6, 81, 6, 0, 0, []), (81, .iload 6, 83, 6, 0, 0, []), (83, .bipush (-9), 85, 0, (-9), 0, []), (85, .if_icmp .ne 5, 88, 90, 0, 0, []), (88, .iconst 0, 89, 0, 0, 0, []), (89, .ireturn, 90, 1, 0, 0, []),
  (90, .aload_n 2, 91, 2, 0, 0, []), (91, .iload_n 3, 92, 3, 0, 0, []), (92, .iload 4, 94, 4, 0, 0, []), (94, .iload 5, 96, 5, 0, 0, []), (96, .iload 6, 98, 6, 0, 0, []), (98, .invokevirtual 57, 101, 0, 0, 0, [4, 4, 39]),
  (101, .iconst 1, 102, 0, 1, 0, []), (102, .ireturn, 103, 1, 0, 0, [])])
-- 38 DoorSold$Reader.readLetter(LDoorSold$Row;)I
def mx_38 : Mx := (⟨"DoorSold$Reader", "readLetter", "(LDoorSold$Row;)I"⟩, prog_9_method_6_code, 3, (Option.some FieldType.int), [
  (0, .aload_n 0, 1, 0, 0, 0, []), (1, .getfield 9, 4, 7, 0, 0, [0, 0]), (4, .aload_n 1, 5, 1, 0, 0, []), (5, .getfield 28, 8, 8, 0, 0, [1, 0]), (8, .if_icmp .lt 6, 11, 14, 0, 0, []), (11, .bipush (-9), 13, 0, (-9), 0, []),
  (13, .ireturn, 14, 0, 0, 0, []), (14, .iconst 0, 15, 0, 0, 0, []), (15, .istore_n 2, 16, 2, 0, 0, []), (16, .iload_n 2, 17, 2, 0, 0, []), (17, .bipush 6, 19, 0, 6, 0, []), (19, .if_icmp .ge 41, 22, 60, 0, 0, []),
  (22, .aload_n 1, 23, 1, 0, 0, []), (23, .getfield 39, 26, 8, 0, 0, [0, 2]), (26, .aload_n 0, 27, 0, 0, 0, []), (27, .getfield 9, 30, 7, 0, 0, [0, 0]), (30, .iaload, 31, 0, 0, 0, []), (31, .getstatic 61, 34, 0, 0, 0, []),
  (34, .iload_n 2, 35, 2, 0, 0, []), (35, .iaload, 36, 0, 0, 0, []), (36, .if_icmp .eq 6, 39, 42, 0, 0, []), (39, .goto 15, 42, 54, 0, 0, []), (42, .aload_n 0, 43, 0, 0, 0, []), (43, .dup, 44, 0, 0, 0, []),
  (44, .getfield 9, 47, 7, 0, 0, [0, 0]), (47, .iconst 1, 48, 0, 1, 0, []), (48, .iadd, 49, 0, 0, 0, []), (49, .putfield 9, 52, 7, 0, 0, [0, 0]), (52, .iload_n 2, 53, 2, 0, 0, []), (53, .ireturn, 54, 0, 0, 0, []),
  (54, .iinc 2 1, 57, 2, 1, 0, []), (57, .goto (-41), 60, 16, 0, 0, []), (60, .bipush (-9), 62, 0, (-9), 0, []), (62, .ireturn, 63, 0, 0, 0, [])])
-- 39 DoorSold$Country.addDoor(IIII)V
def mx_39 : Mx := (⟨"DoorSold$Country", "addDoor", "(IIII)V"⟩, prog_6_method_3_code, 5, (none : Option FieldType), [
  (0, .aload_n 0, 1, 0, 0, 0, []), (1, .getfield 37, 4, 4, 0, 0, [9, 0]), (4, .bipush 6, 6, 0, 6, 0, []), (6, .if_icmp .lt 4, 9, 10, 0, 0, []), (9, .return_, 10, 0, 0, 0, []), (10, .aload_n 0, 11, 0, 0, 0, []),
  (11, .getfield 9, 14, 4, 0, 0, [1, 2]), (14, .aload_n 0, 15, 0, 0, 0, []), (15, .getfield 37, 18, 4, 0, 0, [9, 0]), (18, .iload_n 1, 19, 1, 0, 0, []), (19, .iastore, 20, 0, 0, 0, []), (20, .aload_n 0, 21, 0, 0, 0, []),
  (21, .getfield 24, 24, 4, 0, 0, [5, 2]), (24, .aload_n 0, 25, 0, 0, 0, []), (25, .getfield 37, 28, 4, 0, 0, [9, 0]), (28, .iload_n 2, 29, 2, 0, 0, []), (29, .iastore, 30, 0, 0, 0, []), (30, .aload_n 0, 31, 0, 0, 0, []),
  (31, .getfield 27, 34, 4, 0, 0, [6, 2]), (34, .aload_n 0, 35, 0, 0, 0, []), (35, .getfield 37, 38, 4, 0, 0, [9, 0]), (38, .iload_n 3, 39, 3, 0, 0, []), (39, .iastore, 40, 0, 0, 0, []), (40, .aload_n 0, 41, 0, 0, 0, []),
  (41, .getfield 15, 44, 4, 0, 0, [2, 2]), (44, .aload_n 0, 45, 0, 0, 0, []), (45, .getfield 37, 48, 4, 0, 0, [9, 0]), (48, .iload 4, 50, 4, 0, 0, []), (50, .iastore, 51, 0, 0, 0, []), (51, .aload_n 0, 52, 0, 0, 0, []),
  (52, .dup, 53, 0, 0, 0, []), (53, .getfield 37, 56, 4, 0, 0, [9, 0]), (56, .iconst 1, 57, 0, 1, 0, []), (57, .iadd, 58, 0, 0, 0, []), (58, .putfield 37, 61, 4, 0, 0, [9, 0]), (61, .return_, 62, 0, 0, 0, [])])
-- 40 DoorSold.country(I)I
def mx_40 : Mx := (⟨"DoorSold", "country", "(I)I"⟩, prog_1_method_11_code, 3, (Option.some FieldType.int), [
  (0, .iload_n 1, 1, 1, 0, 0, []), (1, .invokestatic 141, 4, 28, 0, 0, [0, 1]), (4, .ifCond .eq 5, 7, 9, 0, 0, []), (7, .iconst (-1), 8, 0, (-1), 0, []), (8, .ireturn, 9, 0, 0, 0, []), (9, .aload_n 0, 10, 0, 0, 0, []),
  (10, .getfield 15, 13, 11, 0, 0, [1, 2]), (13, .iload_n 1, 14, 1, 0, 0, []), (14, .aaload, 15, 3, 0, 0, []), (15, .invokevirtual 120, 18, 0, 0, 0, [0, 8, 20]), (18, .ifCond .eq 9, 21, 27, 0, 0, []), (21, .aload_n 0, 22, 0, 0, 0, []),
  (22, .iconst 1, 23, 0, 1, 0, []), (23, .invokevirtual 105, 26, 0, 0, 0, [1, 11, 15]), (26, .ireturn, 27, 0, 0, 0, []), (27, .aload_n 0, 28, 0, 0, 0, []), (28, .getfield 59, 31, 11, 0, 0, [6, 2]), (31, .aload_n 0, 32, 0, 0, 0, []),
  (32, .getfield 15, 35, 11, 0, 0, [1, 2]), (35, .iload_n 1, 36, 1, 0, 0, []), (36, .aaload, 37, 3, 0, 0, []), (37, .aload_n 0, 38, 0, 0, 0, []), (38, .getfield 49, 41, 11, 0, 0, [4, 2]), (41, .invokevirtual 144, 44, 0, 0, 0, [2, 7, 31]),
  (44, .bipush (-9), 46, 0, (-9), 0, []), (46, .if_icmp .eq 6, 49, 52, 0, 0, []), (49, .bipush (-4), 51, 0, (-4), 0, []), (51, .ireturn, 52, 0, 0, 0, []), (52, .aload_n 0, 53, 0, 0, 0, []), (53, .getfield 49, 56, 11, 0, 0, [4, 2]),
  (56, .invokevirtual 148, 59, 0, 0, 0, [0, 4, 33]), (59, .aload_n 0, 60, 0, 0, 0, []), (60, .getfield 45, 63, 11, 0, 0, [3, 2]), (63, .aload_n 0, 64, 0, 0, 0, []), (64, .getfield 49, 67, 11, 0, 0, [4, 2]), (67, .invokevirtual 151, 70, 0, 0, 0, [1, 4, 41]),
  (70, .iconst 0, 71, 0, 0, 0, []), (71, .istore_n 2, 72, 2, 0, 0, []), (72, .iload_n 2, 73, 2, 0, 0, []), (73, .iconst 3, 74, 0, 3, 0, []), (74, .if_icmp .ge 18, 77, 92, 0, 0, []), (77, .aload_n 0, 78, 0, 0, 0, []),
  (78, .getfield 52, 81, 11, 0, 0, [5, 2]), (81, .iload_n 2, 82, 2, 0, 0, []), (82, .aaload, 83, 5, 0, 0, []), (83, .invokevirtual 155, 86, 0, 0, 0, [0, 4, 32]), (86, .iinc 2 1, 89, 2, 1, 0, []), (89, .goto (-17), 92, 72, 0, 0, []),
  (92, .aload_n 0, 93, 0, 0, 0, []), (93, .getfield 45, 96, 11, 0, 0, [3, 2]), (96, .getfield 158, 99, 4, 0, 0, [9, 0]), (99, .ireturn, 100, 0, 0, 0, [])])
-- 41 DoorSold$Country.become(LDoorSold$Country;)V
def mx_41 : Mx := (⟨"DoorSold$Country", "become", "(LDoorSold$Country;)V"⟩, prog_6_method_6_code, 2, (none : Option FieldType), [
  (0, .aload_n 1, 1, 1, 0, 0, []), (1, .getfield 9, 4, 4, 0, 0, [1, 2]), (4, .iconst 0, 5, 0, 0, 0, []), (5, .aload_n 0, 6, 0, 0, 0, []), (6, .getfield 9, 9, 4, 0, 0, [1, 2]), (9, .iconst 0, 10, 0, 0, 0, []),
  (10, .bipush 6, 12, 0, 6, 0, []), (12, .invokestatic 69, 15, 0, 0, 0, [5]), (15, .aload_n 1, 16, 1, 0, 0, []), (16, .getfield 15, 19, 4, 0, 0, [2, 2]), (19, .iconst 0, 20, 0, 0, 0, []), (20, .aload_n 0, 21, 0, 0, 0, []),
  (21, .getfield 15, 24, 4, 0, 0, [2, 2]), (24, .iconst 0, 25, 0, 0, 0, []), (25, .bipush 6, 27, 0, 6, 0, []), (27, .invokestatic 69, 30, 0, 0, 0, [5]), (30, .aload_n 1, 31, 1, 0, 0, []), (31, .getfield 18, 34, 4, 0, 0, [3, 2]),
  (34, .iconst 0, 35, 0, 0, 0, []), (35, .aload_n 0, 36, 0, 0, 0, []), (36, .getfield 18, 39, 4, 0, 0, [3, 2]), (39, .iconst 0, 40, 0, 0, 0, []), (40, .bipush 6, 42, 0, 6, 0, []), (42, .invokestatic 69, 45, 0, 0, 0, [5]),
  (45, .aload_n 1, 46, 1, 0, 0, []), (46, .getfield 21, 49, 4, 0, 0, [4, 2]), (49, .iconst 0, 50, 0, 0, 0, []), (50, .aload_n 0, 51, 0, 0, 0, []), (51, .getfield 21, 54, 4, 0, 0, [4, 2]), (54, .iconst 0, 55, 0, 0, 0, []),
  (55, .bipush 6, 57, 0, 6, 0, []), (57, .invokestatic 69, 60, 0, 0, 0, [5]), (60, .aload_n 1, 61, 1, 0, 0, []), (61, .getfield 24, 64, 4, 0, 0, [5, 2]), (64, .iconst 0, 65, 0, 0, 0, []), (65, .aload_n 0, 66, 0, 0, 0, []),
  (66, .getfield 24, 69, 4, 0, 0, [5, 2]), (69, .iconst 0, 70, 0, 0, 0, []), (70, .bipush 6, 72, 0, 6, 0, []), (72, .invokestatic 69, 75, 0, 0, 0, [5]), (75, .aload_n 1, 76, 1, 0, 0, []), (76, .getfield 27, 79, 4, 0, 0, [6, 2]),
  (79, .iconst 0, 80, 0, 0, 0, []), (80, .aload_n 0, 81, 0, 0, 0, []), (81, .getfield 27, 84, 4, 0, 0, [6, 2]), (84, .iconst 0, 85, 0, 0, 0, []), (85, .bipush 6, 87, 0, 6, 0, []), (87, .invokestatic 69, 90, 0, 0, 0, [5]),
  (90, .aload_n 1, 91, 1, 0, 0, []), (91, .getfield 30, 94, 4, 0, 0, [7, 2]), (94, .iconst 0, 95, 0, 0, 0, []), (95, .aload_n 0, 96, 0, 0, 0, []), (96, .getfield 30, 99, 4, 0, 0, [7, 2]), (99, .iconst 0, 100, 0, 0, 0, []),
  (100, .bipush 40, 102, 0, 40, 0, []), (102, .invokestatic 69, 105, 0, 0, 0, [5]), (105, .aload_n 0, 106, 0, 0, 0, []), (106, .aload_n 1, 107, 1, 0, 0, []), (107, .getfield 33, 110, 4, 0, 0, [8, 0]), (110, .putfield 33, 113, 4, 0, 0, [8, 0]),
  (113, .aload_n 0, 114, 0, 0, 0, []), (114, .aload_n 1, 115, 1, 0, 0, []), (115, .getfield 37, 118, 4, 0, 0, [9, 0]), (118, .putfield 37, 121, 4, 0, 0, [9, 0]), (121, .aload_n 0, 122, 0, 0, 0, []), (122, .aload_n 1, 123, 1, 0, 0, []),
  (123, .getfield 40, 126, 4, 0, 0, [10, 0]), (126, .putfield 40, 129, 4, 0, 0, [10, 0]), (129, .aload_n 0, 130, 0, 0, 0, []), (130, .aload_n 1, 131, 1, 0, 0, []), (131, .getfield 43, 134, 4, 0, 0, [11, 0]), (134, .putfield 43, 137, 4, 0, 0, [11, 0]),
  (137, .aload_n 0, 138, 0, 0, 0, []), (138, .aload_n 1, 139, 1, 0, 0, []), (139, .getfield 46, 142, 4, 0, 0, [12, 0]), (142, .putfield 46, 145, 4, 0, 0, [12, 0]), (145, .aload_n 0, 146, 0, 0, 0, []), (146, .aload_n 1, 147, 1, 0, 0, []),
  (147, .getfield 49, 150, 4, 0, 0, [13, 0]), (150, .putfield 49, 153, 4, 0, 0, [13, 0]), (153, .aload_n 0, 154, 0, 0, 0, []), (154, .aload_n 1, 155, 1, 0, 0, []), (155, .getfield 52, 158, 4, 0, 0, [14, 0]), (158, .putfield 52, 161, 4, 0, 0, [14, 0]),
  (161, .aload_n 0, 162, 0, 0, 0, []), (162, .aload_n 1, 163, 1, 0, 0, []), (163, .getfield 55, 166, 4, 0, 0, [15, 0]), (166, .putfield 55, 169, 4, 0, 0, [15, 0]), (169, .return_, 170, 0, 0, 0, [])])
-- 42 DoorSold.door(II)I
def mx_42 : Mx := (⟨"DoorSold", "door", "(II)I"⟩, prog_1_method_12_code, 3, (Option.some FieldType.int), [
  (0, .aload_n 0, 1, 0, 0, 0, []), (1, .iload_n 1, 2, 1, 0, 0, []), (2, .invokevirtual 161, 5, 0, 0, 0, [1, 11, 43]), (5, .ifCond .ne 13, 8, 18, 0, 0, []), (8, .iload_n 2, 9, 2, 0, 0, []), (9, .ifCond .lt 9, 12, 18, 0, 0, []),
  (12, .iload_n 2, 13, 2, 0, 0, []), (13, .bipush 8, 15, 0, 8, 0, []), (15, .if_icmp .lt 5, 18, 20, 0, 0, []), (18, .iconst (-1), 19, 0, (-1), 0, []), (19, .ireturn, 20, 0, 0, 0, []), (20, .aload_n 0, 21, 0, 0, 0, []),
  (21, .aload_n 0, 22, 0, 0, 0, []), (22, .iload_n 1, 23, 1, 0, 0, []), (23, .iload_n 2, 24, 2, 0, 0, []), (24, .invokevirtual 164, 27, 0, 0, 0, [2, 11, 44]), (27, .putfield 88, 30, 11, 0, 0, [12, 0]), (30, .iconst 1, 31, 0, 1, 0, []),
  (31, .ireturn, 32, 0, 0, 0, [])])
-- 43 DoorSold.noDoor(I)Z
def mx_43 : Mx := (⟨"DoorSold", "noDoor", "(I)Z"⟩, prog_1_method_49_code, 2, (Option.some FieldType.boolean), [
  (0, .iload_n 1, 1, 1, 0, 0, []), (1, .ifCond .lt 14, 4, 15, 0, 0, []), (4, .iload_n 1, 5, 1, 0, 0, []), (5, .aload_n 0, 6, 0, 0, 0, []), (6, .getfield 45, 9, 11, 0, 0, [3, 2]), (9, .getfield 158, 12, 4, 0, 0, [9, 0]),
  (12, .if_icmp .lt 7, 15, 19, 0, 0, []), (15, .iconst 1, 16, 0, 1, 0, []), (16, .goto 4, 19, 20, 0, 0, []), (19, .iconst 0, 20, 0, 0, 0, []), (20, .ireturn, 21, 1, 0, 0, [])])
-- 44 DoorSold.factOf(II)I
def mx_44 : Mx := (⟨"DoorSold", "factOf", "(II)I"⟩, prog_1_method_54_code, 3, (Option.some FieldType.int), [
  (0, .iload_n 2, 1, 2, 0, 0, []), (1, .tableswitch 131 0 6 #[43, 53, 63, 73, 82, 98, 122], 44, 132, 0, 0, [44, 54, 64, 74, 83, 99, 123]), (44, .aload_n 0, 45, 0, 0, 0, []), (45, .getfield 45, 48, 11, 0, 0, [3, 2]), (48, .getfield 274, 51, 4, 0, 0, [1, 2]), (51, .iload_n 1, 52, 1, 0, 0, []),
  (52, .iaload, 53, 0, 0, 0, []), (53, .ireturn, 54, 0, 0, 0, []), (54, .aload_n 0, 55, 0, 0, 0, []), (55, .getfield 45, 58, 11, 0, 0, [3, 2]), (58, .getfield 217, 61, 4, 0, 0, [3, 2]), (61, .iload_n 1, 62, 1, 0, 0, []),
  (62, .iaload, 63, 0, 0, 0, []), (63, .ireturn, 64, 0, 0, 0, []), (64, .aload_n 0, 65, 0, 0, 0, []), (65, .getfield 45, 68, 11, 0, 0, [3, 2]), (68, .getfield 277, 71, 4, 0, 0, [4, 2]), (71, .iload_n 1, 72, 1, 0, 0, []),
  (72, .iaload, 73, 0, 0, 0, []), (73, .ireturn, 74, 0, 0, 0, []), (74, .aload_n 0, 75, 0, 0, 0, []), (75, .getfield 45, 78, 11, 0, 0, [3, 2]), (78, .iload_n 1, 79, 1, 0, 0, []), (79, .invokevirtual 176, 82, 0, 0, 0, [1, 4, 45]),
  (82, .ireturn, 83, 0, 0, 0, []), (83, .aload_n 0, 84, 0, 0, 0, []), (84, .getfield 45, 87, 11, 0, 0, [3, 2]), (87, .iload_n 1, 88, 1, 0, 0, []), (88, .aload_n 0, 89, 0, 0, 0, []), (89, .getfield 45, 92, 11, 0, 0, [3, 2]),
  (92, .getfield 184, 95, 4, 0, 0, [13, 0]), (95, .invokevirtual 193, 98, 0, 0, 0, [2, 4, 51]), (98, .ireturn, 99, 0, 0, 0, []), (99, .aload_n 0, 100, 0, 0, 0, []), (100, .getfield 45, 103, 11, 0, 0, [3, 2]), (103, .iload_n 1, 104, 1, 0, 0, []),
  (104, .aload_n 0, 105, 0, 0, 0, []), (105, .getfield 45, 108, 11, 0, 0, [3, 2]), (108, .getfield 184, 111, 4, 0, 0, [13, 0]), (111, .invokevirtual 337, 114, 0, 0, 0, [2, 4, 57]), (114, .ifCond .eq 7, 117, 121, 0, 0, []), (117, .iconst 1, 118, 0, 1, 0, []),
  (118, .goto 4, 121, 122, 0, 0, []), (121, .iconst 0, 122, 0, 0, 0, []), (122, .ireturn, 123, 0, 0, 0, []), (123, .aload_n 0, 124, 0, 0, 0, []), (124, .getfield 45, 127, 11, 0, 0, [3, 2]), (127, .iload_n 1, 128, 1, 0, 0, []),
  (128, .invokevirtual 340, 131, 0, 0, 0, [1, 4, 61]), (131, .ireturn, 132, 0, 0, 0, []), (132, .aload_n 0, 133, 0, 0, 0, []), (133, .getfield 45, 136, 11, 0, 0, [3, 2]), (136, .iload_n 1, 137, 1, 0, 0, []), (137, .invokevirtual 211, 140, 0, 0, 0, [1, 4, 66]),
  (140, .ifCond .eq 7, 143, 147, 0, 0, []), (143, .iconst 1, 144, 0, 1, 0, []), (144, .goto 4, 147, 148, 0, 0, []), (147, .iconst 0, 148, 0, 0, 0, []), (148, .ireturn, 149, 0, 0, 0, [])])
-- 45 DoorSold$Country.costOf(I)I
def mx_45 : Mx := (⟨"DoorSold$Country", "costOf", "(I)I"⟩, prog_6_method_19_code, 2, (Option.some FieldType.int), [
  (0, .aload_n 0, 1, 0, 0, 0, []), (1, .aload_n 0, 2, 0, 0, 0, []), (2, .getfield 9, 5, 4, 0, 0, [1, 2]), (5, .iload_n 1, 6, 1, 0, 0, []), (6, .iaload, 7, 0, 0, 0, []), (7, .invokevirtual 108, 10, 0, 0, 0, [1, 4, 46]),
  (10, .aload_n 0, 11, 0, 0, 0, []), (11, .getfield 15, 14, 4, 0, 0, [2, 2]), (14, .iload_n 1, 15, 1, 0, 0, []), (15, .iaload, 16, 0, 0, 0, []), (16, .invokevirtual 138, 19, 0, 0, 0, [1, 6, 50, 5, 50, 0, 47, 1, 48, 9, 49, 2, 50]), (19, .ireturn, 20, 0, 0, 0, [])])
-- 46 DoorSold$Country.numbered(I)LDoorSold$Kind;
def mx_46 : Mx := (⟨"DoorSold$Country", "numbered", "(I)LDoorSold$Kind;"⟩, prog_6_method_13_code, 2, (Option.some (FieldType.object "DoorSold$Kind")), [
  (0, .iload_n 1, 1, 1, 0, 0, []), (1, .ifCond .lt 21, 4, 22, 0, 0, []), (4, .iload_n 1, 5, 1, 0, 0, []), (5, .aload_n 0, 6, 0, 0, 0, []), (6, .getfield 58, 9, 4, 0, 0, [0, 2]), (9, .arraylength, 10, 4, 0, 0, []),
  (10, .if_icmp .ge 12, 13, 22, 0, 0, []), (13, .aload_n 0, 14, 0, 0, 0, []), (14, .getfield 58, 17, 4, 0, 0, [0, 2]), (17, .iload_n 1, 18, 1, 0, 0, []), (18, .aaload, 19, 4, 0, 0, []), (19, .goto 9, 22, 28, 0, 0, []),
  (22, .aload_n 0, 23, 0, 0, 0, []), (23, .getfield 58, 26, 4, 0, 0, [0, 2]), (26, .iconst 0, 27, 0, 0, 0, []), (27, .aaload, 28, 4, 0, 0, []), (28, .areturn, 29, 0, 0, 0, [])])
-- 47 DoorSold$Back.cost(I)I
def mx_47 : Mx := (⟨"DoorSold$Back", "cost", "(I)I"⟩, prog_2_method_4_code, 2, (Option.some FieldType.int), [
  (0, .iload_n 1, 1, 1, 0, 0, []), (1, .iconst 2, 2, 0, 2, 0, []), (2, .idiv, 3, 0, 0, 0, []), (3, .ireturn, 4, 0, 0, 0, [])])
-- 48 DoorSold$Bricked.cost(I)I
def mx_48 : Mx := (⟨"DoorSold$Bricked", "cost", "(I)I"⟩, prog_3_method_3_code, 2, (Option.some FieldType.int), [
  (0, .iconst 1, 1, 0, 1, 0, []), (1, .ireturn, 2, 0, 0, 0, [])])
-- 49 DoorSold$Study.cost(I)I
def mx_49 : Mx := (⟨"DoorSold$Study", "cost", "(I)I"⟩, prog_11_method_3_code, 2, (Option.some FieldType.int), [
  (0, .aload_n 0, 1, 0, 0, 0, []), (1, .iload_n 1, 2, 1, 0, 0, []), (2, .invokespecial 11, 5, 47, 0, 0, [4, 1, 9]), (5, .iconst 3, 6, 0, 3, 0, []), (6, .iadd, 7, 0, 0, 0, []), (7, .ireturn, 8, 0, 0, 0, [])])
-- 50 DoorSold$Kind.cost(I)I
def mx_50 : Mx := (⟨"DoorSold$Kind", "cost", "(I)I"⟩, prog_8_method_6_code, 2, (Option.some FieldType.int), [
  (0, .iload_n 1, 1, 1, 0, 0, []), (1, .ireturn, 2, 0, 0, 0, [])])
-- 51 DoorSold$Country.entryOf(II)I
def mx_51 : Mx := (⟨"DoorSold$Country", "entryOf", "(II)I"⟩, prog_6_method_15_code, 3, (Option.some FieldType.int), [
  (0, .aload_n 0, 1, 0, 0, 0, []), (1, .aload_n 0, 2, 0, 0, 0, []), (2, .aload_n 0, 3, 0, 0, 0, []), (3, .getfield 9, 6, 4, 0, 0, [1, 2]), (6, .iload_n 1, 7, 1, 0, 0, []), (7, .iaload, 8, 0, 0, 0, []),
  (8, .invokevirtual 108, 11, 0, 0, 0, [1, 4, 46]), (11, .aload_n 0, 12, 0, 0, 0, []), (12, .getfield 18, 15, 4, 0, 0, [3, 2]), (15, .iload_n 1, 16, 1, 0, 0, []), (16, .iaload, 17, 0, 0, 0, []), (17, .aload_n 0, 18, 0, 0, 0, []),
  (18, .getfield 21, 21, 4, 0, 0, [4, 2]), (21, .iload_n 1, 22, 1, 0, 0, []), (22, .iaload, 23, 0, 0, 0, []), (23, .iload_n 2, 24, 2, 0, 0, []), (24, .invokevirtual 122, 27, 0, 0, 0, [3, 6, 54, 5, 54, 0, 52, 1, 54, 9, 52, 2, 53]), (27, .invokevirtual 79, 30, 0, 0, 0, [1, 4, 55]),
  (30, .ireturn, 31, 0, 0, 0, [])])
-- 52 DoorSold$Back.entry(III)I
def mx_52 : Mx := (⟨"DoorSold$Back", "entry", "(III)I"⟩, prog_2_method_2_code, 4, (Option.some FieldType.int), [
  (0, .iload_n 2, 1, 2, 0, 0, []), (1, .ireturn, 2, 0, 0, 0, [])])
-- 53 DoorSold$Cart.entry(III)I
def mx_53 : Mx := (⟨"DoorSold$Cart", "entry", "(III)I"⟩, prog_4_method_2_code, 4, (Option.some FieldType.int), [
  (0, .iload_n 1, 1, 1, 0, 0, []), (1, .iload_n 3, 2, 3, 0, 0, []), (2, .iadd, 3, 0, 0, 0, []), (3, .ireturn, 4, 0, 0, 0, [])])
-- 54 DoorSold$Kind.entry(III)I
def mx_54 : Mx := (⟨"DoorSold$Kind", "entry", "(III)I"⟩, prog_8_method_2_code, 4, (Option.some FieldType.int), [
  (0, .iload_n 1, 1, 1, 0, 0, []), (1, .ireturn, 2, 0, 0, 0, [])])
-- 55 DoorSold$Country.ring(I)I
def mx_55 : Mx := (⟨"DoorSold$Country", "ring", "(I)I"⟩, prog_6_method_11_code, 2, (Option.some FieldType.int), [
  (0, .aload_n 0, 1, 0, 0, 0, []), (1, .getfield 33, 4, 4, 0, 0, [8, 0]), (4, .ifCond .le 14, 7, 18, 0, 0, []), (7, .iload_n 1, 8, 1, 0, 0, []), (8, .aload_n 0, 9, 0, 0, 0, []), (9, .getfield 33, 12, 4, 0, 0, [8, 0]),
  (12, .invokestatic 102, 15, 56, 0, 0, [0, 2]), (15, .goto 4, 18, 19, 0, 0, []), (18, .iconst 0, 19, 0, 0, 0, []), (19, .ireturn, 20, 0, 0, 0, [])])
-- 56 java/lang/Math.floorMod(II)I
def mx_56 : Mx := (⟨"java/lang/Math", "floorMod", "(II)I"⟩, prog_16_method_50_code, 3, (Option.some FieldType.int), [
  (0, .iload_n 0, 1, 0, 0, 0, []), (1, .iload_n 1, 2, 1, 0, 0, []), (2, .irem, 3, 0, 0, 0, []), (3, .istore_n 2, 4, 2, 0, 0, []), (4, .iload_n 0, 5, 0, 0, 0, []), (5, .iload_n 1, 6, 1, 0, 0, []),
  (6, .ixor, 7, 0, 0, 0, []), (7, .ifCond .ge 11, 10, 18, 0, 0, []), (10, .iload_n 2, 11, 2, 0, 0, []), (11, .ifCond .eq 7, 14, 18, 0, 0, []), (14, .iload_n 2, 15, 2, 0, 0, []), (15, .iload_n 1, 16, 1, 0, 0, []),
  (16, .iadd, 17, 0, 0, 0, []), (17, .ireturn, 18, 0, 0, 0, []), (18, .iload_n 2, 19, 2, 0, 0, []), (19, .ireturn, 20, 0, 0, 0, [])])
-- 57 DoorSold$Country.isOpen(II)Z
def mx_57 : Mx := (⟨"DoorSold$Country", "isOpen", "(II)Z"⟩, prog_6_method_17_code, 3, (Option.some FieldType.boolean), [
  (0, .aload_n 0, 1, 0, 0, 0, []), (1, .aload_n 0, 2, 0, 0, 0, []), (2, .getfield 9, 5, 4, 0, 0, [1, 2]), (5, .iload_n 1, 6, 1, 0, 0, []), (6, .iaload, 7, 0, 0, 0, []), (7, .invokevirtual 108, 10, 0, 0, 0, [1, 4, 46]),
  (10, .iload_n 2, 11, 2, 0, 0, []), (11, .invokevirtual 131, 14, 0, 0, 0, [1, 6, 60, 5, 59, 0, 60, 1, 58, 9, 60, 2, 59]), (14, .ireturn, 15, 1, 0, 0, [])])
-- 58 DoorSold$Bricked.opensIn(I)Z
def mx_58 : Mx := (⟨"DoorSold$Bricked", "opensIn", "(I)Z"⟩, prog_3_method_2_code, 2, (Option.some FieldType.boolean), [
  (0, .iload_n 1, 1, 1, 0, 0, []), (1, .iconst 3, 2, 0, 3, 0, []), (2, .irem, 3, 0, 0, 0, []), (3, .ifCond .ne 7, 6, 10, 0, 0, []), (6, .iconst 1, 7, 0, 1, 0, []), (7, .goto 4, 10, 11, 0, 0, []),
  (10, .iconst 0, 11, 0, 0, 0, []), (11, .ireturn, 12, 1, 0, 0, [])])
-- 59 DoorSold$Dutch.opensIn(I)Z
def mx_59 : Mx := (⟨"DoorSold$Dutch", "opensIn", "(I)Z"⟩, prog_7_method_2_code, 2, (Option.some FieldType.boolean), [
  (0, .iload_n 1, 1, 1, 0, 0, []), (1, .iconst 2, 2, 0, 2, 0, []), (2, .irem, 3, 0, 0, 0, []), (3, .ifCond .ne 7, 6, 10, 0, 0, []), (6, .iconst 1, 7, 0, 1, 0, []), (7, .goto 4, 10, 11, 0, 0, []),
  (10, .iconst 0, 11, 0, 0, 0, []), (11, .ireturn, 12, 1, 0, 0, [])])
-- 60 DoorSold$Kind.opensIn(I)Z
def mx_60 : Mx := (⟨"DoorSold$Kind", "opensIn", "(I)Z"⟩, prog_8_method_4_code, 2, (Option.some FieldType.boolean), [
  (0, .iconst 1, 1, 0, 1, 0, []), (1, .ireturn, 2, 1, 0, 0, [])])
-- 61 DoorSold$Country.hoursOf(I)I
def mx_61 : Mx := (⟨"DoorSold$Country", "hoursOf", "(I)I"⟩, prog_6_method_18_code, 2, (Option.some FieldType.int), [
  (0, .aload_n 0, 1, 0, 0, 0, []), (1, .aload_n 0, 2, 0, 0, 0, []), (2, .getfield 9, 5, 4, 0, 0, [1, 2]), (5, .iload_n 1, 6, 1, 0, 0, []), (6, .iaload, 7, 0, 0, 0, []), (7, .invokevirtual 108, 10, 0, 0, 0, [1, 4, 46]),
  (10, .invokevirtual 134, 13, 0, 0, 0, [0, 6, 65, 5, 63, 0, 65, 1, 65, 9, 64, 2, 62]), (13, .ireturn, 14, 0, 0, 0, [])])
-- 62 DoorSold$Cart.hours()I
def mx_62 : Mx := (⟨"DoorSold$Cart", "hours", "()I"⟩, prog_4_method_3_code, 1, (Option.some FieldType.int), [
  (0, .aload_n 0, 1, 0, 0, 0, []), (1, .invokespecial 7, 4, 63, 0, 0, [4, 0, 2]), (4, .iconst 1, 5, 0, 1, 0, []), (5, .isub, 6, 0, 0, 0, []), (6, .ireturn, 7, 0, 0, 0, [])])
-- 63 DoorSold$Dutch.hours()I
def mx_63 : Mx := (⟨"DoorSold$Dutch", "hours", "()I"⟩, prog_7_method_3_code, 1, (Option.some FieldType.int), [
  (0, .iconst 2, 1, 0, 2, 0, []), (1, .ireturn, 2, 0, 0, 0, [])])
-- 64 DoorSold$Study.hours()I
def mx_64 : Mx := (⟨"DoorSold$Study", "hours", "()I"⟩, prog_11_method_2_code, 1, (Option.some FieldType.int), [
  (0, .aload_n 0, 1, 0, 0, 0, []), (1, .invokespecial 7, 4, 65, 0, 0, [7, 0, 9]), (4, .iconst 2, 5, 0, 2, 0, []), (5, .iadd, 6, 0, 0, 0, []), (6, .ireturn, 7, 0, 0, 0, [])])
-- 65 DoorSold$Kind.hours()I
def mx_65 : Mx := (⟨"DoorSold$Kind", "hours", "()I"⟩, prog_8_method_5_code, 1, (Option.some FieldType.int), [
  (0, .iconst 1, 1, 0, 1, 0, []), (1, .ireturn, 2, 0, 0, 0, [])])
-- 66 DoorSold$Country.owns(I)Z
def mx_66 : Mx := (⟨"DoorSold$Country", "owns", "(I)Z"⟩, prog_6_method_21_code, 2, (Option.some FieldType.boolean), [
  (0, .aload_n 0, 1, 0, 0, 0, []), (1, .getfield 52, 4, 4, 0, 0, [14, 0]), (4, .iload_n 1, 5, 1, 0, 0, []), (5, .ishr, 6, 0, 0, 0, []), (6, .iconst 1, 7, 0, 1, 0, []), (7, .iand, 8, 0, 0, 0, []),
  (8, .iconst 1, 9, 0, 1, 0, []), (9, .if_icmp .ne 7, 12, 16, 0, 0, []), (12, .iconst 1, 13, 0, 1, 0, []), (13, .goto 4, 16, 17, 0, 0, []), (16, .iconst 0, 17, 0, 0, 0, []), (17, .ireturn, 18, 1, 0, 0, [])])
-- 67 DoorSold.mark(II)I
def mx_67 : Mx := (⟨"DoorSold", "mark", "(II)I"⟩, prog_1_method_13_code, 3, (Option.some FieldType.int), [
  (0, .aload_n 0, 1, 0, 0, 0, []), (1, .iload_n 1, 2, 1, 0, 0, []), (2, .invokevirtual 161, 5, 0, 0, 0, [1, 11, 43]), (5, .ifCond .ne 14, 8, 19, 0, 0, []), (8, .iload_n 2, 9, 2, 0, 0, []), (9, .iconst 1, 10, 0, 1, 0, []),
  (10, .if_icmp .lt 9, 13, 19, 0, 0, []), (13, .iload_n 2, 14, 2, 0, 0, []), (14, .bipush 6, 16, 0, 6, 0, []), (16, .if_icmp .lt 5, 19, 21, 0, 0, []), (19, .iconst (-1), 20, 0, (-1), 0, []), (20, .ireturn, 21, 0, 0, 0, []),
  (21, .aload_n 0, 22, 0, 0, 0, []), (22, .getfield 45, 25, 11, 0, 0, [3, 2]), (25, .iload_n 1, 26, 1, 0, 0, []), (26, .iload_n 2, 27, 2, 0, 0, []), (27, .invokevirtual 167, 30, 0, 0, 0, [2, 4, 68]), (30, .ifCond .ne 9, 33, 39, 0, 0, []),
  (33, .aload_n 0, 34, 0, 0, 0, []), (34, .iconst 3, 35, 0, 3, 0, []), (35, .invokevirtual 105, 38, 0, 0, 0, [1, 11, 15]), (38, .ireturn, 39, 0, 0, 0, []), (39, .iload_n 2, 40, 2, 0, 0, []), (40, .tableswitch 108 1 4 #[32, 38, 61, 74], 72, 148, 0, 0, [72, 78, 101, 114]),
  (72, .aload_n 0, 73, 0, 0, 0, []), (73, .iload_n 1, 74, 1, 0, 0, []), (74, .invokevirtual 170, 77, 0, 0, 0, [1, 11, 69]), (77, .ireturn, 78, 0, 0, 0, []), (78, .iconst 0, 79, 0, 0, 0, []), (79, .aload_n 0, 80, 0, 0, 0, []),
  (80, .getfield 45, 83, 11, 0, 0, [3, 2]), (83, .getfield 173, 86, 4, 0, 0, [2, 2]), (86, .iload_n 1, 87, 1, 0, 0, []), (87, .iaload, 88, 0, 0, 0, []), (88, .aload_n 0, 89, 0, 0, 0, []), (89, .getfield 45, 92, 11, 0, 0, [3, 2]),
  (92, .iload_n 1, 93, 1, 0, 0, []), (93, .invokevirtual 176, 96, 0, 0, 0, [1, 4, 45]), (96, .isub, 97, 0, 0, 0, []), (97, .invokestatic 179, 100, 12, 0, 0, [0, 2]), (100, .ireturn, 101, 0, 0, 0, []), (101, .aload_n 0, 102, 0, 0, 0, []),
  (102, .getfield 45, 105, 11, 0, 0, [3, 2]), (105, .getfield 184, 108, 4, 0, 0, [13, 0]), (108, .ineg, 109, 0, 0, 0, []), (109, .iconst 3, 110, 0, 3, 0, []), (110, .invokestatic 187, 113, 56, 0, 0, [0, 2]), (113, .ireturn, 114, 0, 0, 0, []),
  (114, .iconst 3, 115, 0, 3, 0, []), (115, .aload_n 0, 116, 0, 0, 0, []), (116, .getfield 45, 119, 11, 0, 0, [3, 2]), (119, .aload_n 0, 120, 0, 0, 0, []), (120, .getfield 45, 123, 11, 0, 0, [3, 2]), (123, .iload_n 1, 124, 1, 0, 0, []),
  (124, .invokevirtual 190, 127, 0, 0, 0, [1, 4, 70]), (127, .aload_n 0, 128, 0, 0, 0, []), (128, .getfield 45, 131, 11, 0, 0, [3, 2]), (131, .iload_n 1, 132, 1, 0, 0, []), (132, .aload_n 0, 133, 0, 0, 0, []), (133, .getfield 45, 136, 11, 0, 0, [3, 2]),
  (136, .getfield 184, 139, 4, 0, 0, [13, 0]), (139, .invokevirtual 193, 142, 0, 0, 0, [2, 4, 51]), (142, .isub, 143, 0, 0, 0, []), (143, .invokevirtual 196, 146, 0, 0, 0, [1, 4, 55]), (146, .imul, 147, 0, 0, 0, []), (147, .ireturn, 148, 0, 0, 0, []),
  (148, .aload_n 0, 149, 0, 0, 0, []), (149, .getfield 45, 152, 11, 0, 0, [3, 2]), (152, .aload_n 0, 153, 0, 0, 0, []), (153, .getfield 45, 156, 11, 0, 0, [3, 2]), (156, .getfield 199, 159, 4, 0, 0, [12, 0]), (159, .aload_n 0, 160, 0, 0, 0, []),
  (160, .getfield 45, 163, 11, 0, 0, [3, 2]), (163, .iload_n 1, 164, 1, 0, 0, []), (164, .aload_n 0, 165, 0, 0, 0, []), (165, .getfield 45, 168, 11, 0, 0, [3, 2]), (168, .getfield 184, 171, 4, 0, 0, [13, 0]), (171, .invokevirtual 193, 174, 0, 0, 0, [2, 4, 51]),
  (174, .isub, 175, 0, 0, 0, []), (175, .invokevirtual 196, 178, 0, 0, 0, [1, 4, 55]), (178, .ireturn, 179, 0, 0, 0, [])])
-- 68 DoorSold$Country.isOf(II)Z
def mx_68 : Mx := (⟨"DoorSold$Country", "isOf", "(II)Z"⟩, prog_6_method_14_code, 4, (Option.some FieldType.boolean), [
  (0, .aload_n 0, 1, 0, 0, 0, []), (1, .aload_n 0, 2, 0, 0, 0, []), (2, .getfield 9, 5, 4, 0, 0, [1, 2]), (5, .iload_n 1, 6, 1, 0, 0, []), (6, .iaload, 7, 0, 0, 0, []), (7, .invokevirtual 108, 10, 0, 0, 0, [1, 4, 46]),
  (10, .astore_n 3, 11, 3, 0, 0, []), (11, .iload_n 2, 12, 2, 0, 0, []), (12, .tableswitch 61 1 5 #[36, 41, 46, 51, 56], 48, 73, 0, 0, [48, 53, 58, 63, 68]), (48, .aload_n 3, 49, 3, 0, 0, []), (49, .instanceof 112, 52, 2, 0, 0, [5, 2, 6, 0, 1, 9]), (52, .ireturn, 53, 1, 0, 0, []),
  (53, .aload_n 3, 54, 3, 0, 0, []), (54, .instanceof 114, 57, 2, 0, 0, [0, 9, 6, 5, 1, 2]), (57, .ireturn, 58, 1, 0, 0, []), (58, .aload_n 3, 59, 3, 0, 0, []), (59, .instanceof 116, 62, 1, 0, 0, [1, 6, 5, 0, 9, 2]), (62, .ireturn, 63, 1, 0, 0, []),
  (63, .aload_n 3, 64, 3, 0, 0, []), (64, .instanceof 118, 67, 1, 0, 0, [9, 6, 5, 0, 1, 2]), (67, .ireturn, 68, 1, 0, 0, []), (68, .aload_n 3, 69, 3, 0, 0, []), (69, .instanceof 120, 72, 1, 0, 0, [2, 6, 5, 0, 1, 9]), (72, .ireturn, 73, 1, 0, 0, []),
  (73, .iconst 1, 74, 0, 1, 0, []), (74, .ireturn, 75, 1, 0, 0, [])])
-- 69 DoorSold.otherOpenDoors(I)I
def mx_69 : Mx := (⟨"DoorSold", "otherOpenDoors", "(I)I"⟩, prog_1_method_55_code, 4, (Option.some FieldType.int), [
  (0, .iconst 0, 1, 0, 0, 0, []), (1, .istore_n 2, 2, 2, 0, 0, []), (2, .iconst 0, 3, 0, 0, 0, []), (3, .istore_n 3, 4, 3, 0, 0, []), (4, .iload_n 3, 5, 3, 0, 0, []), (5, .aload_n 0, 6, 0, 0, 0, []),
  (6, .getfield 45, 9, 11, 0, 0, [3, 2]), (9, .getfield 158, 12, 4, 0, 0, [9, 0]), (12, .if_icmp .ge 35, 15, 47, 0, 0, []), (15, .iload_n 3, 16, 3, 0, 0, []), (16, .iload_n 1, 17, 1, 0, 0, []), (17, .if_icmp .eq 24, 20, 41, 0, 0, []),
  (20, .aload_n 0, 21, 0, 0, 0, []), (21, .getfield 45, 24, 11, 0, 0, [3, 2]), (24, .iload_n 3, 25, 3, 0, 0, []), (25, .aload_n 0, 26, 0, 0, 0, []), (26, .getfield 45, 29, 11, 0, 0, [3, 2]), (29, .getfield 184, 32, 4, 0, 0, [13, 0]),
  (32, .invokevirtual 337, 35, 0, 0, 0, [2, 4, 57]), (35, .ifCond .eq 6, 38, 41, 0, 0, []), (38, .iinc 2 1, 41, 2, 1, 0, []), (41, .iinc 3 1, 44, 3, 1, 0, []), (44, .goto (-40), 47, 4, 0, 0, []), (47, .iload_n 2, 48, 2, 0, 0, []),
  (48, .ireturn, 49, 0, 0, 0, [])])
-- 70 DoorSold$Country.exitOf(I)I
def mx_70 : Mx := (⟨"DoorSold$Country", "exitOf", "(I)I"⟩, prog_6_method_16_code, 2, (Option.some FieldType.int), [
  (0, .aload_n 0, 1, 0, 0, 0, []), (1, .aload_n 0, 2, 0, 0, 0, []), (2, .getfield 9, 5, 4, 0, 0, [1, 2]), (5, .iload_n 1, 6, 1, 0, 0, []), (6, .iaload, 7, 0, 0, 0, []), (7, .invokevirtual 108, 10, 0, 0, 0, [1, 4, 46]),
  (10, .aload_n 0, 11, 0, 0, 0, []), (11, .getfield 18, 14, 4, 0, 0, [3, 2]), (14, .iload_n 1, 15, 1, 0, 0, []), (15, .iaload, 16, 0, 0, 0, []), (16, .aload_n 0, 17, 0, 0, 0, []), (17, .getfield 21, 20, 4, 0, 0, [4, 2]),
  (20, .iload_n 1, 21, 1, 0, 0, []), (21, .iaload, 22, 0, 0, 0, []), (22, .invokevirtual 128, 25, 0, 0, 0, [2, 6, 72, 5, 72, 0, 71, 1, 72, 9, 71, 2, 72]), (25, .ireturn, 26, 0, 0, 0, [])])
-- 71 DoorSold$Back.exit(II)I
def mx_71 : Mx := (⟨"DoorSold$Back", "exit", "(II)I"⟩, prog_2_method_3_code, 3, (Option.some FieldType.int), [
  (0, .iload_n 1, 1, 1, 0, 0, []), (1, .ireturn, 2, 0, 0, 0, [])])
-- 72 DoorSold$Kind.exit(II)I
def mx_72 : Mx := (⟨"DoorSold$Kind", "exit", "(II)I"⟩, prog_8_method_3_code, 3, (Option.some FieldType.int), [
  (0, .iload_n 2, 1, 2, 0, 0, []), (1, .ireturn, 2, 0, 0, 0, [])])
-- 73 DoorSold.road()I
def mx_73 : Mx := (⟨"DoorSold", "road", "()I"⟩, prog_1_method_14_code, 1, (Option.some FieldType.int), [
  (0, .aload_n 0, 1, 0, 0, 0, []), (1, .getfield 45, 4, 11, 0, 0, [3, 2]), (4, .getfield 158, 7, 4, 0, 0, [9, 0]), (7, .ifCond .ne 6, 10, 13, 0, 0, []), (10, .bipush (-4), 12, 0, (-4), 0, []), (12, .ireturn, 13, 0, 0, 0, []),
  (13, .aload_n 0, 14, 0, 0, 0, []), (14, .getfield 45, 17, 11, 0, 0, [3, 2]), (17, .iconst 1, 18, 0, 1, 0, []), (18, .invokevirtual 202, 21, 0, 0, 0, [1, 4, 74]), (21, .ifCond .ne 6, 24, 27, 0, 0, []), (24, .bipush (-2), 26, 0, (-2), 0, []),
  (26, .ireturn, 27, 0, 0, 0, []), (27, .aload_n 0, 28, 0, 0, 0, []), (28, .getfield 45, 31, 11, 0, 0, [3, 2]), (31, .bipush 6, 33, 0, 6, 0, []), (33, .invokevirtual 205, 36, 0, 0, 0, [1, 4, 75]), (36, .aload_n 0, 37, 0, 0, 0, []),
  (37, .getfield 45, 40, 11, 0, 0, [3, 2]), (40, .getfield 199, 43, 4, 0, 0, [12, 0]), (43, .ireturn, 44, 0, 0, 0, [])])
-- 74 DoorSold$Country.hasRoomFor(I)Z
def mx_74 : Mx := (⟨"DoorSold$Country", "hasRoomFor", "(I)Z"⟩, prog_6_method_7_code, 2, (Option.some FieldType.boolean), [
  (0, .aload_n 0, 1, 0, 0, 0, []), (1, .getfield 55, 4, 4, 0, 0, [15, 0]), (4, .iload_n 1, 5, 1, 0, 0, []), (5, .iadd, 6, 0, 0, 0, []), (6, .bipush 40, 8, 0, 40, 0, []), (8, .if_icmp .gt 7, 11, 15, 0, 0, []),
  (11, .iconst 1, 12, 0, 1, 0, []), (12, .goto 4, 15, 16, 0, 0, []), (15, .iconst 0, 16, 0, 0, 0, []), (16, .ireturn, 17, 1, 0, 0, [])])
-- 75 DoorSold$Country.perform(I)V
def mx_75 : Mx := (⟨"DoorSold$Country", "perform", "(I)V"⟩, prog_6_method_8_code, 2, (none : Option FieldType), [
  (0, .aload_n 0, 1, 0, 0, 0, []), (1, .iconst 1, 2, 0, 1, 0, []), (2, .invokevirtual 75, 5, 0, 0, 0, [1, 4, 74]), (5, .ifCond .ne 4, 8, 9, 0, 0, []), (8, .return_, 9, 0, 0, 0, []), (9, .aload_n 0, 10, 0, 0, 0, []),
  (10, .getfield 30, 13, 4, 0, 0, [7, 2]), (13, .aload_n 0, 14, 0, 0, 0, []), (14, .getfield 55, 17, 4, 0, 0, [15, 0]), (17, .iload_n 1, 18, 1, 0, 0, []), (18, .iastore, 19, 0, 0, 0, []), (19, .aload_n 0, 20, 0, 0, 0, []),
  (20, .dup, 21, 0, 0, 0, []), (21, .getfield 55, 24, 4, 0, 0, [15, 0]), (24, .iconst 1, 25, 0, 1, 0, []), (25, .iadd, 26, 0, 0, 0, []), (26, .putfield 55, 29, 4, 0, 0, [15, 0]), (29, .iload_n 1, 30, 1, 0, 0, []),
  (30, .bipush 6, 32, 0, 6, 0, []), (32, .if_icmp .ne 30, 35, 62, 0, 0, []), (35, .aload_n 0, 36, 0, 0, 0, []), (36, .aload_n 0, 37, 0, 0, 0, []), (37, .aload_n 0, 38, 0, 0, 0, []), (38, .getfield 46, 41, 4, 0, 0, [12, 0]),
  (41, .iconst 1, 42, 0, 1, 0, []), (42, .iadd, 43, 0, 0, 0, []), (43, .invokevirtual 79, 46, 0, 0, 0, [1, 4, 55]), (46, .putfield 46, 49, 4, 0, 0, [12, 0]), (49, .aload_n 0, 50, 0, 0, 0, []), (50, .dup, 51, 0, 0, 0, []),
  (51, .getfield 49, 54, 4, 0, 0, [13, 0]), (54, .iconst 3, 55, 0, 3, 0, []), (55, .iadd, 56, 0, 0, 0, []), (56, .putfield 49, 59, 4, 0, 0, [13, 0]), (59, .goto 130, 62, 189, 0, 0, []), (62, .iload_n 1, 63, 1, 0, 0, []),
  (63, .bipush 7, 65, 0, 7, 0, []), (65, .if_icmp .ne 16, 68, 81, 0, 0, []), (68, .aload_n 0, 69, 0, 0, 0, []), (69, .dup, 70, 0, 0, 0, []), (70, .getfield 49, 73, 4, 0, 0, [13, 0]), (73, .iconst 1, 74, 0, 1, 0, []),
  (74, .iadd, 75, 0, 0, 0, []), (75, .putfield 49, 78, 4, 0, 0, [13, 0]), (78, .goto 111, 81, 189, 0, 0, []), (81, .iload_n 1, 82, 1, 0, 0, []), (82, .bipush 24, 84, 0, 24, 0, []), (84, .if_icmp .lt 14, 87, 98, 0, 0, []),
  (87, .aload_n 0, 88, 0, 0, 0, []), (88, .iload_n 1, 89, 1, 0, 0, []), (89, .bipush 24, 91, 0, 24, 0, []), (91, .isub, 92, 0, 0, 0, []), (92, .invokevirtual 83, 95, 0, 0, 0, [1, 4, 76]), (95, .goto 94, 98, 189, 0, 0, []),
  (98, .iload_n 1, 99, 1, 0, 0, []), (99, .bipush 16, 101, 0, 16, 0, []), (101, .if_icmp .lt 42, 104, 143, 0, 0, []), (104, .aload_n 0, 105, 0, 0, 0, []), (105, .dup, 106, 0, 0, 0, []), (106, .getfield 52, 109, 4, 0, 0, [14, 0]),
  (109, .iconst 1, 110, 0, 1, 0, []), (110, .iload_n 1, 111, 1, 0, 0, []), (111, .bipush 16, 113, 0, 16, 0, []), (113, .isub, 114, 0, 0, 0, []), (114, .ishl, 115, 0, 0, 0, []), (115, .iconst (-1), 116, 0, (-1), 0, []),
  (116, .ixor, 117, 0, 0, 0, []), (117, .iand, 118, 0, 0, 0, []), (118, .putfield 52, 121, 4, 0, 0, [14, 0]), (121, .aload_n 0, 122, 0, 0, 0, []), (122, .dup, 123, 0, 0, 0, []), (123, .getfield 43, 126, 4, 0, 0, [11, 0]),
  (126, .aload_n 0, 127, 0, 0, 0, []), (127, .iload_n 1, 128, 1, 0, 0, []), (128, .bipush 16, 130, 0, 16, 0, []), (130, .isub, 131, 0, 0, 0, []), (131, .invokevirtual 86, 134, 0, 0, 0, [1, 4, 45]), (134, .iconst 2, 135, 0, 2, 0, []),
  (135, .idiv, 136, 0, 0, 0, []), (136, .iadd, 137, 0, 0, 0, []), (137, .putfield 43, 140, 4, 0, 0, [11, 0]), (140, .goto 49, 143, 189, 0, 0, []), (143, .iload_n 1, 144, 1, 0, 0, []), (144, .bipush 8, 146, 0, 8, 0, []),
  (146, .if_icmp .lt 38, 149, 184, 0, 0, []), (149, .aload_n 0, 150, 0, 0, 0, []), (150, .dup, 151, 0, 0, 0, []), (151, .getfield 52, 154, 4, 0, 0, [14, 0]), (154, .iconst 1, 155, 0, 1, 0, []), (155, .iload_n 1, 156, 1, 0, 0, []),
  (156, .bipush 8, 158, 0, 8, 0, []), (158, .isub, 159, 0, 0, 0, []), (159, .ishl, 160, 0, 0, 0, []), (160, .ior, 161, 0, 0, 0, []), (161, .putfield 52, 164, 4, 0, 0, [14, 0]), (164, .aload_n 0, 165, 0, 0, 0, []),
  (165, .dup, 166, 0, 0, 0, []), (166, .getfield 43, 169, 4, 0, 0, [11, 0]), (169, .aload_n 0, 170, 0, 0, 0, []), (170, .iload_n 1, 171, 1, 0, 0, []), (171, .bipush 8, 173, 0, 8, 0, []), (173, .isub, 174, 0, 0, 0, []),
  (174, .invokevirtual 86, 177, 0, 0, 0, [1, 4, 45]), (177, .isub, 178, 0, 0, 0, []), (178, .putfield 43, 181, 4, 0, 0, [11, 0]), (181, .goto 8, 184, 189, 0, 0, []), (184, .aload_n 0, 185, 0, 0, 0, []), (185, .iload_n 1, 186, 1, 0, 0, []),
  (186, .invokevirtual 89, 189, 0, 0, 0, [1, 4, 77]), (189, .return_, 190, 0, 0, 0, [])])
-- 76 DoorSold$Country.setUp(I)V
def mx_76 : Mx := (⟨"DoorSold$Country", "setUp", "(I)V"⟩, prog_6_method_10_code, 2, (none : Option FieldType), [
  (0, .aload_n 0, 1, 0, 0, 0, []), (1, .iload_n 1, 2, 1, 0, 0, []), (2, .iconst 2, 3, 0, 2, 0, []), (3, .invokevirtual 98, 6, 0, 0, 0, [2, 4, 68]), (6, .ifCond .eq 16, 9, 22, 0, 0, []), (9, .aload_n 0, 10, 0, 0, 0, []),
  (10, .getfield 21, 13, 4, 0, 0, [4, 2]), (13, .iload_n 1, 14, 1, 0, 0, []), (14, .aload_n 0, 15, 0, 0, 0, []), (15, .getfield 46, 18, 4, 0, 0, [12, 0]), (18, .iastore, 19, 0, 0, 0, []), (19, .goto 44, 22, 63, 0, 0, []),
  (22, .aload_n 0, 23, 0, 0, 0, []), (23, .iload_n 1, 24, 1, 0, 0, []), (24, .iconst 5, 25, 0, 5, 0, []), (25, .invokevirtual 98, 28, 0, 0, 0, [2, 4, 68]), (28, .ifCond .eq 25, 31, 53, 0, 0, []), (31, .aload_n 0, 32, 0, 0, 0, []),
  (32, .getfield 18, 35, 4, 0, 0, [3, 2]), (35, .iload_n 1, 36, 1, 0, 0, []), (36, .aload_n 0, 37, 0, 0, 0, []), (37, .aload_n 0, 38, 0, 0, 0, []), (38, .getfield 46, 41, 4, 0, 0, [12, 0]), (41, .aload_n 0, 42, 0, 0, 0, []),
  (42, .getfield 49, 45, 4, 0, 0, [13, 0]), (45, .isub, 46, 0, 0, 0, []), (46, .invokevirtual 79, 49, 0, 0, 0, [1, 4, 55]), (49, .iastore, 50, 0, 0, 0, []), (50, .goto 13, 53, 63, 0, 0, []), (53, .aload_n 0, 54, 0, 0, 0, []),
  (54, .getfield 18, 57, 4, 0, 0, [3, 2]), (57, .iload_n 1, 58, 1, 0, 0, []), (58, .aload_n 0, 59, 0, 0, 0, []), (59, .getfield 46, 62, 4, 0, 0, [12, 0]), (62, .iastore, 63, 0, 0, 0, []), (63, .return_, 64, 0, 0, 0, [])])
-- 77 DoorSold$Country.pass(I)V
def mx_77 : Mx := (⟨"DoorSold$Country", "pass", "(I)V"⟩, prog_6_method_9_code, 2, (none : Option FieldType), [
  (0, .aload_n 0, 1, 0, 0, 0, []), (1, .aload_n 0, 2, 0, 0, 0, []), (2, .iload_n 1, 3, 1, 0, 0, []), (3, .invokevirtual 92, 6, 0, 0, 0, [1, 4, 70]), (6, .putfield 46, 9, 4, 0, 0, [12, 0]), (9, .aload_n 0, 10, 0, 0, 0, []),
  (10, .dup, 11, 0, 0, 0, []), (11, .getfield 49, 14, 4, 0, 0, [13, 0]), (14, .aload_n 0, 15, 0, 0, 0, []), (15, .iload_n 1, 16, 1, 0, 0, []), (16, .invokevirtual 95, 19, 0, 0, 0, [1, 4, 61]), (19, .iadd, 20, 0, 0, 0, []),
  (20, .putfield 49, 23, 4, 0, 0, [13, 0]), (23, .return_, 24, 0, 0, 0, [])])
-- 78 DoorSold.stay()I
def mx_78 : Mx := (⟨"DoorSold", "stay", "()I"⟩, prog_1_method_15_code, 1, (Option.some FieldType.int), [
  (0, .aload_n 0, 1, 0, 0, 0, []), (1, .getfield 45, 4, 11, 0, 0, [3, 2]), (4, .getfield 158, 7, 4, 0, 0, [9, 0]), (7, .ifCond .ne 6, 10, 13, 0, 0, []), (10, .bipush (-4), 12, 0, (-4), 0, []), (12, .ireturn, 13, 0, 0, 0, []),
  (13, .aload_n 0, 14, 0, 0, 0, []), (14, .getfield 45, 17, 11, 0, 0, [3, 2]), (17, .iconst 1, 18, 0, 1, 0, []), (18, .invokevirtual 202, 21, 0, 0, 0, [1, 4, 74]), (21, .ifCond .ne 6, 24, 27, 0, 0, []), (24, .bipush (-2), 26, 0, (-2), 0, []),
  (26, .ireturn, 27, 0, 0, 0, []), (27, .aload_n 0, 28, 0, 0, 0, []), (28, .getfield 45, 31, 11, 0, 0, [3, 2]), (31, .bipush 7, 33, 0, 7, 0, []), (33, .invokevirtual 205, 36, 0, 0, 0, [1, 4, 75]), (36, .aload_n 0, 37, 0, 0, 0, []),
  (37, .getfield 45, 40, 11, 0, 0, [3, 2]), (40, .getfield 184, 43, 4, 0, 0, [13, 0]), (43, .ireturn, 44, 0, 0, 0, [])])
-- 79 DoorSold.go(I)I
def mx_79 : Mx := (⟨"DoorSold", "go", "(I)I"⟩, prog_1_method_16_code, 2, (Option.some FieldType.int), [
  (0, .aload_n 0, 1, 0, 0, 0, []), (1, .iload_n 1, 2, 1, 0, 0, []), (2, .invokevirtual 161, 5, 0, 0, 0, [1, 11, 43]), (5, .ifCond .eq 5, 8, 10, 0, 0, []), (8, .iconst (-1), 9, 0, (-1), 0, []), (9, .ireturn, 10, 0, 0, 0, []),
  (10, .aload_n 0, 11, 0, 0, 0, []), (11, .getfield 45, 14, 11, 0, 0, [3, 2]), (14, .iload_n 1, 15, 1, 0, 0, []), (15, .invokevirtual 208, 18, 0, 0, 0, [1, 4, 80]), (18, .ifCond .ne 6, 21, 24, 0, 0, []), (21, .bipush (-4), 23, 0, (-4), 0, []),
  (23, .ireturn, 24, 0, 0, 0, []), (24, .aload_n 0, 25, 0, 0, 0, []), (25, .getfield 45, 28, 11, 0, 0, [3, 2]), (28, .iconst 1, 29, 0, 1, 0, []), (29, .invokevirtual 202, 32, 0, 0, 0, [1, 4, 74]), (32, .ifCond .ne 6, 35, 38, 0, 0, []),
  (35, .bipush (-2), 37, 0, (-2), 0, []), (37, .ireturn, 38, 0, 0, 0, []), (38, .aload_n 0, 39, 0, 0, 0, []), (39, .getfield 45, 42, 11, 0, 0, [3, 2]), (42, .iload_n 1, 43, 1, 0, 0, []), (43, .invokevirtual 205, 46, 0, 0, 0, [1, 4, 75]),
  (46, .aload_n 0, 47, 0, 0, 0, []), (47, .getfield 45, 50, 11, 0, 0, [3, 2]), (50, .getfield 199, 53, 4, 0, 0, [12, 0]), (53, .ireturn, 54, 0, 0, 0, [])])
-- 80 DoorSold$Country.canPass(I)Z
def mx_80 : Mx := (⟨"DoorSold$Country", "canPass", "(I)Z"⟩, prog_6_method_22_code, 2, (Option.some FieldType.boolean), [
  (0, .aload_n 0, 1, 0, 0, 0, []), (1, .iload_n 1, 2, 1, 0, 0, []), (2, .invokevirtual 141, 5, 0, 0, 0, [1, 4, 66]), (5, .ifCond .eq 35, 8, 40, 0, 0, []), (8, .aload_n 0, 9, 0, 0, 0, []), (9, .iload_n 1, 10, 1, 0, 0, []),
  (10, .aload_n 0, 11, 0, 0, 0, []), (11, .getfield 49, 14, 4, 0, 0, [13, 0]), (14, .invokevirtual 144, 17, 0, 0, 0, [2, 4, 57]), (17, .ifCond .eq 23, 20, 40, 0, 0, []), (20, .aload_n 0, 21, 0, 0, 0, []), (21, .iload_n 1, 22, 1, 0, 0, []),
  (22, .aload_n 0, 23, 0, 0, 0, []), (23, .getfield 49, 26, 4, 0, 0, [13, 0]), (26, .invokevirtual 147, 29, 0, 0, 0, [2, 4, 51]), (29, .aload_n 0, 30, 0, 0, 0, []), (30, .getfield 46, 33, 4, 0, 0, [12, 0]), (33, .if_icmp .ne 7, 36, 40, 0, 0, []),
  (36, .iconst 1, 37, 0, 1, 0, []), (37, .goto 4, 40, 41, 0, 0, []), (40, .iconst 0, 41, 0, 0, 0, []), (41, .ireturn, 42, 1, 0, 0, [])])
-- 81 DoorSold.buy(I)I
def mx_81 : Mx := (⟨"DoorSold", "buy", "(I)I"⟩, prog_1_method_17_code, 2, (Option.some FieldType.int), [
  (0, .aload_n 0, 1, 0, 0, 0, []), (1, .iload_n 1, 2, 1, 0, 0, []), (2, .invokevirtual 161, 5, 0, 0, 0, [1, 11, 43]), (5, .ifCond .eq 5, 8, 10, 0, 0, []), (8, .iconst (-1), 9, 0, (-1), 0, []), (9, .ireturn, 10, 0, 0, 0, []),
  (10, .aload_n 0, 11, 0, 0, 0, []), (11, .getfield 45, 14, 11, 0, 0, [3, 2]), (14, .iload_n 1, 15, 1, 0, 0, []), (15, .invokevirtual 211, 18, 0, 0, 0, [1, 4, 66]), (18, .ifCond .eq 6, 21, 24, 0, 0, []), (21, .bipush (-4), 23, 0, (-4), 0, []),
  (23, .ireturn, 24, 0, 0, 0, []), (24, .aload_n 0, 25, 0, 0, 0, []), (25, .getfield 45, 28, 11, 0, 0, [3, 2]), (28, .iload_n 1, 29, 1, 0, 0, []), (29, .invokevirtual 176, 32, 0, 0, 0, [1, 4, 45]), (32, .aload_n 0, 33, 0, 0, 0, []),
  (33, .getfield 45, 36, 11, 0, 0, [3, 2]), (36, .getfield 214, 39, 4, 0, 0, [11, 0]), (39, .if_icmp .le 6, 42, 45, 0, 0, []), (42, .bipush (-6), 44, 0, (-6), 0, []), (44, .ireturn, 45, 0, 0, 0, []), (45, .aload_n 0, 46, 0, 0, 0, []),
  (46, .getfield 45, 49, 11, 0, 0, [3, 2]), (49, .iconst 1, 50, 0, 1, 0, []), (50, .invokevirtual 202, 53, 0, 0, 0, [1, 4, 74]), (53, .ifCond .ne 6, 56, 59, 0, 0, []), (56, .bipush (-2), 58, 0, (-2), 0, []), (58, .ireturn, 59, 0, 0, 0, []),
  (59, .aload_n 0, 60, 0, 0, 0, []), (60, .getfield 45, 63, 11, 0, 0, [3, 2]), (63, .bipush 8, 65, 0, 8, 0, []), (65, .iload_n 1, 66, 1, 0, 0, []), (66, .iadd, 67, 0, 0, 0, []), (67, .invokevirtual 205, 70, 0, 0, 0, [1, 4, 75]),
  (70, .aload_n 0, 71, 0, 0, 0, []), (71, .getfield 45, 74, 11, 0, 0, [3, 2]), (74, .getfield 214, 77, 4, 0, 0, [11, 0]), (77, .ireturn, 78, 0, 0, 0, [])])
-- 82 DoorSold.sell(I)I
def mx_82 : Mx := (⟨"DoorSold", "sell", "(I)I"⟩, prog_1_method_18_code, 2, (Option.some FieldType.int), [
  (0, .aload_n 0, 1, 0, 0, 0, []), (1, .iload_n 1, 2, 1, 0, 0, []), (2, .invokevirtual 161, 5, 0, 0, 0, [1, 11, 43]), (5, .ifCond .eq 5, 8, 10, 0, 0, []), (8, .iconst (-1), 9, 0, (-1), 0, []), (9, .ireturn, 10, 0, 0, 0, []),
  (10, .aload_n 0, 11, 0, 0, 0, []), (11, .getfield 45, 14, 11, 0, 0, [3, 2]), (14, .iload_n 1, 15, 1, 0, 0, []), (15, .invokevirtual 211, 18, 0, 0, 0, [1, 4, 66]), (18, .ifCond .ne 6, 21, 24, 0, 0, []), (21, .bipush (-4), 23, 0, (-4), 0, []),
  (23, .ireturn, 24, 0, 0, 0, []), (24, .aload_n 0, 25, 0, 0, 0, []), (25, .getfield 45, 28, 11, 0, 0, [3, 2]), (28, .iconst 1, 29, 0, 1, 0, []), (29, .invokevirtual 202, 32, 0, 0, 0, [1, 4, 74]), (32, .ifCond .ne 6, 35, 38, 0, 0, []),
  (35, .bipush (-2), 37, 0, (-2), 0, []), (37, .ireturn, 38, 0, 0, 0, []), (38, .aload_n 0, 39, 0, 0, 0, []), (39, .getfield 45, 42, 11, 0, 0, [3, 2]), (42, .bipush 16, 44, 0, 16, 0, []), (44, .iload_n 1, 45, 1, 0, 0, []),
  (45, .iadd, 46, 0, 0, 0, []), (46, .invokevirtual 205, 49, 0, 0, 0, [1, 4, 75]), (49, .aload_n 0, 50, 0, 0, 0, []), (50, .getfield 45, 53, 11, 0, 0, [3, 2]), (53, .getfield 214, 56, 4, 0, 0, [11, 0]), (56, .ireturn, 57, 0, 0, 0, [])])
-- 83 DoorSold.set(I)I
def mx_83 : Mx := (⟨"DoorSold", "set", "(I)I"⟩, prog_1_method_19_code, 2, (Option.some FieldType.int), [
  (0, .aload_n 0, 1, 0, 0, 0, []), (1, .iload_n 1, 2, 1, 0, 0, []), (2, .invokevirtual 161, 5, 0, 0, 0, [1, 11, 43]), (5, .ifCond .eq 5, 8, 10, 0, 0, []), (8, .iconst (-1), 9, 0, (-1), 0, []), (9, .ireturn, 10, 0, 0, 0, []),
  (10, .aload_n 0, 11, 0, 0, 0, []), (11, .getfield 45, 14, 11, 0, 0, [3, 2]), (14, .iload_n 1, 15, 1, 0, 0, []), (15, .invokevirtual 211, 18, 0, 0, 0, [1, 4, 66]), (18, .ifCond .eq 28, 21, 46, 0, 0, []), (21, .aload_n 0, 22, 0, 0, 0, []),
  (22, .getfield 45, 25, 11, 0, 0, [3, 2]), (25, .iload_n 1, 26, 1, 0, 0, []), (26, .aload_n 0, 27, 0, 0, 0, []), (27, .getfield 45, 30, 11, 0, 0, [3, 2]), (30, .getfield 184, 33, 4, 0, 0, [13, 0]), (33, .invokevirtual 193, 36, 0, 0, 0, [2, 4, 51]),
  (36, .aload_n 0, 37, 0, 0, 0, []), (37, .getfield 45, 40, 11, 0, 0, [3, 2]), (40, .getfield 199, 43, 4, 0, 0, [12, 0]), (43, .if_icmp .ne 6, 46, 49, 0, 0, []), (46, .bipush (-4), 48, 0, (-4), 0, []), (48, .ireturn, 49, 0, 0, 0, []),
  (49, .aload_n 0, 50, 0, 0, 0, []), (50, .getfield 45, 53, 11, 0, 0, [3, 2]), (53, .iconst 1, 54, 0, 1, 0, []), (54, .invokevirtual 202, 57, 0, 0, 0, [1, 4, 74]), (57, .ifCond .ne 6, 60, 63, 0, 0, []), (60, .bipush (-2), 62, 0, (-2), 0, []),
  (62, .ireturn, 63, 0, 0, 0, []), (63, .aload_n 0, 64, 0, 0, 0, []), (64, .getfield 45, 67, 11, 0, 0, [3, 2]), (67, .bipush 24, 69, 0, 24, 0, []), (69, .iload_n 1, 70, 1, 0, 0, []), (70, .iadd, 71, 0, 0, 0, []),
  (71, .invokevirtual 205, 74, 0, 0, 0, [1, 4, 75]), (74, .aload_n 0, 75, 0, 0, 0, []), (75, .getfield 45, 78, 11, 0, 0, [3, 2]), (78, .getfield 217, 81, 4, 0, 0, [3, 2]), (81, .iload_n 1, 82, 1, 0, 0, []), (82, .iaload, 83, 0, 0, 0, []),
  (83, .ireturn, 84, 0, 0, 0, [])])
-- 84 DoorSold.undo(I)I
def mx_84 : Mx := (⟨"DoorSold", "undo", "(I)I"⟩, prog_1_method_20_code, 3, (Option.some FieldType.int), [
  (0, .iload_n 1, 1, 1, 0, 0, []), (1, .ifCond .lt 14, 4, 15, 0, 0, []), (4, .iload_n 1, 5, 1, 0, 0, []), (5, .aload_n 0, 6, 0, 0, 0, []), (6, .getfield 45, 9, 11, 0, 0, [3, 2]), (9, .getfield 220, 12, 4, 0, 0, [15, 0]),
  (12, .if_icmp .le 5, 15, 17, 0, 0, []), (15, .iconst (-1), 16, 0, (-1), 0, []), (16, .ireturn, 17, 0, 0, 0, []), (17, .aload_n 0, 18, 0, 0, 0, []), (18, .getfield 45, 21, 11, 0, 0, [3, 2]), (21, .getfield 220, 24, 4, 0, 0, [15, 0]),
  (24, .iload_n 1, 25, 1, 0, 0, []), (25, .isub, 26, 0, 0, 0, []), (26, .istore_n 2, 27, 2, 0, 0, []), (27, .aload_n 0, 28, 0, 0, 0, []), (28, .getfield 45, 31, 11, 0, 0, [3, 2]), (31, .iload_n 1, 32, 1, 0, 0, []),
  (32, .invokevirtual 223, 35, 0, 0, 0, [1, 4, 85]), (35, .iload_n 2, 36, 2, 0, 0, []), (36, .ireturn, 37, 0, 0, 0, [])])
-- 85 DoorSold$Country.beginAgain(I)V
def mx_85 : Mx := (⟨"DoorSold$Country", "beginAgain", "(I)V"⟩, prog_6_method_5_code, 3, (none : Option FieldType), [
  (0, .aload_n 0, 1, 0, 0, 0, []), (1, .invokevirtual 62, 4, 0, 0, 0, [0, 4, 33]), (4, .iconst 0, 5, 0, 0, 0, []), (5, .istore_n 2, 6, 2, 0, 0, []), (6, .iload_n 2, 7, 2, 0, 0, []), (7, .iload_n 1, 8, 1, 0, 0, []),
  (8, .if_icmp .ge 25, 11, 33, 0, 0, []), (11, .iload_n 2, 12, 2, 0, 0, []), (12, .bipush 40, 14, 0, 40, 0, []), (14, .if_icmp .ge 19, 17, 33, 0, 0, []), (17, .aload_n 0, 18, 0, 0, 0, []), (18, .aload_n 0, 19, 0, 0, 0, []),
  (19, .getfield 30, 22, 4, 0, 0, [7, 2]), (22, .iload_n 2, 23, 2, 0, 0, []), (23, .iaload, 24, 0, 0, 0, []), (24, .invokevirtual 65, 27, 0, 0, 0, [1, 4, 75]), (27, .iinc 2 1, 30, 2, 1, 0, []), (30, .goto (-24), 33, 6, 0, 0, []),
  (33, .return_, 34, 0, 0, 0, [])])
-- 86 DoorSold.keep(I)I
def mx_86 : Mx := (⟨"DoorSold", "keep", "(I)I"⟩, prog_1_method_21_code, 2, (Option.some FieldType.int), [
  (0, .iload_n 1, 1, 1, 0, 0, []), (1, .invokestatic 226, 4, 87, 0, 0, [0, 1]), (4, .ifCond .eq 5, 7, 9, 0, 0, []), (7, .iconst (-1), 8, 0, (-1), 0, []), (8, .ireturn, 9, 0, 0, 0, []), (9, .aload_n 0, 10, 0, 0, 0, []),
  (10, .getfield 45, 13, 11, 0, 0, [3, 2]), (13, .getfield 158, 16, 4, 0, 0, [9, 0]), (16, .ifCond .ne 6, 19, 22, 0, 0, []), (19, .bipush (-4), 21, 0, (-4), 0, []), (21, .ireturn, 22, 0, 0, 0, []), (22, .aload_n 0, 23, 0, 0, 0, []),
  (23, .getfield 52, 26, 11, 0, 0, [5, 2]), (26, .iload_n 1, 27, 1, 0, 0, []), (27, .aaload, 28, 5, 0, 0, []), (28, .aload_n 0, 29, 0, 0, 0, []), (29, .getfield 45, 32, 11, 0, 0, [3, 2]), (32, .invokevirtual 151, 35, 0, 0, 0, [1, 4, 41]),
  (35, .aload_n 0, 36, 0, 0, 0, []), (36, .getfield 45, 39, 11, 0, 0, [3, 2]), (39, .getfield 220, 42, 4, 0, 0, [15, 0]), (42, .ireturn, 43, 0, 0, 0, [])])
-- 87 DoorSold.noKeeping(I)Z
def mx_87 : Mx := (⟨"DoorSold", "noKeeping", "(I)Z"⟩, prog_1_method_46_code, 1, (Option.some FieldType.boolean), [
  (0, .iload_n 0, 1, 0, 0, 0, []), (1, .ifCond .lt 8, 4, 9, 0, 0, []), (4, .iload_n 0, 5, 0, 0, 0, []), (5, .iconst 3, 6, 0, 3, 0, []), (6, .if_icmp .lt 7, 9, 13, 0, 0, []), (9, .iconst 1, 10, 0, 1, 0, []),
  (10, .goto 4, 13, 14, 0, 0, []), (13, .iconst 0, 14, 0, 0, 0, []), (14, .ireturn, 15, 1, 0, 0, [])])
-- 88 DoorSold.on(I)I
def mx_88 : Mx := (⟨"DoorSold", "on", "(I)I"⟩, prog_1_method_22_code, 2, (Option.some FieldType.int), [
  (0, .iload_n 1, 1, 1, 0, 0, []), (1, .invokestatic 226, 4, 87, 0, 0, [0, 1]), (4, .ifCond .eq 5, 7, 9, 0, 0, []), (7, .iconst (-1), 8, 0, (-1), 0, []), (8, .ireturn, 9, 0, 0, 0, []), (9, .aload_n 0, 10, 0, 0, 0, []),
  (10, .getfield 52, 13, 11, 0, 0, [5, 2]), (13, .iload_n 1, 14, 1, 0, 0, []), (14, .aaload, 15, 5, 0, 0, []), (15, .getfield 158, 18, 4, 0, 0, [9, 0]), (18, .ifCond .ne 9, 21, 27, 0, 0, []), (21, .aload_n 0, 22, 0, 0, 0, []),
  (22, .iconst 1, 23, 0, 1, 0, []), (23, .invokevirtual 105, 26, 0, 0, 0, [1, 11, 15]), (26, .ireturn, 27, 0, 0, 0, []), (27, .aload_n 0, 28, 0, 0, 0, []), (28, .getfield 45, 31, 11, 0, 0, [3, 2]), (31, .aload_n 0, 32, 0, 0, 0, []),
  (32, .getfield 52, 35, 11, 0, 0, [5, 2]), (35, .iload_n 1, 36, 1, 0, 0, []), (36, .aaload, 37, 5, 0, 0, []), (37, .invokevirtual 151, 40, 0, 0, 0, [1, 4, 41]), (40, .aload_n 0, 41, 0, 0, 0, []), (41, .getfield 45, 44, 11, 0, 0, [3, 2]),
  (44, .getfield 220, 47, 4, 0, 0, [15, 0]), (47, .ireturn, 48, 0, 0, 0, [])])
-- 89 DoorSold.where(I)I
def mx_89 : Mx := (⟨"DoorSold", "where", "(I)I"⟩, prog_1_method_23_code, 2, (Option.some FieldType.int), [
  (0, .iload_n 1, 1, 1, 0, 0, []), (1, .invokestatic 229, 4, 90, 0, 0, [0, 1]), (4, .ifCond .eq 5, 7, 9, 0, 0, []), (7, .iconst (-1), 8, 0, (-1), 0, []), (8, .ireturn, 9, 0, 0, 0, []), (9, .aload_n 0, 10, 0, 0, 0, []),
  (10, .getfield 45, 13, 11, 0, 0, [3, 2]), (13, .getfield 158, 16, 4, 0, 0, [9, 0]), (16, .ifCond .ne 6, 19, 22, 0, 0, []), (19, .bipush (-4), 21, 0, (-4), 0, []), (21, .ireturn, 22, 0, 0, 0, []), (22, .aload_n 0, 23, 0, 0, 0, []),
  (23, .getfield 66, 26, 11, 0, 0, [7, 2]), (26, .aload_n 0, 27, 0, 0, 0, []), (27, .getfield 45, 30, 11, 0, 0, [3, 2]), (30, .aload_n 0, 31, 0, 0, 0, []), (31, .getfield 45, 34, 11, 0, 0, [3, 2]), (34, .getfield 232, 37, 4, 0, 0, [14, 0]),
  (37, .iload_n 1, 38, 1, 0, 0, []), (38, .invokevirtual 235, 41, 0, 0, 0, [3, 10, 91]), (41, .ireturn, 42, 0, 0, 0, [])])
-- 90 DoorSold.noHours(I)Z
def mx_90 : Mx := (⟨"DoorSold", "noHours", "(I)Z"⟩, prog_1_method_47_code, 1, (Option.some FieldType.boolean), [
  (0, .iload_n 0, 1, 0, 0, 0, []), (1, .ifCond .lt 9, 4, 10, 0, 0, []), (4, .iload_n 0, 5, 0, 0, 0, []), (5, .bipush 30, 7, 0, 30, 0, []), (7, .if_icmp .le 7, 10, 14, 0, 0, []), (10, .iconst 1, 11, 0, 1, 0, []),
  (11, .goto 4, 14, 15, 0, 0, []), (14, .iconst 0, 15, 0, 0, 0, []), (15, .ireturn, 16, 1, 0, 0, [])])
-- 91 DoorSold$Ways.placesAfter(LDoorSold$Country;II)I
def mx_91 : Mx := (⟨"DoorSold$Ways", "placesAfter", "(LDoorSold$Country;II)I"⟩, prog_12_method_2_code, 5, (Option.some FieldType.int), [
  (0, .aload_n 0, 1, 0, 0, 0, []), (1, .aload_n 1, 2, 1, 0, 0, []), (2, .invokevirtual 18, 5, 0, 0, 0, [1, 10, 92]), (5, .iconst 0, 6, 0, 0, 0, []), (6, .istore 4, 8, 4, 0, 0, []), (8, .iload 4, 10, 4, 0, 0, []),
  (10, .iload_n 3, 11, 3, 0, 0, []), (11, .if_icmp .ge 17, 14, 28, 0, 0, []), (14, .aload_n 0, 15, 0, 0, 0, []), (15, .aload_n 1, 16, 1, 0, 0, []), (16, .iload_n 2, 17, 2, 0, 0, []), (17, .iload 4, 19, 4, 0, 0, []),
  (19, .invokevirtual 22, 22, 0, 0, 0, [3, 10, 93]), (22, .iinc 4 1, 25, 4, 1, 0, []), (25, .goto (-17), 28, 8, 0, 0, []), (28, .aload_n 0, 29, 0, 0, 0, []), (29, .getfield 9, 32, 10, 0, 0, [0, 2]), (32, .iload_n 3, 33, 3, 0, 0, []),
  (33, .iaload, 34, 0, 0, 0, []), (34, .ireturn, 35, 0, 0, 0, [])])
-- 92 DoorSold$Ways.start(LDoorSold$Country;)V
def mx_92 : Mx := (⟨"DoorSold$Ways", "start", "(LDoorSold$Country;)V"⟩, prog_12_method_4_code, 3, (none : Option FieldType), [
  (0, .iconst 0, 1, 0, 0, 0, []), (1, .istore_n 2, 2, 2, 0, 0, []), (2, .iload_n 2, 3, 2, 0, 0, []), (3, .bipush 30, 5, 0, 30, 0, []), (5, .if_icmp .gt 16, 8, 21, 0, 0, []), (8, .aload_n 0, 9, 0, 0, 0, []),
  (9, .getfield 9, 12, 10, 0, 0, [0, 2]), (12, .iload_n 2, 13, 2, 0, 0, []), (13, .iconst 0, 14, 0, 0, 0, []), (14, .iastore, 15, 0, 0, 0, []), (15, .iinc 2 1, 18, 2, 1, 0, []), (18, .goto (-16), 21, 2, 0, 0, []),
  (21, .aload_n 0, 22, 0, 0, 0, []), (22, .getfield 9, 25, 10, 0, 0, [0, 2]), (25, .iconst 0, 26, 0, 0, 0, []), (26, .iconst 1, 27, 0, 1, 0, []), (27, .aload_n 1, 28, 1, 0, 0, []), (28, .getfield 26, 31, 4, 0, 0, [12, 0]),
  (31, .ishl, 32, 0, 0, 0, []), (32, .iastore, 33, 0, 0, 0, []), (33, .return_, 34, 0, 0, 0, [])])
-- 93 DoorSold$Ways.spread(LDoorSold$Country;II)V
def mx_93 : Mx := (⟨"DoorSold$Ways", "spread", "(LDoorSold$Country;II)V"⟩, prog_12_method_5_code, 5, (none : Option FieldType), [
  (0, .aload_n 0, 1, 0, 0, 0, []), (1, .iload_n 3, 2, 3, 0, 0, []), (2, .iconst 1, 3, 0, 1, 0, []), (3, .iadd, 4, 0, 0, 0, []), (4, .aload_n 0, 5, 0, 0, 0, []), (5, .getfield 9, 8, 10, 0, 0, [0, 2]),
  (8, .iload_n 3, 9, 3, 0, 0, []), (9, .iaload, 10, 0, 0, 0, []), (10, .invokevirtual 32, 13, 0, 0, 0, [2, 10, 94]), (13, .aload_n 0, 14, 0, 0, 0, []), (14, .iload_n 3, 15, 3, 0, 0, []), (15, .iconst 3, 16, 0, 3, 0, []),
  (16, .iadd, 17, 0, 0, 0, []), (17, .aload_n 1, 18, 1, 0, 0, []), (18, .aload_n 0, 19, 0, 0, 0, []), (19, .getfield 9, 22, 10, 0, 0, [0, 2]), (22, .iload_n 3, 23, 3, 0, 0, []), (23, .iaload, 24, 0, 0, 0, []),
  (24, .invokestatic 36, 27, 95, 0, 0, [0, 2]), (27, .invokevirtual 32, 30, 0, 0, 0, [2, 10, 94]), (30, .iconst 0, 31, 0, 0, 0, []), (31, .istore 4, 33, 4, 0, 0, []), (33, .iload 4, 35, 4, 0, 0, []), (35, .aload_n 1, 36, 1, 0, 0, []),
  (36, .getfield 40, 39, 4, 0, 0, [9, 0]), (39, .if_icmp .ge 50, 42, 89, 0, 0, []), (42, .iload_n 2, 43, 2, 0, 0, []), (43, .iload 4, 45, 4, 0, 0, []), (45, .ishr, 46, 0, 0, 0, []), (46, .iconst 1, 47, 0, 1, 0, []),
  (47, .iand, 48, 0, 0, 0, []), (48, .iconst 1, 49, 0, 1, 0, []), (49, .if_icmp .ne 34, 52, 83, 0, 0, []), (52, .aload_n 0, 53, 0, 0, 0, []), (53, .aload_n 1, 54, 1, 0, 0, []), (54, .iload 4, 56, 4, 0, 0, []),
  (56, .iload_n 3, 57, 3, 0, 0, []), (57, .invokevirtual 43, 60, 0, 0, 0, [3, 10, 96]), (60, .ifCond .eq 23, 63, 83, 0, 0, []), (63, .aload_n 0, 64, 0, 0, 0, []), (64, .iload_n 3, 65, 3, 0, 0, []), (65, .aload_n 1, 66, 1, 0, 0, []),
  (66, .iload 4, 68, 4, 0, 0, []), (68, .invokevirtual 47, 71, 0, 0, 0, [1, 4, 61]), (71, .iadd, 72, 0, 0, 0, []), (72, .iconst 1, 73, 0, 1, 0, []), (73, .aload_n 1, 74, 1, 0, 0, []), (74, .iload 4, 76, 4, 0, 0, []),
  (76, .invokevirtual 51, 79, 0, 0, 0, [1, 4, 70]), (79, .ishl, 80, 0, 0, 0, []), (80, .invokevirtual 32, 83, 0, 0, 0, [2, 10, 94]), (83, .iinc 4 1, 86, 4, 1, 0, []), (86, .goto (-53), 89, 33, 0, 0, []), (89, .return_, 90, 0, 0, 0, [])])
-- 94 DoorSold$Ways.land(II)V
def mx_94 : Mx := (⟨"DoorSold$Ways", "land", "(II)V"⟩, prog_12_method_6_code, 3, (none : Option FieldType), [
  (0, .iload_n 1, 1, 1, 0, 0, []), (1, .bipush 30, 3, 0, 30, 0, []), (3, .if_icmp .gt 13, 6, 16, 0, 0, []), (6, .aload_n 0, 7, 0, 0, 0, []), (7, .getfield 9, 10, 10, 0, 0, [0, 2]), (10, .iload_n 1, 11, 1, 0, 0, []),
  (11, .dup2, 12, 0, 0, 0, []), (12, .iaload, 13, 0, 0, 0, []), (13, .iload_n 2, 14, 2, 0, 0, []), (14, .ior, 15, 0, 0, 0, []), (15, .iastore, 16, 0, 0, 0, []), (16, .return_, 17, 0, 0, 0, [])])
-- 95 DoorSold$Ways.oneOn(LDoorSold$Country;I)I
def mx_95 : Mx := (⟨"DoorSold$Ways", "oneOn", "(LDoorSold$Country;I)I"⟩, prog_12_method_8_code, 3, (Option.some FieldType.int), [
  (0, .iconst 1, 1, 0, 1, 0, []), (1, .iconst 0, 2, 0, 0, 0, []), (2, .aload_n 0, 3, 0, 0, 0, []), (3, .getfield 65, 6, 4, 0, 0, [8, 0]), (6, .iconst 1, 7, 0, 1, 0, []), (7, .isub, 8, 0, 0, 0, []),
  (8, .invokestatic 68, 11, 12, 0, 0, [0, 2]), (11, .ishl, 12, 0, 0, 0, []), (12, .istore_n 2, 13, 2, 0, 0, []), (13, .iload_n 1, 14, 1, 0, 0, []), (14, .iload_n 2, 15, 2, 0, 0, []), (15, .iconst (-1), 16, 0, (-1), 0, []),
  (16, .ixor, 17, 0, 0, 0, []), (17, .iand, 18, 0, 0, 0, []), (18, .iconst 1, 19, 0, 1, 0, []), (19, .ishl, 20, 0, 0, 0, []), (20, .iload_n 1, 21, 1, 0, 0, []), (21, .iload_n 2, 22, 2, 0, 0, []),
  (22, .iand, 23, 0, 0, 0, []), (23, .ifCond .eq 7, 26, 30, 0, 0, []), (26, .iconst 1, 27, 0, 1, 0, []), (27, .goto 4, 30, 31, 0, 0, []), (30, .iconst 0, 31, 0, 0, 0, []), (31, .ior, 32, 0, 0, 0, []),
  (32, .ireturn, 33, 0, 0, 0, [])])
-- 96 DoorSold$Ways.canPassAfter(LDoorSold$Country;II)Z
def mx_96 : Mx := (⟨"DoorSold$Ways", "canPassAfter", "(LDoorSold$Country;II)Z"⟩, prog_12_method_7_code, 4, (Option.some FieldType.boolean), [
  (0, .aload_n 1, 1, 1, 0, 0, []), (1, .iload_n 2, 2, 2, 0, 0, []), (2, .aload_n 1, 3, 1, 0, 0, []), (3, .getfield 54, 6, 4, 0, 0, [13, 0]), (6, .iload_n 3, 7, 3, 0, 0, []), (7, .iadd, 8, 0, 0, 0, []),
  (8, .invokevirtual 57, 11, 0, 0, 0, [2, 4, 57]), (11, .ifCond .eq 31, 14, 42, 0, 0, []), (14, .aload_n 0, 15, 0, 0, 0, []), (15, .getfield 9, 18, 10, 0, 0, [0, 2]), (18, .iload_n 3, 19, 3, 0, 0, []), (19, .iaload, 20, 0, 0, 0, []),
  (20, .aload_n 1, 21, 1, 0, 0, []), (21, .iload_n 2, 22, 2, 0, 0, []), (22, .aload_n 1, 23, 1, 0, 0, []), (23, .getfield 54, 26, 4, 0, 0, [13, 0]), (26, .iload_n 3, 27, 3, 0, 0, []), (27, .iadd, 28, 0, 0, 0, []),
  (28, .invokevirtual 61, 31, 0, 0, 0, [2, 4, 51]), (31, .ishr, 32, 0, 0, 0, []), (32, .iconst 1, 33, 0, 1, 0, []), (33, .iand, 34, 0, 0, 0, []), (34, .iconst 1, 35, 0, 1, 0, []), (35, .if_icmp .ne 7, 38, 42, 0, 0, []),
  (38, .iconst 1, 39, 0, 1, 0, []), (39, .goto 4, 42, 43, 0, 0, []), (42, .iconst 0, 43, 0, 0, 0, []), (43, .ireturn, 44, 1, 0, 0, [])])
-- 97 DoorSold.soonest(I)I
def mx_97 : Mx := (⟨"DoorSold", "soonest", "(I)I"⟩, prog_1_method_24_code, 3, (Option.some FieldType.int), [
  (0, .aload_n 0, 1, 0, 0, 0, []), (1, .iload_n 1, 2, 1, 0, 0, []), (2, .invokevirtual 239, 5, 0, 0, 0, [1, 11, 98]), (5, .ifCond .eq 5, 8, 10, 0, 0, []), (8, .iconst (-1), 9, 0, (-1), 0, []), (9, .ireturn, 10, 0, 0, 0, []),
  (10, .aload_n 0, 11, 0, 0, 0, []), (11, .getfield 66, 14, 11, 0, 0, [7, 2]), (14, .aload_n 0, 15, 0, 0, 0, []), (15, .getfield 45, 18, 11, 0, 0, [3, 2]), (18, .aload_n 0, 19, 0, 0, 0, []), (19, .getfield 45, 22, 11, 0, 0, [3, 2]),
  (22, .getfield 232, 25, 4, 0, 0, [14, 0]), (25, .iload_n 1, 26, 1, 0, 0, []), (26, .invokevirtual 242, 29, 0, 0, 0, [3, 10, 99]), (29, .istore_n 2, 30, 2, 0, 0, []), (30, .aload_n 0, 31, 0, 0, 0, []), (31, .aload_n 0, 32, 0, 0, 0, []),
  (32, .getfield 66, 35, 11, 0, 0, [7, 2]), (35, .getfield 245, 38, 10, 0, 0, [0, 2]), (38, .iload_n 2, 39, 2, 0, 0, []), (39, .iaload, 40, 0, 0, 0, []), (40, .invokestatic 248, 43, 100, 0, 0, [0, 1]), (43, .putfield 88, 46, 11, 0, 0, [12, 0]),
  (46, .iload_n 2, 47, 2, 0, 0, []), (47, .ireturn, 48, 0, 0, 0, [])])
-- 98 DoorSold.noPlace(I)Z
def mx_98 : Mx := (⟨"DoorSold", "noPlace", "(I)Z"⟩, prog_1_method_50_code, 2, (Option.some FieldType.boolean), [
  (0, .iload_n 1, 1, 1, 0, 0, []), (1, .ifCond .lt 14, 4, 15, 0, 0, []), (4, .iload_n 1, 5, 1, 0, 0, []), (5, .aload_n 0, 6, 0, 0, 0, []), (6, .getfield 45, 9, 11, 0, 0, [3, 2]), (9, .getfield 271, 12, 4, 0, 0, [8, 0]),
  (12, .if_icmp .lt 7, 15, 19, 0, 0, []), (15, .iconst 1, 16, 0, 1, 0, []), (16, .goto 4, 19, 20, 0, 0, []), (19, .iconst 0, 20, 0, 0, 0, []), (20, .ireturn, 21, 1, 0, 0, [])])
-- 99 DoorSold$Ways.hoursTo(LDoorSold$Country;II)I
def mx_99 : Mx := (⟨"DoorSold$Ways", "hoursTo", "(LDoorSold$Country;II)I"⟩, prog_12_method_3_code, 5, (Option.some FieldType.int), [
  (0, .aload_n 0, 1, 0, 0, 0, []), (1, .aload_n 1, 2, 1, 0, 0, []), (2, .invokevirtual 18, 5, 0, 0, 0, [1, 10, 92]), (5, .iconst 0, 6, 0, 0, 0, []), (6, .istore 4, 8, 4, 0, 0, []), (8, .iload 4, 10, 4, 0, 0, []),
  (10, .bipush 30, 12, 0, 30, 0, []), (12, .if_icmp .ge 35, 15, 47, 0, 0, []), (15, .aload_n 0, 16, 0, 0, 0, []), (16, .getfield 9, 19, 10, 0, 0, [0, 2]), (19, .iload 4, 21, 4, 0, 0, []), (21, .iaload, 22, 0, 0, 0, []),
  (22, .iload_n 3, 23, 3, 0, 0, []), (23, .ishr, 24, 0, 0, 0, []), (24, .iconst 1, 25, 0, 1, 0, []), (25, .iand, 26, 0, 0, 0, []), (26, .iconst 1, 27, 0, 1, 0, []), (27, .if_icmp .ne 6, 30, 33, 0, 0, []),
  (30, .iload 4, 32, 4, 0, 0, []), (32, .ireturn, 33, 0, 0, 0, []), (33, .aload_n 0, 34, 0, 0, 0, []), (34, .aload_n 1, 35, 1, 0, 0, []), (35, .iload_n 2, 36, 2, 0, 0, []), (36, .iload 4, 38, 4, 0, 0, []),
  (38, .invokevirtual 22, 41, 0, 0, 0, [3, 10, 93]), (41, .iinc 4 1, 44, 4, 1, 0, []), (44, .goto (-36), 47, 8, 0, 0, []), (47, .bipush 30, 49, 0, 30, 0, []), (49, .ireturn, 50, 0, 0, 0, [])])
-- 100 java/lang/Integer.bitCount(I)I
def mx_100 : Mx := (⟨"java/lang/Integer", "bitCount", "(I)I"⟩, prog_15_method_49_code, 1, (Option.some FieldType.int), [
  (0, .iload_n 0, 1, 0, 0, 0, []), (1, .iload_n 0, 2, 0, 0, 0, []), (2, .iconst 1, 3, 0, 1, 0, []), (3, .iushr, 4, 0, 0, 0, []), (4, .ldc_w 265, 7, 0, 1431655765, 0, []), (7, .iand, 8, 0, 0, 0, []),
  (8, .isub, 9, 0, 0, 0, []), (9, .istore_n 0, 10, 0, 0, 0, []), (10, .iload_n 0, 11, 0, 0, 0, []), (11, .ldc_w 266, 14, 0, 858993459, 0, []), (14, .iand, 15, 0, 0, 0, []), (15, .iload_n 0, 16, 0, 0, 0, []),
  (16, .iconst 2, 17, 0, 2, 0, []), (17, .iushr, 18, 0, 0, 0, []), (18, .ldc_w 266, 21, 0, 858993459, 0, []), (21, .iand, 22, 0, 0, 0, []), (22, .iadd, 23, 0, 0, 0, []), (23, .istore_n 0, 24, 0, 0, 0, []),
  (24, .iload_n 0, 25, 0, 0, 0, []), (25, .iload_n 0, 26, 0, 0, 0, []), (26, .iconst 4, 27, 0, 4, 0, []), (27, .iushr, 28, 0, 0, 0, []), (28, .iadd, 29, 0, 0, 0, []), (29, .ldc_w 267, 32, 0, 252645135, 0, []),
  (32, .iand, 33, 0, 0, 0, []), (33, .istore_n 0, 34, 0, 0, 0, []), (34, .iload_n 0, 35, 0, 0, 0, []), (35, .iload_n 0, 36, 0, 0, 0, []), (36, .bipush 8, 38, 0, 8, 0, []), (38, .iushr, 39, 0, 0, 0, []),
  (39, .iadd, 40, 0, 0, 0, []), (40, .istore_n 0, 41, 0, 0, 0, []), (41, .iload_n 0, 42, 0, 0, 0, []), (42, .iload_n 0, 43, 0, 0, 0, []), (43, .bipush 16, 45, 0, 16, 0, []), (45, .iushr, 46, 0, 0, 0, []),
  (46, .iadd, 47, 0, 0, 0, []), (47, .istore_n 0, 48, 0, 0, 0, []), (48, .iload_n 0, 49, 0, 0, 0, []), (49, .bipush 63, 51, 0, 63, 0, []), (51, .iand, 52, 0, 0, 0, []), (52, .ireturn, 53, 0, 0, 0, [])])
-- 101 DoorSold.way(II)I
def mx_101 : Mx := (⟨"DoorSold", "way", "(II)I"⟩, prog_1_method_25_code, 4, (Option.some FieldType.int), [
  (0, .aload_n 0, 1, 0, 0, 0, []), (1, .iload_n 1, 2, 1, 0, 0, []), (2, .invokevirtual 239, 5, 0, 0, 0, [1, 11, 98]), (5, .ifCond .ne 10, 8, 15, 0, 0, []), (8, .iload_n 2, 9, 2, 0, 0, []), (9, .invokestatic 101, 12, 14, 0, 0, [0, 1]),
  (12, .ifCond .eq 5, 15, 17, 0, 0, []), (15, .iconst (-1), 16, 0, (-1), 0, []), (16, .ireturn, 17, 0, 0, 0, []), (17, .aload_n 0, 18, 0, 0, 0, []), (18, .getfield 66, 21, 11, 0, 0, [7, 2]), (21, .aload_n 0, 22, 0, 0, 0, []),
  (22, .getfield 45, 25, 11, 0, 0, [3, 2]), (25, .aload_n 0, 26, 0, 0, 0, []), (26, .getfield 45, 29, 11, 0, 0, [3, 2]), (29, .getfield 232, 32, 4, 0, 0, [14, 0]), (32, .iload_n 1, 33, 1, 0, 0, []), (33, .invokevirtual 242, 36, 0, 0, 0, [3, 10, 99]),
  (36, .istore_n 3, 37, 3, 0, 0, []), (37, .aload_n 0, 38, 0, 0, 0, []), (38, .getfield 66, 41, 11, 0, 0, [7, 2]), (41, .aload_n 0, 42, 0, 0, 0, []), (42, .getfield 45, 45, 11, 0, 0, [3, 2]), (45, .iload_n 1, 46, 1, 0, 0, []),
  (46, .iload_n 3, 47, 3, 0, 0, []), (47, .invokevirtual 253, 50, 0, 0, 0, [3, 10, 102]), (50, .aload_n 0, 51, 0, 0, 0, []), (51, .getfield 11, 54, 11, 0, 0, [0, 2]), (54, .iload_n 2, 55, 2, 0, 0, []), (55, .aaload, 56, 3, 0, 0, []),
  (56, .iconst 0, 57, 0, 0, 0, []), (57, .iconst 0, 58, 0, 0, 0, []), (58, .invokevirtual 109, 61, 0, 0, 0, [2, 8, 16]), (61, .aload_n 0, 62, 0, 0, 0, []), (62, .getfield 66, 65, 11, 0, 0, [7, 2]), (65, .aload_n 0, 66, 0, 0, 0, []),
  (66, .getfield 45, 69, 11, 0, 0, [3, 2]), (69, .iload_n 3, 70, 3, 0, 0, []), (70, .aload_n 0, 71, 0, 0, 0, []), (71, .getfield 11, 74, 11, 0, 0, [0, 2]), (74, .iload_n 2, 75, 2, 0, 0, []), (75, .aaload, 76, 3, 0, 0, []),
  (76, .invokevirtual 257, 79, 0, 0, 0, [3, 10, 107]), (79, .aload_n 0, 80, 0, 0, 0, []), (80, .getfield 11, 83, 11, 0, 0, [0, 2]), (83, .iload_n 2, 84, 2, 0, 0, []), (84, .aaload, 85, 3, 0, 0, []), (85, .getfield 124, 88, 8, 0, 0, [1, 0]),
  (88, .ireturn, 89, 0, 0, 0, [])])
-- 102 DoorSold$Ways.traceBack(LDoorSold$Country;II)V
def mx_102 : Mx := (⟨"DoorSold$Ways", "traceBack", "(LDoorSold$Country;II)V"⟩, prog_12_method_9_code, 6, (none : Option FieldType), [
  (0, .iconst 0, 1, 0, 0, 0, []), (1, .istore 4, 3, 4, 0, 0, []), (3, .iload 4, 5, 4, 0, 0, []), (5, .bipush 30, 7, 0, 30, 0, []), (7, .if_icmp .gt 17, 10, 24, 0, 0, []), (10, .aload_n 0, 11, 0, 0, 0, []),
  (11, .getfield 15, 14, 10, 0, 0, [1, 2]), (14, .iload 4, 16, 4, 0, 0, []), (16, .iconst 0, 17, 0, 0, 0, []), (17, .iastore, 18, 0, 0, 0, []), (18, .iinc 4 1, 21, 4, 1, 0, []), (21, .goto (-18), 24, 3, 0, 0, []),
  (24, .aload_n 0, 25, 0, 0, 0, []), (25, .getfield 15, 28, 10, 0, 0, [1, 2]), (28, .iload_n 3, 29, 3, 0, 0, []), (29, .iconst 1, 30, 0, 1, 0, []), (30, .iload_n 2, 31, 2, 0, 0, []), (31, .ishl, 32, 0, 0, 0, []),
  (32, .iastore, 33, 0, 0, 0, []), (33, .iload_n 3, 34, 3, 0, 0, []), (34, .iconst 1, 35, 0, 1, 0, []), (35, .isub, 36, 0, 0, 0, []), (36, .istore 4, 38, 4, 0, 0, []), (38, .iload 4, 40, 4, 0, 0, []),
  (40, .ifCond .lt 55, 43, 95, 0, 0, []), (43, .iconst 0, 44, 0, 0, 0, []), (44, .istore 5, 46, 5, 0, 0, []), (46, .iload 5, 48, 5, 0, 0, []), (48, .aload_n 1, 49, 1, 0, 0, []), (49, .getfield 65, 52, 4, 0, 0, [8, 0]),
  (52, .if_icmp .ge 37, 55, 89, 0, 0, []), (55, .aload_n 0, 56, 0, 0, 0, []), (56, .aload_n 1, 57, 1, 0, 0, []), (57, .iload 5, 59, 5, 0, 0, []), (59, .iload 4, 61, 4, 0, 0, []), (61, .invokevirtual 73, 64, 0, 0, 0, [3, 10, 103]),
  (64, .bipush (-9), 66, 0, (-9), 0, []), (66, .if_icmp .eq 17, 69, 83, 0, 0, []), (69, .aload_n 0, 70, 0, 0, 0, []), (70, .getfield 15, 73, 10, 0, 0, [1, 2]), (73, .iload 4, 75, 4, 0, 0, []), (75, .dup2, 76, 0, 0, 0, []),
  (76, .iaload, 77, 0, 0, 0, []), (77, .iconst 1, 78, 0, 1, 0, []), (78, .iload 5, 80, 5, 0, 0, []), (80, .ishl, 81, 0, 0, 0, []), (81, .ior, 82, 0, 0, 0, []), (82, .iastore, 83, 0, 0, 0, []),
  (83, .iinc 5 1, 86, 5, 1, 0, []), (86, .goto (-40), 89, 46, 0, 0, []), (89, .iinc 4 (-1), 92, 4, (-1), 0, []), (92, .goto (-54), 95, 38, 0, 0, []), (95, .return_, 96, 0, 0, 0, [])])
-- 103 DoorSold$Ways.firstStep(LDoorSold$Country;II)I
def mx_103 : Mx := (⟨"DoorSold$Ways", "firstStep", "(LDoorSold$Country;II)I"⟩, prog_12_method_11_code, 6, (Option.some FieldType.int), [
  (0, .iconst 0, 1, 0, 0, 0, []), (1, .istore 4, 3, 4, 0, 0, []), (3, .iload 4, 5, 4, 0, 0, []), (5, .bipush 8, 7, 0, 8, 0, []), (7, .if_icmp .ge 67, 10, 74, 0, 0, []), (10, .aload_n 1, 11, 1, 0, 0, []),
  (11, .iload 4, 13, 4, 0, 0, []), (13, .iload_n 2, 14, 2, 0, 0, []), (14, .iload_n 3, 15, 3, 0, 0, []), (15, .invokestatic 89, 18, 104, 0, 0, [0, 4]), (18, .ifCond .ne 6, 21, 24, 0, 0, []), (21, .goto 47, 24, 68, 0, 0, []),
  (24, .iload_n 3, 25, 3, 0, 0, []), (25, .aload_n 1, 26, 1, 0, 0, []), (26, .iload 4, 28, 4, 0, 0, []), (28, .invokestatic 86, 31, 105, 0, 0, [0, 2]), (31, .iadd, 32, 0, 0, 0, []), (32, .istore 5, 34, 5, 0, 0, []),
  (34, .iload 5, 36, 5, 0, 0, []), (36, .bipush 30, 38, 0, 30, 0, []), (38, .if_icmp .le 6, 41, 44, 0, 0, []), (41, .goto 27, 44, 68, 0, 0, []), (44, .aload_n 0, 45, 0, 0, 0, []), (45, .getfield 15, 48, 10, 0, 0, [1, 2]),
  (48, .iload 5, 50, 5, 0, 0, []), (50, .iaload, 51, 0, 0, 0, []), (51, .aload_n 1, 52, 1, 0, 0, []), (52, .iload 4, 54, 4, 0, 0, []), (54, .iload_n 2, 55, 2, 0, 0, []), (55, .invokestatic 83, 58, 106, 0, 0, [0, 3]),
  (58, .ishr, 59, 0, 0, 0, []), (59, .iconst 1, 60, 0, 1, 0, []), (60, .iand, 61, 0, 0, 0, []), (61, .iconst 1, 62, 0, 1, 0, []), (62, .if_icmp .ne 6, 65, 68, 0, 0, []), (65, .iload 4, 67, 4, 0, 0, []),
  (67, .ireturn, 68, 0, 0, 0, []), (68, .iinc 4 1, 71, 4, 1, 0, []), (71, .goto (-68), 74, 3, 0, 0, []), (74, .bipush (-9), 76, 0, (-9), 0, []), (76, .ireturn, 77, 0, 0, 0, [])])
-- 104 DoorSold$Ways.canStep(LDoorSold$Country;III)Z
def mx_104 : Mx := (⟨"DoorSold$Ways", "canStep", "(LDoorSold$Country;III)Z"⟩, prog_12_method_12_code, 5, (Option.some FieldType.boolean), [
  (0, .iload_n 1, 1, 1, 0, 0, []), (1, .bipush 6, 3, 0, 6, 0, []), (3, .if_icmp .eq 9, 6, 12, 0, 0, []), (6, .iload_n 1, 7, 1, 0, 0, []), (7, .bipush 7, 9, 0, 7, 0, []), (9, .if_icmp .ne 5, 12, 14, 0, 0, []),
  (12, .iconst 1, 13, 0, 1, 0, []), (13, .ireturn, 14, 1, 0, 0, []), (14, .aload_n 0, 15, 0, 0, 0, []), (15, .getfield 54, 18, 4, 0, 0, [13, 0]), (18, .iload_n 3, 19, 3, 0, 0, []), (19, .iadd, 20, 0, 0, 0, []),
  (20, .istore 4, 22, 4, 0, 0, []), (22, .iload_n 1, 23, 1, 0, 0, []), (23, .aload_n 0, 24, 0, 0, 0, []), (24, .getfield 40, 27, 4, 0, 0, [9, 0]), (27, .if_icmp .ge 36, 30, 63, 0, 0, []), (30, .aload_n 0, 31, 0, 0, 0, []),
  (31, .iload_n 1, 32, 1, 0, 0, []), (32, .invokevirtual 93, 35, 0, 0, 0, [1, 4, 66]), (35, .ifCond .eq 28, 38, 63, 0, 0, []), (38, .aload_n 0, 39, 0, 0, 0, []), (39, .iload_n 1, 40, 1, 0, 0, []), (40, .iload 4, 42, 4, 0, 0, []),
  (42, .invokevirtual 57, 45, 0, 0, 0, [2, 4, 57]), (45, .ifCond .eq 18, 48, 63, 0, 0, []), (48, .aload_n 0, 49, 0, 0, 0, []), (49, .iload_n 1, 50, 1, 0, 0, []), (50, .iload 4, 52, 4, 0, 0, []), (52, .invokevirtual 61, 55, 0, 0, 0, [2, 4, 51]),
  (55, .iload_n 2, 56, 2, 0, 0, []), (56, .if_icmp .ne 7, 59, 63, 0, 0, []), (59, .iconst 1, 60, 0, 1, 0, []), (60, .goto 4, 63, 64, 0, 0, []), (63, .iconst 0, 64, 0, 0, 0, []), (64, .ireturn, 65, 1, 0, 0, [])])
-- 105 DoorSold$Ways.hoursFor(LDoorSold$Country;I)I
def mx_105 : Mx := (⟨"DoorSold$Ways", "hoursFor", "(LDoorSold$Country;I)I"⟩, prog_12_method_14_code, 2, (Option.some FieldType.int), [
  (0, .iload_n 1, 1, 1, 0, 0, []), (1, .bipush 7, 3, 0, 7, 0, []), (3, .if_icmp .ne 5, 6, 8, 0, 0, []), (6, .iconst 1, 7, 0, 1, 0, []), (7, .ireturn, 8, 0, 0, 0, []), (8, .iload_n 1, 9, 1, 0, 0, []),
  (9, .bipush 6, 11, 0, 6, 0, []), (11, .if_icmp .ne 7, 14, 18, 0, 0, []), (14, .iconst 3, 15, 0, 3, 0, []), (15, .goto 8, 18, 23, 0, 0, []), (18, .aload_n 0, 19, 0, 0, 0, []), (19, .iload_n 1, 20, 1, 0, 0, []),
  (20, .invokevirtual 47, 23, 0, 0, 0, [1, 4, 61]), (23, .ireturn, 24, 0, 0, 0, [])])
-- 106 DoorSold$Ways.placeAfter(LDoorSold$Country;II)I
def mx_106 : Mx := (⟨"DoorSold$Ways", "placeAfter", "(LDoorSold$Country;II)I"⟩, prog_12_method_13_code, 3, (Option.some FieldType.int), [
  (0, .iload_n 1, 1, 1, 0, 0, []), (1, .bipush 7, 3, 0, 7, 0, []), (3, .if_icmp .ne 5, 6, 8, 0, 0, []), (6, .iload_n 2, 7, 2, 0, 0, []), (7, .ireturn, 8, 0, 0, 0, []), (8, .iload_n 1, 9, 1, 0, 0, []),
  (9, .bipush 6, 11, 0, 6, 0, []), (11, .if_icmp .ne 13, 14, 24, 0, 0, []), (14, .aload_n 0, 15, 0, 0, 0, []), (15, .iload_n 2, 16, 2, 0, 0, []), (16, .iconst 1, 17, 0, 1, 0, []), (17, .iadd, 18, 0, 0, 0, []),
  (18, .invokevirtual 97, 21, 0, 0, 0, [1, 4, 55]), (21, .goto 8, 24, 29, 0, 0, []), (24, .aload_n 0, 25, 0, 0, 0, []), (25, .iload_n 1, 26, 1, 0, 0, []), (26, .invokevirtual 51, 29, 0, 0, 0, [1, 4, 70]), (29, .ireturn, 30, 0, 0, 0, [])])
-- 107 DoorSold$Ways.firstSteps(LDoorSold$Country;ILDoorSold$Row;)V
def mx_107 : Mx := (⟨"DoorSold$Ways", "firstSteps", "(LDoorSold$Country;ILDoorSold$Row;)V"⟩, prog_12_method_10_code, 8, (none : Option FieldType), [
  (0, .aload_n 1, 1, 1, 0, 0, []), (1, .getfield 26, 4, 4, 0, 0, [12, 0]), (4, .istore 4, 6, 4, 0, 0, []), (6, .iconst 0, 7, 0, 0, 0, []), (7, .istore 5, 9, 5, 0, 0, []), (9, .iconst 0, 10, 0, 0, 0, []),
  (10, .istore 6, 12, 6, 0, 0, []), (12, .iload 6, 14, 6, 0, 0, []), (14, .iload_n 2, 15, 2, 0, 0, []), (15, .if_icmp .ge 61, 18, 76, 0, 0, []), (18, .iload 5, 20, 5, 0, 0, []), (20, .iload_n 2, 21, 2, 0, 0, []),
  (21, .if_icmp .ge 55, 24, 76, 0, 0, []), (24, .aload_n 0, 25, 0, 0, 0, []), (25, .aload_n 1, 26, 1, 0, 0, []), (26, .iload 4, 28, 4, 0, 0, []), (28, .iload 5, 30, 5, 0, 0, []), (30, .invokevirtual 73, 33, 0, 0, 0, [3, 10, 103]),
  (33, .istore 7, 35, 7, 0, 0, []), (35, .iload 7, 37, 7, 0, 0, []), (37, .bipush (-9), 39, 0, (-9), 0, []), (39, .if_icmp .ne 4, 42, 43, 0, 0, []), (42, .return_, 43, 0, 0, 0, []), (43, .aload_n 3, 44, 3, 0, 0, []),
  (44, .iload 7, 46, 7, 0, 0, []), (46, .invokevirtual 77, 49, 0, 0, 0, [1, 8, 108]), (49, .aload_n 1, 50, 1, 0, 0, []), (50, .iload 7, 52, 7, 0, 0, []), (52, .iload 4, 54, 4, 0, 0, []), (54, .invokestatic 83, 57, 106, 0, 0, [0, 3]),
  (57, .istore 4, 59, 4, 0, 0, []), (59, .iload 5, 61, 5, 0, 0, []), (61, .aload_n 1, 62, 1, 0, 0, []), (62, .iload 7, 64, 7, 0, 0, []), (64, .invokestatic 86, 67, 105, 0, 0, [0, 2]), (67, .iadd, 68, 0, 0, 0, []),
  (68, .istore 5, 70, 5, 0, 0, []), (70, .iinc 6 1, 73, 6, 1, 0, []), (73, .goto (-61), 76, 12, 0, 0, []), (76, .return_, 77, 0, 0, 0, [])])
-- 108 DoorSold$Row.append(I)V
def mx_108 : Mx := (⟨"DoorSold$Row", "append", "(I)V"⟩, prog_10_method_5_code, 2, (none : Option FieldType), [
  (0, .aload_n 0, 1, 0, 0, 0, []), (1, .getfield 9, 4, 8, 0, 0, [1, 0]), (4, .ifCond .lt 15, 7, 19, 0, 0, []), (7, .aload_n 0, 8, 0, 0, 0, []), (8, .getfield 9, 11, 8, 0, 0, [1, 0]), (11, .aload_n 0, 12, 0, 0, 0, []),
  (12, .getfield 19, 15, 8, 0, 0, [0, 2]), (15, .arraylength, 16, 1, 0, 0, []), (16, .if_icmp .lt 4, 19, 20, 0, 0, []), (19, .return_, 20, 0, 0, 0, []), (20, .aload_n 0, 21, 0, 0, 0, []), (21, .getfield 19, 24, 8, 0, 0, [0, 2]),
  (24, .aload_n 0, 25, 0, 0, 0, []), (25, .getfield 9, 28, 8, 0, 0, [1, 0]), (28, .iload_n 1, 29, 1, 0, 0, []), (29, .iastore, 30, 0, 0, 0, []), (30, .aload_n 0, 31, 0, 0, 0, []), (31, .dup, 32, 0, 0, 0, []),
  (32, .getfield 9, 35, 8, 0, 0, [1, 0]), (35, .iconst 1, 36, 0, 1, 0, []), (36, .iadd, 37, 0, 0, 0, []), (37, .putfield 9, 40, 8, 0, 0, [1, 0]), (40, .return_, 41, 0, 0, 0, [])])
-- 109 DoorSold.cheapest(II)I
def mx_109 : Mx := (⟨"DoorSold", "cheapest", "(II)I"⟩, prog_1_method_26_code, 7, (Option.some FieldType.int), [
  (0, .aload_n 0, 1, 0, 0, 0, []), (1, .iload_n 1, 2, 1, 0, 0, []), (2, .invokevirtual 239, 5, 0, 0, 0, [1, 11, 98]), (5, .ifCond .ne 10, 8, 15, 0, 0, []), (8, .iload_n 2, 9, 2, 0, 0, []), (9, .invokestatic 229, 12, 90, 0, 0, [0, 1]),
  (12, .ifCond .eq 5, 15, 17, 0, 0, []), (15, .iconst (-1), 16, 0, (-1), 0, []), (16, .ireturn, 17, 0, 0, 0, []), (17, .bipush (-9), 19, 0, (-9), 0, []), (19, .istore_n 3, 20, 3, 0, 0, []), (20, .iconst 0, 21, 0, 0, 0, []),
  (21, .istore 4, 23, 4, 0, 0, []), (23, .iconst 0, 24, 0, 0, 0, []), (24, .istore 5, 26, 5, 0, 0, []), (26, .iload 5, 28, 5, 0, 0, []), (28, .aload_n 0, 29, 0, 0, 0, []), (29, .getfield 45, 32, 11, 0, 0, [3, 2]),
  (32, .invokevirtual 261, 35, 0, 0, 0, [0, 4, 110]), (35, .if_icmp .gt 87, 38, 122, 0, 0, []), (38, .iload 5, 40, 5, 0, 0, []), (40, .aload_n 0, 41, 0, 0, 0, []), (41, .getfield 45, 44, 11, 0, 0, [3, 2]), (44, .getfield 232, 47, 4, 0, 0, [14, 0]),
  (47, .iand, 48, 0, 0, 0, []), (48, .ifCond .eq 6, 51, 54, 0, 0, []), (51, .goto 65, 54, 116, 0, 0, []), (54, .aload_n 0, 55, 0, 0, 0, []), (55, .getfield 45, 58, 11, 0, 0, [3, 2]), (58, .iload 5, 60, 5, 0, 0, []),
  (60, .invokevirtual 265, 63, 0, 0, 0, [1, 4, 111]), (63, .istore 6, 65, 6, 0, 0, []), (65, .iload_n 3, 66, 3, 0, 0, []), (66, .bipush (-9), 68, 0, (-9), 0, []), (68, .if_icmp .eq 12, 71, 80, 0, 0, []), (71, .iload 6, 73, 6, 0, 0, []),
  (73, .iload_n 3, 74, 3, 0, 0, []), (74, .if_icmp .lt 6, 77, 80, 0, 0, []), (77, .goto 39, 80, 116, 0, 0, []), (80, .aload_n 0, 81, 0, 0, 0, []), (81, .getfield 66, 84, 11, 0, 0, [7, 2]), (84, .aload_n 0, 85, 0, 0, 0, []),
  (85, .getfield 45, 88, 11, 0, 0, [3, 2]), (88, .aload_n 0, 89, 0, 0, 0, []), (89, .getfield 45, 92, 11, 0, 0, [3, 2]), (92, .getfield 232, 95, 4, 0, 0, [14, 0]), (95, .iload 5, 97, 5, 0, 0, []), (97, .ior, 98, 0, 0, 0, []),
  (98, .iload_n 1, 99, 1, 0, 0, []), (99, .invokevirtual 242, 102, 0, 0, 0, [3, 10, 99]), (102, .iload_n 2, 103, 2, 0, 0, []), (103, .if_icmp .le 6, 106, 109, 0, 0, []), (106, .goto 10, 109, 116, 0, 0, []), (109, .iload 6, 111, 6, 0, 0, []),
  (111, .istore_n 3, 112, 3, 0, 0, []), (112, .iload 5, 114, 5, 0, 0, []), (114, .istore 4, 116, 4, 0, 0, []), (116, .iinc 5 1, 119, 5, 1, 0, []), (119, .goto (-93), 122, 26, 0, 0, []), (122, .iload_n 3, 123, 3, 0, 0, []),
  (123, .bipush (-9), 125, 0, (-9), 0, []), (125, .if_icmp .eq 9, 128, 134, 0, 0, []), (128, .aload_n 0, 129, 0, 0, 0, []), (129, .iload 4, 131, 4, 0, 0, []), (131, .putfield 88, 134, 11, 0, 0, [12, 0]), (134, .iload_n 3, 135, 3, 0, 0, []),
  (135, .ireturn, 136, 0, 0, 0, [])])
-- 110 DoorSold$Country.allDoors()I
def mx_110 : Mx := (⟨"DoorSold$Country", "allDoors", "()I"⟩, prog_6_method_12_code, 1, (Option.some FieldType.int), [
  (0, .iconst 1, 1, 0, 1, 0, []), (1, .aload_n 0, 2, 0, 0, 0, []), (2, .getfield 37, 5, 4, 0, 0, [9, 0]), (5, .ishl, 6, 0, 0, 0, []), (6, .iconst 1, 7, 0, 1, 0, []), (7, .isub, 8, 0, 0, 0, []),
  (8, .ireturn, 9, 0, 0, 0, [])])
-- 111 DoorSold$Country.costOfSet(I)I
def mx_111 : Mx := (⟨"DoorSold$Country", "costOfSet", "(I)I"⟩, prog_6_method_20_code, 4, (Option.some FieldType.int), [
  (0, .iconst 0, 1, 0, 0, 0, []), (1, .istore_n 2, 2, 2, 0, 0, []), (2, .iconst 0, 3, 0, 0, 0, []), (3, .istore_n 3, 4, 3, 0, 0, []), (4, .iload_n 3, 5, 3, 0, 0, []), (5, .aload_n 0, 6, 0, 0, 0, []),
  (6, .getfield 37, 9, 4, 0, 0, [9, 0]), (9, .if_icmp .ge 26, 12, 35, 0, 0, []), (12, .iload_n 1, 13, 1, 0, 0, []), (13, .iload_n 3, 14, 3, 0, 0, []), (14, .ishr, 15, 0, 0, 0, []), (15, .iconst 1, 16, 0, 1, 0, []),
  (16, .iand, 17, 0, 0, 0, []), (17, .iconst 1, 18, 0, 1, 0, []), (18, .if_icmp .ne 11, 21, 29, 0, 0, []), (21, .iload_n 2, 22, 2, 0, 0, []), (22, .aload_n 0, 23, 0, 0, 0, []), (23, .iload_n 3, 24, 3, 0, 0, []),
  (24, .invokevirtual 86, 27, 0, 0, 0, [1, 4, 45]), (27, .iadd, 28, 0, 0, 0, []), (28, .istore_n 2, 29, 2, 0, 0, []), (29, .iinc 3 1, 32, 3, 1, 0, []), (32, .goto (-28), 35, 4, 0, 0, []), (35, .iload_n 2, 36, 2, 0, 0, []),
  (36, .ireturn, 37, 0, 0, 0, [])])
-- 112 DoorSold.shut(II)I
def mx_112 : Mx := (⟨"DoorSold", "shut", "(II)I"⟩, prog_1_method_27_code, 7, (Option.some FieldType.int), [
  (0, .aload_n 0, 1, 0, 0, 0, []), (1, .iload_n 1, 2, 1, 0, 0, []), (2, .invokevirtual 239, 5, 0, 0, 0, [1, 11, 98]), (5, .ifCond .ne 10, 8, 15, 0, 0, []), (8, .iload_n 2, 9, 2, 0, 0, []), (9, .invokestatic 229, 12, 90, 0, 0, [0, 1]),
  (12, .ifCond .eq 5, 15, 17, 0, 0, []), (15, .iconst (-1), 16, 0, (-1), 0, []), (16, .ireturn, 17, 0, 0, 0, []), (17, .bipush (-9), 19, 0, (-9), 0, []), (19, .istore_n 3, 20, 3, 0, 0, []), (20, .iconst 0, 21, 0, 0, 0, []),
  (21, .istore 4, 23, 4, 0, 0, []), (23, .iconst 0, 24, 0, 0, 0, []), (24, .istore 5, 26, 5, 0, 0, []), (26, .iload 5, 28, 5, 0, 0, []), (28, .aload_n 0, 29, 0, 0, 0, []), (29, .getfield 45, 32, 11, 0, 0, [3, 2]),
  (32, .invokevirtual 261, 35, 0, 0, 0, [0, 4, 110]), (35, .if_icmp .gt 87, 38, 122, 0, 0, []), (38, .iload 5, 40, 5, 0, 0, []), (40, .aload_n 0, 41, 0, 0, 0, []), (41, .getfield 45, 44, 11, 0, 0, [3, 2]), (44, .getfield 232, 47, 4, 0, 0, [14, 0]),
  (47, .iconst (-1), 48, 0, (-1), 0, []), (48, .ixor, 49, 0, 0, 0, []), (49, .iand, 50, 0, 0, 0, []), (50, .ifCond .eq 6, 53, 56, 0, 0, []), (53, .goto 63, 56, 116, 0, 0, []), (56, .iload 5, 58, 5, 0, 0, []),
  (58, .invokestatic 248, 61, 100, 0, 0, [0, 1]), (61, .istore 6, 63, 6, 0, 0, []), (63, .iload_n 3, 64, 3, 0, 0, []), (64, .bipush (-9), 66, 0, (-9), 0, []), (66, .if_icmp .eq 12, 69, 78, 0, 0, []), (69, .iload 6, 71, 6, 0, 0, []),
  (71, .iload_n 3, 72, 3, 0, 0, []), (72, .if_icmp .lt 6, 75, 78, 0, 0, []), (75, .goto 41, 78, 116, 0, 0, []), (78, .aload_n 0, 79, 0, 0, 0, []), (79, .getfield 66, 82, 11, 0, 0, [7, 2]), (82, .aload_n 0, 83, 0, 0, 0, []),
  (83, .getfield 45, 86, 11, 0, 0, [3, 2]), (86, .aload_n 0, 87, 0, 0, 0, []), (87, .getfield 45, 90, 11, 0, 0, [3, 2]), (90, .getfield 232, 93, 4, 0, 0, [14, 0]), (93, .iload 5, 95, 5, 0, 0, []), (95, .iconst (-1), 96, 0, (-1), 0, []),
  (96, .ixor, 97, 0, 0, 0, []), (97, .iand, 98, 0, 0, 0, []), (98, .iload_n 1, 99, 1, 0, 0, []), (99, .invokevirtual 242, 102, 0, 0, 0, [3, 10, 99]), (102, .iload_n 2, 103, 2, 0, 0, []), (103, .if_icmp .gt 6, 106, 109, 0, 0, []),
  (106, .goto 10, 109, 116, 0, 0, []), (109, .iload 6, 111, 6, 0, 0, []), (111, .istore_n 3, 112, 3, 0, 0, []), (112, .iload 5, 114, 5, 0, 0, []), (114, .istore 4, 116, 4, 0, 0, []), (116, .iinc 5 1, 119, 5, 1, 0, []),
  (119, .goto (-93), 122, 26, 0, 0, []), (122, .iload_n 3, 123, 3, 0, 0, []), (123, .bipush (-9), 125, 0, (-9), 0, []), (125, .if_icmp .eq 9, 128, 134, 0, 0, []), (128, .aload_n 0, 129, 0, 0, 0, []), (129, .iload 4, 131, 4, 0, 0, []),
  (131, .putfield 88, 134, 11, 0, 0, [12, 0]), (134, .iload_n 3, 135, 3, 0, 0, []), (135, .ireturn, 136, 0, 0, 0, [])])
-- 113 DoorSold.worth(II)I
def mx_113 : Mx := (⟨"DoorSold", "worth", "(II)I"⟩, prog_1_method_28_code, 5, (Option.some FieldType.int), [
  (0, .aload_n 0, 1, 0, 0, 0, []), (1, .iload_n 1, 2, 1, 0, 0, []), (2, .invokevirtual 161, 5, 0, 0, 0, [1, 11, 43]), (5, .ifCond .ne 11, 8, 16, 0, 0, []), (8, .aload_n 0, 9, 0, 0, 0, []), (9, .iload_n 2, 10, 2, 0, 0, []),
  (10, .invokevirtual 239, 13, 0, 0, 0, [1, 11, 98]), (13, .ifCond .eq 5, 16, 18, 0, 0, []), (16, .iconst (-1), 17, 0, (-1), 0, []), (17, .ireturn, 18, 0, 0, 0, []), (18, .aload_n 0, 19, 0, 0, 0, []), (19, .getfield 66, 22, 11, 0, 0, [7, 2]),
  (22, .aload_n 0, 23, 0, 0, 0, []), (23, .getfield 45, 26, 11, 0, 0, [3, 2]), (26, .aload_n 0, 27, 0, 0, 0, []), (27, .getfield 45, 30, 11, 0, 0, [3, 2]), (30, .getfield 232, 33, 4, 0, 0, [14, 0]), (33, .iconst 1, 34, 0, 1, 0, []),
  (34, .iload_n 1, 35, 1, 0, 0, []), (35, .ishl, 36, 0, 0, 0, []), (36, .iconst (-1), 37, 0, (-1), 0, []), (37, .ixor, 38, 0, 0, 0, []), (38, .iand, 39, 0, 0, 0, []), (39, .iload_n 2, 40, 2, 0, 0, []),
  (40, .invokevirtual 242, 43, 0, 0, 0, [3, 10, 99]), (43, .istore_n 3, 44, 3, 0, 0, []), (44, .aload_n 0, 45, 0, 0, 0, []), (45, .getfield 66, 48, 11, 0, 0, [7, 2]), (48, .aload_n 0, 49, 0, 0, 0, []), (49, .getfield 45, 52, 11, 0, 0, [3, 2]),
  (52, .aload_n 0, 53, 0, 0, 0, []), (53, .getfield 45, 56, 11, 0, 0, [3, 2]), (56, .getfield 232, 59, 4, 0, 0, [14, 0]), (59, .iconst 1, 60, 0, 1, 0, []), (60, .iload_n 1, 61, 1, 0, 0, []), (61, .ishl, 62, 0, 0, 0, []),
  (62, .ior, 63, 0, 0, 0, []), (63, .iload_n 2, 64, 2, 0, 0, []), (64, .invokevirtual 242, 67, 0, 0, 0, [3, 10, 99]), (67, .istore 4, 69, 4, 0, 0, []), (69, .iload_n 3, 70, 3, 0, 0, []), (70, .iload 4, 72, 4, 0, 0, []),
  (72, .isub, 73, 0, 0, 0, []), (73, .ireturn, 74, 0, 0, 0, [])])
-- 114 DoorSold.fits(II)I
def mx_114 : Mx := (⟨"DoorSold", "fits", "(II)I"⟩, prog_1_method_29_code, 7, (Option.some FieldType.int), [
  (0, .aload_n 0, 1, 0, 0, 0, []), (1, .iload_n 1, 2, 1, 0, 0, []), (2, .iload_n 2, 3, 2, 0, 0, []), (3, .invokevirtual 268, 6, 0, 0, 0, [2, 11, 115]), (6, .istore_n 3, 7, 3, 0, 0, []), (7, .iload_n 3, 8, 3, 0, 0, []),
  (8, .ifCond .eq 5, 11, 13, 0, 0, []), (11, .iload_n 3, 12, 3, 0, 0, []), (12, .ireturn, 13, 0, 0, 0, []), (13, .iconst 0, 14, 0, 0, 0, []), (14, .istore 4, 16, 4, 0, 0, []), (16, .iconst 0, 17, 0, 0, 0, []),
  (17, .istore 5, 19, 5, 0, 0, []), (19, .iconst 0, 20, 0, 0, 0, []), (20, .istore 6, 22, 6, 0, 0, []), (22, .iload 6, 24, 6, 0, 0, []), (24, .aload_n 0, 25, 0, 0, 0, []), (25, .getfield 45, 28, 11, 0, 0, [3, 2]),
  (28, .getfield 271, 31, 4, 0, 0, [8, 0]), (31, .if_icmp .ge 93, 34, 124, 0, 0, []), (34, .aload_n 0, 35, 0, 0, 0, []), (35, .aload_n 0, 36, 0, 0, 0, []), (36, .getfield 45, 39, 11, 0, 0, [3, 2]), (39, .getfield 274, 42, 4, 0, 0, [1, 2]),
  (42, .iload_n 1, 43, 1, 0, 0, []), (43, .iaload, 44, 0, 0, 0, []), (44, .iload 6, 46, 6, 0, 0, []), (46, .aload_n 0, 47, 0, 0, 0, []), (47, .getfield 45, 50, 11, 0, 0, [3, 2]), (50, .getfield 277, 53, 4, 0, 0, [4, 2]),
  (53, .iload_n 1, 54, 1, 0, 0, []), (54, .iaload, 55, 0, 0, 0, []), (55, .aload_n 0, 56, 0, 0, 0, []), (56, .getfield 11, 59, 11, 0, 0, [0, 2]), (59, .iload_n 2, 60, 2, 0, 0, []), (60, .aaload, 61, 3, 0, 0, []),
  (61, .invokevirtual 280, 64, 0, 0, 0, [4, 11, 116]), (64, .ifCond .eq 12, 67, 76, 0, 0, []), (67, .iload 4, 69, 4, 0, 0, []), (69, .iconst 1, 70, 0, 1, 0, []), (70, .iload 6, 72, 6, 0, 0, []), (72, .ishl, 73, 0, 0, 0, []),
  (73, .ior, 74, 0, 0, 0, []), (74, .istore 4, 76, 4, 0, 0, []), (76, .aload_n 0, 77, 0, 0, 0, []), (77, .aload_n 0, 78, 0, 0, 0, []), (78, .getfield 45, 81, 11, 0, 0, [3, 2]), (81, .getfield 274, 84, 4, 0, 0, [1, 2]),
  (84, .iload_n 1, 85, 1, 0, 0, []), (85, .iaload, 86, 0, 0, 0, []), (86, .aload_n 0, 87, 0, 0, 0, []), (87, .getfield 45, 90, 11, 0, 0, [3, 2]), (90, .getfield 217, 93, 4, 0, 0, [3, 2]), (93, .iload_n 1, 94, 1, 0, 0, []),
  (94, .iaload, 95, 0, 0, 0, []), (95, .iload 6, 97, 6, 0, 0, []), (97, .aload_n 0, 98, 0, 0, 0, []), (98, .getfield 11, 101, 11, 0, 0, [0, 2]), (101, .iload_n 2, 102, 2, 0, 0, []), (102, .aaload, 103, 3, 0, 0, []),
  (103, .invokevirtual 280, 106, 0, 0, 0, [4, 11, 116]), (106, .ifCond .eq 12, 109, 118, 0, 0, []), (109, .iload 5, 111, 5, 0, 0, []), (111, .iconst 1, 112, 0, 1, 0, []), (112, .iload 6, 114, 6, 0, 0, []), (114, .ishl, 115, 0, 0, 0, []),
  (115, .ior, 116, 0, 0, 0, []), (116, .istore 5, 118, 5, 0, 0, []), (118, .iinc 6 1, 121, 6, 1, 0, []), (121, .goto (-99), 124, 22, 0, 0, []), (124, .aload_n 0, 125, 0, 0, 0, []), (125, .iload 5, 127, 5, 0, 0, []),
  (127, .putfield 88, 130, 11, 0, 0, [12, 0]), (130, .iload 4, 132, 4, 0, 0, []), (132, .ireturn, 133, 0, 0, 0, [])])
-- 115 DoorSold.clueRefusal(II)I
def mx_115 : Mx := (⟨"DoorSold", "clueRefusal", "(II)I"⟩, prog_1_method_53_code, 6, (Option.some FieldType.int), [
  (0, .aload_n 0, 1, 0, 0, 0, []), (1, .iload_n 1, 2, 1, 0, 0, []), (2, .invokevirtual 161, 5, 0, 0, 0, [1, 11, 43]), (5, .ifCond .ne 10, 8, 15, 0, 0, []), (8, .iload_n 2, 9, 2, 0, 0, []), (9, .invokestatic 101, 12, 14, 0, 0, [0, 1]),
  (12, .ifCond .eq 5, 15, 17, 0, 0, []), (15, .iconst (-1), 16, 0, (-1), 0, []), (16, .ireturn, 17, 0, 0, 0, []), (17, .aload_n 0, 18, 0, 0, 0, []), (18, .getfield 11, 21, 11, 0, 0, [0, 2]), (21, .iload_n 2, 22, 2, 0, 0, []),
  (22, .aaload, 23, 3, 0, 0, []), (23, .invokevirtual 120, 26, 0, 0, 0, [0, 8, 20]), (26, .ifCond .eq 9, 29, 35, 0, 0, []), (29, .aload_n 0, 30, 0, 0, 0, []), (30, .iconst 1, 31, 0, 1, 0, []), (31, .invokevirtual 105, 34, 0, 0, 0, [1, 11, 15]),
  (34, .ireturn, 35, 0, 0, 0, []), (35, .aload_n 0, 36, 0, 0, 0, []), (36, .getfield 11, 39, 11, 0, 0, [0, 2]), (39, .iload_n 2, 40, 2, 0, 0, []), (40, .aaload, 41, 3, 0, 0, []), (41, .getfield 124, 44, 8, 0, 0, [1, 0]),
  (44, .iconst 3, 45, 0, 3, 0, []), (45, .irem, 46, 0, 0, 0, []), (46, .ifCond .eq 9, 49, 55, 0, 0, []), (49, .aload_n 0, 50, 0, 0, 0, []), (50, .iconst 5, 51, 0, 5, 0, []), (51, .invokevirtual 105, 54, 0, 0, 0, [1, 11, 15]),
  (54, .ireturn, 55, 0, 0, 0, []), (55, .iconst 0, 56, 0, 0, 0, []), (56, .istore_n 3, 57, 3, 0, 0, []), (57, .iload_n 3, 58, 3, 0, 0, []), (58, .iconst 2, 59, 0, 2, 0, []), (59, .iadd, 60, 0, 0, 0, []),
  (60, .aload_n 0, 61, 0, 0, 0, []), (61, .getfield 11, 64, 11, 0, 0, [0, 2]), (64, .iload_n 2, 65, 2, 0, 0, []), (65, .aaload, 66, 3, 0, 0, []), (66, .getfield 124, 69, 8, 0, 0, [1, 0]), (69, .if_icmp .ge 92, 72, 161, 0, 0, []),
  (72, .aload_n 0, 73, 0, 0, 0, []), (73, .getfield 11, 76, 11, 0, 0, [0, 2]), (76, .iload_n 2, 77, 2, 0, 0, []), (77, .aaload, 78, 3, 0, 0, []), (78, .getfield 117, 81, 8, 0, 0, [0, 2]), (81, .iload_n 3, 82, 3, 0, 0, []),
  (82, .iaload, 83, 0, 0, 0, []), (83, .istore 4, 85, 4, 0, 0, []), (85, .iload 4, 87, 4, 0, 0, []), (87, .ifCond .lt 10, 90, 97, 0, 0, []), (90, .iload 4, 92, 4, 0, 0, []), (92, .bipush 99, 94, 0, 99, 0, []),
  (94, .if_icmp .le 7, 97, 101, 0, 0, []), (97, .iconst 1, 98, 0, 1, 0, []), (98, .goto 4, 101, 102, 0, 0, []), (101, .iconst 0, 102, 0, 0, 0, []), (102, .istore 5, 104, 5, 0, 0, []), (104, .iload 5, 106, 5, 0, 0, []),
  (106, .ifCond .ne 43, 109, 149, 0, 0, []), (109, .aload_n 0, 110, 0, 0, 0, []), (110, .aload_n 0, 111, 0, 0, 0, []), (111, .getfield 11, 114, 11, 0, 0, [0, 2]), (114, .iload_n 2, 115, 2, 0, 0, []), (115, .aaload, 116, 3, 0, 0, []),
  (116, .getfield 117, 119, 8, 0, 0, [0, 2]), (119, .iload_n 3, 120, 3, 0, 0, []), (120, .iconst 1, 121, 0, 1, 0, []), (121, .iadd, 122, 0, 0, 0, []), (122, .iaload, 123, 0, 0, 0, []), (123, .invokevirtual 239, 126, 0, 0, 0, [1, 11, 98]),
  (126, .ifCond .ne 23, 129, 149, 0, 0, []), (129, .aload_n 0, 130, 0, 0, 0, []), (130, .aload_n 0, 131, 0, 0, 0, []), (131, .getfield 11, 134, 11, 0, 0, [0, 2]), (134, .iload_n 2, 135, 2, 0, 0, []), (135, .aaload, 136, 3, 0, 0, []),
  (136, .getfield 117, 139, 8, 0, 0, [0, 2]), (139, .iload_n 3, 140, 3, 0, 0, []), (140, .iconst 2, 141, 0, 2, 0, []), (141, .iadd, 142, 0, 0, 0, []), (142, .iaload, 143, 0, 0, 0, []), (143, .invokevirtual 239, 146, 0, 0, 0, [1, 11, 98]),
  (146, .ifCond .eq 9, 149, 155, 0, 0, []), (149, .aload_n 0, 150, 0, 0, 0, []), (150, .iconst 3, 151, 0, 3, 0, []), (151, .invokevirtual 105, 154, 0, 0, 0, [1, 11, 15]), (154, .ireturn, 155, 0, 0, 0, []), (155, .iinc 3 3, 158, 3, 3, 0, []),
  (158, .goto (-101), 161, 57, 0, 0, []), (161, .iconst 0, 162, 0, 0, 0, []), (162, .ireturn, 163, 0, 0, 0, [])])
-- 116 DoorSold.agrees(IIILDoorSold$Row;)Z
def mx_116 : Mx := (⟨"DoorSold", "agrees", "(IIILDoorSold$Row;)Z"⟩, prog_1_method_59_code, 8, (Option.some FieldType.boolean), [
  (0, .aload_n 0, 1, 0, 0, 0, []), (1, .getfield 45, 4, 11, 0, 0, [3, 2]), (4, .iload_n 1, 5, 1, 0, 0, []), (5, .invokevirtual 343, 8, 0, 0, 0, [1, 4, 46]), (8, .astore 5, 10, 5, 0, 0, []), (10, .iconst 0, 11, 0, 0, 0, []),
  (11, .istore 6, 13, 6, 0, 0, []), (13, .iload 6, 15, 6, 0, 0, []), (15, .iconst 2, 16, 0, 2, 0, []), (16, .iadd, 17, 0, 0, 0, []), (17, .aload 4, 19, 4, 0, 0, []), (19, .getfield 124, 22, 8, 0, 0, [1, 0]),
  (22, .if_icmp .ge 84, 25, 106, 0, 0, []), (25, .aload 4, 27, 4, 0, 0, []), (27, .getfield 117, 30, 8, 0, 0, [0, 2]), (30, .iload 6, 32, 6, 0, 0, []), (32, .iaload, 33, 0, 0, 0, []), (33, .istore 7, 35, 7, 0, 0, []),
  (35, .aload 5, 37, 5, 0, 0, []), (37, .iload 7, 39, 7, 0, 0, []), (39, .invokevirtual 347, 42, 0, 0, 0, [1, 6, 60, 5, 59, 0, 60, 1, 58, 9, 60, 2, 59]), (42, .ifCond .ne 5, 45, 47, 0, 0, []), (45, .iconst 0, 46, 0, 0, 0, []), (46, .ireturn, 47, 1, 0, 0, []),
  (47, .aload_n 0, 48, 0, 0, 0, []), (48, .getfield 45, 51, 11, 0, 0, [3, 2]), (51, .aload 5, 53, 5, 0, 0, []), (53, .iload_n 2, 54, 2, 0, 0, []), (54, .iload_n 3, 55, 3, 0, 0, []), (55, .iload 7, 57, 7, 0, 0, []),
  (57, .invokevirtual 350, 60, 0, 0, 0, [3, 6, 54, 5, 54, 0, 52, 1, 54, 9, 52, 2, 53]), (60, .invokevirtual 196, 63, 0, 0, 0, [1, 4, 55]), (63, .aload 4, 65, 4, 0, 0, []), (65, .getfield 117, 68, 8, 0, 0, [0, 2]), (68, .iload 6, 70, 6, 0, 0, []), (70, .iconst 1, 71, 0, 1, 0, []),
  (71, .iadd, 72, 0, 0, 0, []), (72, .iaload, 73, 0, 0, 0, []), (73, .if_icmp .eq 5, 76, 78, 0, 0, []), (76, .iconst 0, 77, 0, 0, 0, []), (77, .ireturn, 78, 1, 0, 0, []), (78, .aload 5, 80, 5, 0, 0, []),
  (80, .iload_n 2, 81, 2, 0, 0, []), (81, .iload_n 3, 82, 3, 0, 0, []), (82, .invokevirtual 354, 85, 0, 0, 0, [2, 6, 72, 5, 72, 0, 71, 1, 72, 9, 71, 2, 72]), (85, .aload 4, 87, 4, 0, 0, []), (87, .getfield 117, 90, 8, 0, 0, [0, 2]), (90, .iload 6, 92, 6, 0, 0, []),
  (92, .iconst 2, 93, 0, 2, 0, []), (93, .iadd, 94, 0, 0, 0, []), (94, .iaload, 95, 0, 0, 0, []), (95, .if_icmp .eq 5, 98, 100, 0, 0, []), (98, .iconst 0, 99, 0, 0, 0, []), (99, .ireturn, 100, 1, 0, 0, []),
  (100, .iinc 6 3, 103, 6, 3, 0, []), (103, .goto (-90), 106, 13, 0, 0, []), (106, .iconst 1, 107, 0, 1, 0, []), (107, .ireturn, 108, 1, 0, 0, [])])
-- 117 DoorSold.kinds(II)I
def mx_117 : Mx := (⟨"DoorSold", "kinds", "(II)I"⟩, prog_1_method_30_code, 6, (Option.some FieldType.int), [
  (0, .aload_n 0, 1, 0, 0, 0, []), (1, .iload_n 1, 2, 1, 0, 0, []), (2, .iload_n 2, 3, 2, 0, 0, []), (3, .invokevirtual 268, 6, 0, 0, 0, [2, 11, 115]), (6, .istore_n 3, 7, 3, 0, 0, []), (7, .iload_n 3, 8, 3, 0, 0, []),
  (8, .ifCond .eq 5, 11, 13, 0, 0, []), (11, .iload_n 3, 12, 3, 0, 0, []), (12, .ireturn, 13, 0, 0, 0, []), (13, .iconst 0, 14, 0, 0, 0, []), (14, .istore 4, 16, 4, 0, 0, []), (16, .iconst 0, 17, 0, 0, 0, []),
  (17, .istore 5, 19, 5, 0, 0, []), (19, .iload 5, 21, 5, 0, 0, []), (21, .bipush 6, 23, 0, 6, 0, []), (23, .if_icmp .ge 51, 26, 74, 0, 0, []), (26, .aload_n 0, 27, 0, 0, 0, []), (27, .iload 5, 29, 5, 0, 0, []),
  (29, .aload_n 0, 30, 0, 0, 0, []), (30, .getfield 45, 33, 11, 0, 0, [3, 2]), (33, .getfield 217, 36, 4, 0, 0, [3, 2]), (36, .iload_n 1, 37, 1, 0, 0, []), (37, .iaload, 38, 0, 0, 0, []), (38, .aload_n 0, 39, 0, 0, 0, []),
  (39, .getfield 45, 42, 11, 0, 0, [3, 2]), (42, .getfield 277, 45, 4, 0, 0, [4, 2]), (45, .iload_n 1, 46, 1, 0, 0, []), (46, .iaload, 47, 0, 0, 0, []), (47, .aload_n 0, 48, 0, 0, 0, []), (48, .getfield 11, 51, 11, 0, 0, [0, 2]),
  (51, .iload_n 2, 52, 2, 0, 0, []), (52, .aaload, 53, 3, 0, 0, []), (53, .invokevirtual 280, 56, 0, 0, 0, [4, 11, 116]), (56, .ifCond .eq 12, 59, 68, 0, 0, []), (59, .iload 4, 61, 4, 0, 0, []), (61, .iconst 1, 62, 0, 1, 0, []),
  (62, .iload 5, 64, 5, 0, 0, []), (64, .ishl, 65, 0, 0, 0, []), (65, .ior, 66, 0, 0, 0, []), (66, .istore 4, 68, 4, 0, 0, []), (68, .iinc 5 1, 71, 5, 1, 0, []), (71, .goto (-52), 74, 19, 0, 0, []),
  (74, .iload 4, 76, 4, 0, 0, []), (76, .ireturn, 77, 0, 0, 0, [])])
-- 118 DoorSold.round(I)I
def mx_118 : Mx := (⟨"DoorSold", "round", "(I)I"⟩, prog_1_method_31_code, 5, (Option.some FieldType.int), [
  (0, .aload_n 0, 1, 0, 0, 0, []), (1, .iload_n 1, 2, 1, 0, 0, []), (2, .invokevirtual 239, 5, 0, 0, 0, [1, 11, 98]), (5, .ifCond .eq 5, 8, 10, 0, 0, []), (8, .iconst (-1), 9, 0, (-1), 0, []), (9, .ireturn, 10, 0, 0, 0, []),
  (10, .iconst 0, 11, 0, 0, 0, []), (11, .istore_n 2, 12, 2, 0, 0, []), (12, .iload_n 2, 13, 2, 0, 0, []), (13, .bipush 7, 15, 0, 7, 0, []), (15, .if_icmp .ge 17, 18, 32, 0, 0, []), (18, .aload_n 0, 19, 0, 0, 0, []),
  (19, .getfield 77, 22, 11, 0, 0, [9, 2]), (22, .iload_n 2, 23, 2, 0, 0, []), (23, .bipush (-9), 25, 0, (-9), 0, []), (25, .iastore, 26, 0, 0, 0, []), (26, .iinc 2 1, 29, 2, 1, 0, []), (29, .goto (-17), 32, 12, 0, 0, []),
  (32, .iload_n 1, 33, 1, 0, 0, []), (33, .istore_n 2, 34, 2, 0, 0, []), (34, .iconst 0, 35, 0, 0, 0, []), (35, .istore_n 3, 36, 3, 0, 0, []), (36, .iload_n 3, 37, 3, 0, 0, []), (37, .aload_n 0, 38, 0, 0, 0, []),
  (38, .getfield 45, 41, 11, 0, 0, [3, 2]), (41, .getfield 271, 44, 4, 0, 0, [8, 0]), (44, .if_icmp .gt 71, 47, 115, 0, 0, []), (47, .aload_n 0, 48, 0, 0, 0, []), (48, .getfield 77, 51, 11, 0, 0, [9, 2]), (51, .iload_n 2, 52, 2, 0, 0, []),
  (52, .iaload, 53, 0, 0, 0, []), (53, .bipush (-9), 55, 0, (-9), 0, []), (55, .if_icmp .eq 17, 58, 72, 0, 0, []), (58, .aload_n 0, 59, 0, 0, 0, []), (59, .iload_n 2, 60, 2, 0, 0, []), (60, .putfield 88, 63, 11, 0, 0, [12, 0]),
  (63, .iload_n 3, 64, 3, 0, 0, []), (64, .aload_n 0, 65, 0, 0, 0, []), (65, .getfield 77, 68, 11, 0, 0, [9, 2]), (68, .iload_n 2, 69, 2, 0, 0, []), (69, .iaload, 70, 0, 0, 0, []), (70, .isub, 71, 0, 0, 0, []),
  (71, .ireturn, 72, 0, 0, 0, []), (72, .aload_n 0, 73, 0, 0, 0, []), (73, .getfield 77, 76, 11, 0, 0, [9, 2]), (76, .iload_n 2, 77, 2, 0, 0, []), (77, .iload_n 3, 78, 3, 0, 0, []), (78, .iastore, 79, 0, 0, 0, []),
  (79, .aload_n 0, 80, 0, 0, 0, []), (80, .getfield 45, 83, 11, 0, 0, [3, 2]), (83, .iload_n 2, 84, 2, 0, 0, []), (84, .invokevirtual 284, 87, 0, 0, 0, [1, 4, 119]), (87, .istore 4, 89, 4, 0, 0, []), (89, .iload 4, 91, 4, 0, 0, []),
  (91, .bipush (-9), 93, 0, (-9), 0, []), (93, .if_icmp .ne 6, 96, 99, 0, 0, []), (96, .bipush (-9), 98, 0, (-9), 0, []), (98, .ireturn, 99, 0, 0, 0, []), (99, .aload_n 0, 100, 0, 0, 0, []), (100, .getfield 45, 103, 11, 0, 0, [3, 2]),
  (103, .iload 4, 105, 4, 0, 0, []), (105, .invokevirtual 190, 108, 0, 0, 0, [1, 4, 70]), (108, .istore_n 2, 109, 2, 0, 0, []), (109, .iinc 3 1, 112, 3, 1, 0, []), (112, .goto (-76), 115, 36, 0, 0, []), (115, .bipush (-9), 117, 0, (-9), 0, []),
  (117, .ireturn, 118, 0, 0, 0, [])])
-- 119 DoorSold$Country.firstDoorInto(I)I
def mx_119 : Mx := (⟨"DoorSold$Country", "firstDoorInto", "(I)I"⟩, prog_6_method_23_code, 3, (Option.some FieldType.int), [
  (0, .iconst 0, 1, 0, 0, 0, []), (1, .istore_n 2, 2, 2, 0, 0, []), (2, .iload_n 2, 3, 2, 0, 0, []), (3, .aload_n 0, 4, 0, 0, 0, []), (4, .getfield 37, 7, 4, 0, 0, [9, 0]), (7, .if_icmp .ge 24, 10, 31, 0, 0, []),
  (10, .aload_n 0, 11, 0, 0, 0, []), (11, .iload_n 2, 12, 2, 0, 0, []), (12, .aload_n 0, 13, 0, 0, 0, []), (13, .getfield 49, 16, 4, 0, 0, [13, 0]), (16, .invokevirtual 147, 19, 0, 0, 0, [2, 4, 51]), (19, .iload_n 1, 20, 1, 0, 0, []),
  (20, .if_icmp .ne 5, 23, 25, 0, 0, []), (23, .iload_n 2, 24, 2, 0, 0, []), (24, .ireturn, 25, 0, 0, 0, []), (25, .iinc 2 1, 28, 2, 1, 0, []), (28, .goto (-26), 31, 2, 0, 0, []), (31, .bipush (-9), 33, 0, (-9), 0, []),
  (33, .ireturn, 34, 0, 0, 0, [])])
-- 120 DoorSold.faces()I
def mx_120 : Mx := (⟨"DoorSold", "faces", "()I"⟩, prog_1_method_32_code, 5, (Option.some FieldType.int), [
  (0, .aload_n 0, 1, 0, 0, 0, []), (1, .getfield 45, 4, 11, 0, 0, [3, 2]), (4, .getfield 158, 7, 4, 0, 0, [9, 0]), (7, .ifCond .ne 6, 10, 13, 0, 0, []), (10, .bipush (-4), 12, 0, (-4), 0, []), (12, .ireturn, 13, 0, 0, 0, []),
  (13, .iconst 0, 14, 0, 0, 0, []), (14, .istore_n 1, 15, 1, 0, 0, []), (15, .bipush (-9), 17, 0, (-9), 0, []), (17, .istore_n 2, 18, 2, 0, 0, []), (18, .iconst 0, 19, 0, 0, 0, []), (19, .istore_n 3, 20, 3, 0, 0, []),
  (20, .iload_n 3, 21, 3, 0, 0, []), (21, .aload_n 0, 22, 0, 0, 0, []), (22, .getfield 45, 25, 11, 0, 0, [3, 2]), (25, .getfield 158, 28, 4, 0, 0, [9, 0]), (28, .if_icmp .ge 63, 31, 91, 0, 0, []), (31, .iload_n 3, 32, 3, 0, 0, []),
  (32, .iconst 1, 33, 0, 1, 0, []), (33, .iadd, 34, 0, 0, 0, []), (34, .istore 4, 36, 4, 0, 0, []), (36, .iload 4, 38, 4, 0, 0, []), (38, .aload_n 0, 39, 0, 0, 0, []), (39, .getfield 45, 42, 11, 0, 0, [3, 2]),
  (42, .getfield 158, 45, 4, 0, 0, [9, 0]), (45, .if_icmp .ge 40, 48, 85, 0, 0, []), (48, .aload_n 0, 49, 0, 0, 0, []), (49, .getfield 45, 52, 11, 0, 0, [3, 2]), (52, .iload_n 3, 53, 3, 0, 0, []), (53, .iload 4, 55, 4, 0, 0, []),
  (55, .invokevirtual 287, 58, 0, 0, 0, [2, 4, 121]), (58, .ifCond .ne 6, 61, 64, 0, 0, []), (61, .goto 18, 64, 79, 0, 0, []), (64, .iload_n 1, 65, 1, 0, 0, []), (65, .ifCond .ne 11, 68, 76, 0, 0, []), (68, .bipush 10, 70, 0, 10, 0, []),
  (70, .iload_n 3, 71, 3, 0, 0, []), (71, .imul, 72, 0, 0, 0, []), (72, .iload 4, 74, 4, 0, 0, []), (74, .iadd, 75, 0, 0, 0, []), (75, .istore_n 2, 76, 2, 0, 0, []), (76, .iinc 1 1, 79, 1, 1, 0, []),
  (79, .iinc 4 1, 82, 4, 1, 0, []), (82, .goto (-46), 85, 36, 0, 0, []), (85, .iinc 3 1, 88, 3, 1, 0, []), (88, .goto (-68), 91, 20, 0, 0, []), (91, .aload_n 0, 92, 0, 0, 0, []), (92, .iload_n 2, 93, 2, 0, 0, []),
  (93, .putfield 88, 96, 11, 0, 0, [12, 0]), (96, .iload_n 1, 97, 1, 0, 0, []), (97, .ireturn, 98, 0, 0, 0, [])])
-- 121 DoorSold$Country.areFaceToFace(II)Z
def mx_121 : Mx := (⟨"DoorSold$Country", "areFaceToFace", "(II)Z"⟩, prog_6_method_24_code, 3, (Option.some FieldType.boolean), [
  (0, .aload_n 0, 1, 0, 0, 0, []), (1, .iload_n 1, 2, 1, 0, 0, []), (2, .invokevirtual 92, 5, 0, 0, 0, [1, 4, 70]), (5, .aload_n 0, 6, 0, 0, 0, []), (6, .iload_n 2, 7, 2, 0, 0, []), (7, .aload_n 0, 8, 0, 0, 0, []),
  (8, .getfield 49, 11, 4, 0, 0, [13, 0]), (11, .invokevirtual 147, 14, 0, 0, 0, [2, 4, 51]), (14, .if_icmp .ne 24, 17, 38, 0, 0, []), (17, .aload_n 0, 18, 0, 0, 0, []), (18, .iload_n 2, 19, 2, 0, 0, []), (19, .invokevirtual 92, 22, 0, 0, 0, [1, 4, 70]),
  (22, .aload_n 0, 23, 0, 0, 0, []), (23, .iload_n 1, 24, 1, 0, 0, []), (24, .aload_n 0, 25, 0, 0, 0, []), (25, .getfield 49, 28, 4, 0, 0, [13, 0]), (28, .invokevirtual 147, 31, 0, 0, 0, [2, 4, 51]), (31, .if_icmp .ne 7, 34, 38, 0, 0, []),
  (34, .iconst 1, 35, 0, 1, 0, []), (35, .goto 4, 38, 39, 0, 0, []), (38, .iconst 0, 39, 0, 0, 0, []), (39, .ireturn, 40, 1, 0, 0, [])])
-- 122 DoorSold.chase(III)I
def mx_122 : Mx := (⟨"DoorSold", "chase", "(III)I"⟩, prog_1_method_33_code, 4, (Option.some FieldType.int), [
  (0, .aload_n 0, 1, 0, 0, 0, []), (1, .getfield 45, 4, 11, 0, 0, [3, 2]), (4, .getfield 158, 7, 4, 0, 0, [9, 0]), (7, .ifCond .ne 6, 10, 13, 0, 0, []), (10, .bipush (-4), 12, 0, (-4), 0, []), (12, .ireturn, 13, 0, 0, 0, []),
  (13, .aload_n 0, 14, 0, 0, 0, []), (14, .iload_n 1, 15, 1, 0, 0, []), (15, .invokevirtual 239, 18, 0, 0, 0, [1, 11, 98]), (18, .ifCond .ne 21, 21, 39, 0, 0, []), (21, .aload_n 0, 22, 0, 0, 0, []), (22, .iload_n 2, 23, 2, 0, 0, []),
  (23, .invokevirtual 239, 26, 0, 0, 0, [1, 11, 98]), (26, .ifCond .ne 13, 29, 39, 0, 0, []), (29, .iload_n 3, 30, 3, 0, 0, []), (30, .ifCond .lt 9, 33, 39, 0, 0, []), (33, .iload_n 3, 34, 3, 0, 0, []), (34, .bipush 6, 36, 0, 6, 0, []),
  (36, .if_icmp .le 5, 39, 41, 0, 0, []), (39, .iconst (-1), 40, 0, (-1), 0, []), (40, .ireturn, 41, 0, 0, 0, []), (41, .aload_n 0, 42, 0, 0, 0, []), (42, .getfield 73, 45, 11, 0, 0, [8, 2]), (45, .aload_n 0, 46, 0, 0, 0, []),
  (46, .getfield 45, 49, 11, 0, 0, [3, 2]), (49, .iload_n 1, 50, 1, 0, 0, []), (50, .iload_n 2, 51, 2, 0, 0, []), (51, .iload_n 3, 52, 3, 0, 0, []), (52, .invokevirtual 290, 55, 0, 0, 0, [4, 3, 123]), (55, .ireturn, 56, 0, 0, 0, [])])
-- 123 DoorSold$Chase.turnsTillHad(LDoorSold$Country;III)I
def mx_123 : Mx := (⟨"DoorSold$Chase", "turnsTillHad", "(LDoorSold$Country;III)I"⟩, prog_5_method_2_code, 7, (Option.some FieldType.int), [
  (0, .aload_n 0, 1, 0, 0, 0, []), (1, .aload_n 1, 2, 1, 0, 0, []), (2, .invokevirtual 21, 5, 0, 0, 0, [1, 3, 124]), (5, .iconst 0, 6, 0, 0, 0, []), (6, .istore 5, 8, 5, 0, 0, []), (8, .iload 5, 10, 5, 0, 0, []),
  (10, .aload_n 1, 11, 1, 0, 0, []), (11, .getfield 25, 14, 4, 0, 0, [8, 0]), (14, .if_icmp .ge 53, 17, 67, 0, 0, []), (17, .iconst 0, 18, 0, 0, 0, []), (18, .istore 6, 20, 6, 0, 0, []), (20, .iload 6, 22, 6, 0, 0, []),
  (22, .aload_n 1, 23, 1, 0, 0, []), (23, .getfield 25, 26, 4, 0, 0, [8, 0]), (26, .if_icmp .ge 35, 29, 61, 0, 0, []), (29, .aload_n 0, 30, 0, 0, 0, []), (30, .getfield 15, 33, 3, 0, 0, [1, 2]), (33, .bipush 7, 35, 0, 7, 0, []),
  (35, .iload 5, 37, 5, 0, 0, []), (37, .imul, 38, 0, 0, 0, []), (38, .iload 6, 40, 6, 0, 0, []), (40, .iadd, 41, 0, 0, 0, []), (41, .iload 5, 43, 5, 0, 0, []), (43, .iload 6, 45, 6, 0, 0, []),
  (45, .if_icmp .ne 7, 48, 52, 0, 0, []), (48, .iconst 0, 49, 0, 0, 0, []), (49, .goto 5, 52, 54, 0, 0, []), (52, .bipush 99, 54, 0, 99, 0, []), (54, .iastore, 55, 0, 0, 0, []), (55, .iinc 6 1, 58, 6, 1, 0, []),
  (58, .goto (-38), 61, 20, 0, 0, []), (61, .iinc 5 1, 64, 5, 1, 0, []), (64, .goto (-56), 67, 8, 0, 0, []), (67, .iload 4, 69, 4, 0, 0, []), (69, .iconst 1, 70, 0, 1, 0, []), (70, .isub, 71, 0, 0, 0, []),
  (71, .istore 5, 73, 5, 0, 0, []), (73, .iload 5, 75, 5, 0, 0, []), (75, .ifCond .lt 44, 78, 119, 0, 0, []), (78, .aload_n 0, 79, 0, 0, 0, []), (79, .getfield 15, 82, 3, 0, 0, [1, 2]), (82, .iconst 0, 83, 0, 0, 0, []),
  (83, .aload_n 0, 84, 0, 0, 0, []), (84, .getfield 18, 87, 3, 0, 0, [2, 2]), (87, .iconst 0, 88, 0, 0, 0, []), (88, .aload_n 0, 89, 0, 0, 0, []), (89, .getfield 15, 92, 3, 0, 0, [1, 2]), (92, .arraylength, 93, 1, 0, 0, []),
  (93, .invokestatic 31, 96, 0, 0, 0, [5]), (96, .aload_n 0, 97, 0, 0, 0, []), (97, .aload_n 1, 98, 1, 0, 0, []), (98, .iload 5, 100, 5, 0, 0, []), (100, .iconst 2, 101, 0, 2, 0, []), (101, .irem, 102, 0, 0, 0, []),
  (102, .ifCond .ne 7, 105, 109, 0, 0, []), (105, .iconst 1, 106, 0, 1, 0, []), (106, .goto 4, 109, 110, 0, 0, []), (109, .iconst 0, 110, 0, 0, 0, []), (110, .invokevirtual 37, 113, 0, 0, 0, [2, 3, 125]), (113, .iinc 5 (-1), 116, 5, (-1), 0, []),
  (116, .goto (-43), 119, 73, 0, 0, []), (119, .aload_n 0, 120, 0, 0, 0, []), (120, .getfield 15, 123, 3, 0, 0, [1, 2]), (123, .bipush 7, 125, 0, 7, 0, []), (125, .iload_n 2, 126, 2, 0, 0, []), (126, .imul, 127, 0, 0, 0, []),
  (127, .iload_n 3, 128, 3, 0, 0, []), (128, .iadd, 129, 0, 0, 0, []), (129, .iaload, 130, 0, 0, 0, []), (130, .istore 5, 132, 5, 0, 0, []), (132, .iload 5, 134, 5, 0, 0, []), (134, .bipush 99, 136, 0, 99, 0, []),
  (136, .if_icmp .lt 8, 139, 144, 0, 0, []), (139, .bipush (-9), 141, 0, (-9), 0, []), (141, .goto 5, 144, 146, 0, 0, []), (144, .iload 5, 146, 5, 0, 0, []), (146, .ireturn, 147, 0, 0, 0, [])])
-- 124 DoorSold$Chase.findMoves(LDoorSold$Country;)V
def mx_124 : Mx := (⟨"DoorSold$Chase", "findMoves", "(LDoorSold$Country;)V"⟩, prog_5_method_3_code, 3, (none : Option FieldType), [
  (0, .iconst 0, 1, 0, 0, 0, []), (1, .istore_n 2, 2, 2, 0, 0, []), (2, .iload_n 2, 3, 2, 0, 0, []), (3, .aload_n 1, 4, 1, 0, 0, []), (4, .getfield 25, 7, 4, 0, 0, [8, 0]), (7, .if_icmp .ge 28, 10, 35, 0, 0, []),
  (10, .aload_n 0, 11, 0, 0, 0, []), (11, .getfield 9, 14, 3, 0, 0, [0, 2]), (14, .iload_n 2, 15, 2, 0, 0, []), (15, .iconst 1, 16, 0, 1, 0, []), (16, .iload_n 2, 17, 2, 0, 0, []), (17, .ishl, 18, 0, 0, 0, []),
  (18, .iconst 1, 19, 0, 1, 0, []), (19, .aload_n 1, 20, 1, 0, 0, []), (20, .iload_n 2, 21, 2, 0, 0, []), (21, .iconst 1, 22, 0, 1, 0, []), (22, .iadd, 23, 0, 0, 0, []), (23, .invokevirtual 41, 26, 0, 0, 0, [1, 4, 55]),
  (26, .ishl, 27, 0, 0, 0, []), (27, .ior, 28, 0, 0, 0, []), (28, .iastore, 29, 0, 0, 0, []), (29, .iinc 2 1, 32, 2, 1, 0, []), (32, .goto (-30), 35, 2, 0, 0, []), (35, .iconst 0, 36, 0, 0, 0, []),
  (36, .istore_n 2, 37, 2, 0, 0, []), (37, .iload_n 2, 38, 2, 0, 0, []), (38, .aload_n 1, 39, 1, 0, 0, []), (39, .getfield 45, 42, 4, 0, 0, [9, 0]), (42, .if_icmp .ge 33, 45, 75, 0, 0, []), (45, .aload_n 0, 46, 0, 0, 0, []),
  (46, .getfield 9, 49, 3, 0, 0, [0, 2]), (49, .aload_n 1, 50, 1, 0, 0, []), (50, .iload_n 2, 51, 2, 0, 0, []), (51, .aload_n 1, 52, 1, 0, 0, []), (52, .getfield 48, 55, 4, 0, 0, [13, 0]), (55, .invokevirtual 51, 58, 0, 0, 0, [2, 4, 51]),
  (58, .dup2, 59, 0, 0, 0, []), (59, .iaload, 60, 0, 0, 0, []), (60, .iconst 1, 61, 0, 1, 0, []), (61, .aload_n 1, 62, 1, 0, 0, []), (62, .iload_n 2, 63, 2, 0, 0, []), (63, .invokevirtual 55, 66, 0, 0, 0, [1, 4, 70]),
  (66, .ishl, 67, 0, 0, 0, []), (67, .ior, 68, 0, 0, 0, []), (68, .iastore, 69, 0, 0, 0, []), (69, .iinc 2 1, 72, 2, 1, 0, []), (72, .goto (-35), 75, 37, 0, 0, []), (75, .return_, 76, 0, 0, 0, [])])
-- 125 DoorSold$Chase.weighTurn(LDoorSold$Country;Z)V
def mx_125 : Mx := (⟨"DoorSold$Chase", "weighTurn", "(LDoorSold$Country;Z)V"⟩, prog_5_method_4_code, 6, (none : Option FieldType), [
  (0, .iconst 0, 1, 0, 0, 0, []), (1, .istore_n 3, 2, 3, 0, 0, []), (2, .iload_n 3, 3, 3, 0, 0, []), (3, .aload_n 1, 4, 1, 0, 0, []), (4, .getfield 25, 7, 4, 0, 0, [8, 0]), (7, .if_icmp .ge 82, 10, 89, 0, 0, []),
  (10, .iconst 0, 11, 0, 0, 0, []), (11, .istore 4, 13, 4, 0, 0, []), (13, .iload 4, 15, 4, 0, 0, []), (15, .aload_n 1, 16, 1, 0, 0, []), (16, .getfield 25, 19, 4, 0, 0, [8, 0]), (19, .if_icmp .ge 64, 22, 83, 0, 0, []),
  (22, .iload_n 3, 23, 3, 0, 0, []), (23, .iload 4, 25, 4, 0, 0, []), (25, .if_icmp .ne 6, 28, 31, 0, 0, []), (28, .goto 49, 31, 77, 0, 0, []), (31, .iconst 1, 32, 0, 1, 0, []), (32, .iload_n 2, 33, 2, 0, 0, []),
  (33, .ifCond .eq 14, 36, 47, 0, 0, []), (36, .aload_n 0, 37, 0, 0, 0, []), (37, .aload_n 1, 38, 1, 0, 0, []), (38, .iload_n 3, 39, 3, 0, 0, []), (39, .iload 4, 41, 4, 0, 0, []), (41, .invokevirtual 58, 44, 0, 0, 0, [3, 3, 126]),
  (44, .goto 11, 47, 55, 0, 0, []), (47, .aload_n 0, 48, 0, 0, 0, []), (48, .aload_n 1, 49, 1, 0, 0, []), (49, .iload_n 3, 50, 3, 0, 0, []), (50, .iload 4, 52, 4, 0, 0, []), (52, .invokevirtual 62, 55, 0, 0, 0, [3, 3, 127]),
  (55, .iadd, 56, 0, 0, 0, []), (56, .istore 5, 58, 5, 0, 0, []), (58, .aload_n 0, 59, 0, 0, 0, []), (59, .getfield 15, 62, 3, 0, 0, [1, 2]), (62, .bipush 7, 64, 0, 7, 0, []), (64, .iload_n 3, 65, 3, 0, 0, []),
  (65, .imul, 66, 0, 0, 0, []), (66, .iload 4, 68, 4, 0, 0, []), (68, .iadd, 69, 0, 0, 0, []), (69, .bipush 99, 71, 0, 99, 0, []), (71, .iload 5, 73, 5, 0, 0, []), (73, .invokestatic 65, 76, 17, 0, 0, [0, 2]),
  (76, .iastore, 77, 0, 0, 0, []), (77, .iinc 4 1, 80, 4, 1, 0, []), (80, .goto (-67), 83, 13, 0, 0, []), (83, .iinc 3 1, 86, 3, 1, 0, []), (86, .goto (-84), 89, 2, 0, 0, []), (89, .return_, 90, 0, 0, 0, [])])
-- 126 DoorSold$Chase.latest(LDoorSold$Country;II)I
def mx_126 : Mx := (⟨"DoorSold$Chase", "latest", "(LDoorSold$Country;II)I"⟩, prog_5_method_5_code, 6, (Option.some FieldType.int), [
  (0, .iconst 0, 1, 0, 0, 0, []), (1, .istore 4, 3, 4, 0, 0, []), (3, .iconst 0, 4, 0, 0, 0, []), (4, .istore 5, 6, 5, 0, 0, []), (6, .iload 5, 8, 5, 0, 0, []), (8, .aload_n 1, 9, 1, 0, 0, []),
  (9, .getfield 25, 12, 4, 0, 0, [8, 0]), (12, .if_icmp .ge 43, 15, 55, 0, 0, []), (15, .aload_n 0, 16, 0, 0, 0, []), (16, .getfield 9, 19, 3, 0, 0, [0, 2]), (19, .iload_n 2, 20, 2, 0, 0, []), (20, .iaload, 21, 0, 0, 0, []),
  (21, .iload 5, 23, 5, 0, 0, []), (23, .ishr, 24, 0, 0, 0, []), (24, .iconst 1, 25, 0, 1, 0, []), (25, .iand, 26, 0, 0, 0, []), (26, .iconst 1, 27, 0, 1, 0, []), (27, .if_icmp .ne 22, 30, 49, 0, 0, []),
  (30, .iload 4, 32, 4, 0, 0, []), (32, .aload_n 0, 33, 0, 0, 0, []), (33, .getfield 18, 36, 3, 0, 0, [2, 2]), (36, .bipush 7, 38, 0, 7, 0, []), (38, .iload 5, 40, 5, 0, 0, []), (40, .imul, 41, 0, 0, 0, []),
  (41, .iload_n 3, 42, 3, 0, 0, []), (42, .iadd, 43, 0, 0, 0, []), (43, .iaload, 44, 0, 0, 0, []), (44, .invokestatic 70, 47, 12, 0, 0, [0, 2]), (47, .istore 4, 49, 4, 0, 0, []), (49, .iinc 5 1, 52, 5, 1, 0, []),
  (52, .goto (-46), 55, 6, 0, 0, []), (55, .iload 4, 57, 4, 0, 0, []), (57, .ireturn, 58, 0, 0, 0, [])])
-- 127 DoorSold$Chase.earliest(LDoorSold$Country;II)I
def mx_127 : Mx := (⟨"DoorSold$Chase", "earliest", "(LDoorSold$Country;II)I"⟩, prog_5_method_6_code, 6, (Option.some FieldType.int), [
  (0, .bipush 99, 2, 0, 99, 0, []), (2, .istore 4, 4, 4, 0, 0, []), (4, .iconst 0, 5, 0, 0, 0, []), (5, .istore 5, 7, 5, 0, 0, []), (7, .iload 5, 9, 5, 0, 0, []), (9, .aload_n 1, 10, 1, 0, 0, []),
  (10, .getfield 25, 13, 4, 0, 0, [8, 0]), (13, .if_icmp .ge 43, 16, 56, 0, 0, []), (16, .aload_n 0, 17, 0, 0, 0, []), (17, .getfield 9, 20, 3, 0, 0, [0, 2]), (20, .iload_n 3, 21, 3, 0, 0, []), (21, .iaload, 22, 0, 0, 0, []),
  (22, .iload 5, 24, 5, 0, 0, []), (24, .ishr, 25, 0, 0, 0, []), (25, .iconst 1, 26, 0, 1, 0, []), (26, .iand, 27, 0, 0, 0, []), (27, .iconst 1, 28, 0, 1, 0, []), (28, .if_icmp .ne 22, 31, 50, 0, 0, []),
  (31, .iload 4, 33, 4, 0, 0, []), (33, .aload_n 0, 34, 0, 0, 0, []), (34, .getfield 18, 37, 3, 0, 0, [2, 2]), (37, .bipush 7, 39, 0, 7, 0, []), (39, .iload_n 2, 40, 2, 0, 0, []), (40, .imul, 41, 0, 0, 0, []),
  (41, .iload 5, 43, 5, 0, 0, []), (43, .iadd, 44, 0, 0, 0, []), (44, .iaload, 45, 0, 0, 0, []), (45, .invokestatic 65, 48, 17, 0, 0, [0, 2]), (48, .istore 4, 50, 4, 0, 0, []), (50, .iinc 5 1, 53, 5, 1, 0, []),
  (53, .goto (-46), 56, 7, 0, 0, []), (56, .iload 4, 58, 4, 0, 0, []), (58, .ireturn, 59, 0, 0, 0, [])])
-- 128 DoorSold.odds(III)I
def mx_128 : Mx := (⟨"DoorSold", "odds", "(III)I"⟩, prog_1_method_34_code, 7, (Option.some FieldType.int), [
  (0, .aload_n 0, 1, 0, 0, 0, []), (1, .iload_n 1, 2, 1, 0, 0, []), (2, .invokevirtual 239, 5, 0, 0, 0, [1, 11, 98]), (5, .ifCond .ne 17, 8, 22, 0, 0, []), (8, .iload_n 2, 9, 2, 0, 0, []), (9, .invokestatic 229, 12, 90, 0, 0, [0, 1]),
  (12, .ifCond .ne 10, 15, 22, 0, 0, []), (15, .iload_n 3, 16, 3, 0, 0, []), (16, .invokestatic 294, 19, 129, 0, 0, [0, 1]), (19, .ifCond .eq 5, 22, 24, 0, 0, []), (22, .iconst (-1), 23, 0, (-1), 0, []), (23, .ireturn, 24, 0, 0, 0, []),
  (24, .lconst 0, 25, 0, 0, 0, []), (25, .lstore 4, 27, 4, 0, 0, []), (27, .iconst 0, 28, 0, 0, 0, []), (28, .istore 6, 30, 6, 0, 0, []), (30, .iload 6, 32, 6, 0, 0, []), (32, .aload_n 0, 33, 0, 0, 0, []),
  (33, .getfield 45, 36, 11, 0, 0, [3, 2]), (36, .invokevirtual 261, 39, 0, 0, 0, [0, 4, 110]), (39, .if_icmp .gt 57, 42, 96, 0, 0, []), (42, .iload 6, 44, 6, 0, 0, []), (44, .aload_n 0, 45, 0, 0, 0, []), (45, .getfield 45, 48, 11, 0, 0, [3, 2]),
  (48, .getfield 232, 51, 4, 0, 0, [14, 0]), (51, .iconst (-1), 52, 0, (-1), 0, []), (52, .ixor, 53, 0, 0, 0, []), (53, .iand, 54, 0, 0, 0, []), (54, .ifCond .eq 6, 57, 60, 0, 0, []), (57, .goto 33, 60, 90, 0, 0, []),
  (60, .aload_n 0, 61, 0, 0, 0, []), (61, .getfield 66, 64, 11, 0, 0, [7, 2]), (64, .aload_n 0, 65, 0, 0, 0, []), (65, .getfield 45, 68, 11, 0, 0, [3, 2]), (68, .iload 6, 70, 6, 0, 0, []), (70, .iload_n 1, 71, 1, 0, 0, []),
  (71, .invokevirtual 242, 74, 0, 0, 0, [3, 10, 99]), (74, .iload_n 2, 75, 2, 0, 0, []), (75, .if_icmp .gt 15, 78, 90, 0, 0, []), (78, .lload 4, 80, 4, 0, 0, []), (80, .aload_n 0, 81, 0, 0, 0, []), (81, .iload 6, 83, 6, 0, 0, []),
  (83, .iload_n 3, 84, 3, 0, 0, []), (84, .invokevirtual 297, 87, 0, 0, 0, [2, 11, 130]), (87, .ladd, 88, 0, 0, 0, []), (88, .lstore 4, 90, 4, 0, 0, []), (90, .iinc 6 1, 93, 6, 1, 0, []), (93, .goto (-63), 96, 30, 0, 0, []),
  (96, .aload_n 0, 97, 0, 0, 0, []), (97, .lload 4, 99, 4, 0, 0, []), (99, .aload_n 0, 100, 0, 0, 0, []), (100, .invokevirtual 301, 103, 0, 0, 0, [0, 11, 131]), (103, .invokevirtual 304, 106, 0, 0, 0, [2, 11, 132]), (106, .iconst 1, 107, 0, 1, 0, []),
  (107, .ireturn, 108, 0, 0, 0, [])])
-- 129 DoorSold.noChance(I)Z
def mx_129 : Mx := (⟨"DoorSold", "noChance", "(I)Z"⟩, prog_1_method_48_code, 1, (Option.some FieldType.boolean), [
  (0, .iload_n 0, 1, 0, 0, 0, []), (1, .ifCond .lt 9, 4, 10, 0, 0, []), (4, .iload_n 0, 5, 0, 0, 0, []), (5, .bipush 12, 7, 0, 12, 0, []), (7, .if_icmp .le 7, 10, 14, 0, 0, []), (10, .iconst 1, 11, 0, 1, 0, []),
  (11, .goto 4, 14, 15, 0, 0, []), (14, .iconst 0, 15, 0, 0, 0, []), (15, .ireturn, 16, 1, 0, 0, [])])
-- 130 DoorSold.casesWith(II)J
def mx_130 : Mx := (⟨"DoorSold", "casesWith", "(II)J"⟩, prog_1_method_61_code, 6, (Option.some FieldType.long), [
  (0, .lconst 1, 1, 0, 0, 1, []), (1, .lstore_n 3, 2, 3, 0, 0, []), (2, .iconst 0, 3, 0, 0, 0, []), (3, .istore 5, 5, 5, 0, 0, []), (5, .iload 5, 7, 5, 0, 0, []), (7, .aload_n 0, 8, 0, 0, 0, []),
  (8, .getfield 45, 11, 11, 0, 0, [3, 2]), (11, .getfield 158, 14, 4, 0, 0, [9, 0]), (14, .if_icmp .ge 44, 17, 58, 0, 0, []), (17, .aload_n 0, 18, 0, 0, 0, []), (18, .getfield 45, 21, 11, 0, 0, [3, 2]), (21, .iload 5, 23, 5, 0, 0, []),
  (23, .invokevirtual 211, 26, 0, 0, 0, [1, 4, 66]), (26, .ifCond .eq 26, 29, 52, 0, 0, []), (29, .lload_n 3, 30, 3, 0, 0, []), (30, .iload_n 1, 31, 1, 0, 0, []), (31, .iload 5, 33, 5, 0, 0, []), (33, .ishr, 34, 0, 0, 0, []),
  (34, .iconst 1, 35, 0, 1, 0, []), (35, .iand, 36, 0, 0, 0, []), (36, .iconst 1, 37, 0, 1, 0, []), (37, .if_icmp .ne 11, 40, 48, 0, 0, []), (40, .bipush 12, 42, 0, 12, 0, []), (42, .iload_n 2, 43, 2, 0, 0, []),
  (43, .isub, 44, 0, 0, 0, []), (44, .i2l, 45, 0, 0, 0, []), (45, .goto 5, 48, 50, 0, 0, []), (48, .iload_n 2, 49, 2, 0, 0, []), (49, .i2l, 50, 0, 0, 0, []), (50, .lmul, 51, 0, 0, 0, []),
  (51, .lstore_n 3, 52, 3, 0, 0, []), (52, .iinc 5 1, 55, 5, 1, 0, []), (55, .goto (-50), 58, 5, 0, 0, []), (58, .lload_n 3, 59, 3, 0, 0, []), (59, .lreturn, 60, 0, 0, 0, [])])
-- 131 DoorSold.allCases()J
def mx_131 : Mx := (⟨"DoorSold", "allCases", "()J"⟩, prog_1_method_62_code, 4, (Option.some FieldType.long), [
  (0, .lconst 1, 1, 0, 0, 1, []), (1, .lstore_n 1, 2, 1, 0, 0, []), (2, .iconst 0, 3, 0, 0, 0, []), (3, .istore_n 3, 4, 3, 0, 0, []), (4, .iload_n 3, 5, 3, 0, 0, []), (5, .aload_n 0, 6, 0, 0, 0, []),
  (6, .getfield 45, 9, 11, 0, 0, [3, 2]), (9, .getfield 158, 12, 4, 0, 0, [9, 0]), (12, .if_icmp .ge 26, 15, 38, 0, 0, []), (15, .aload_n 0, 16, 0, 0, 0, []), (16, .getfield 45, 19, 11, 0, 0, [3, 2]), (19, .iload_n 3, 20, 3, 0, 0, []),
  (20, .invokevirtual 211, 23, 0, 0, 0, [1, 4, 66]), (23, .ifCond .eq 9, 26, 32, 0, 0, []), (26, .lload_n 1, 27, 1, 0, 0, []), (27, .ldc2_w 361, 30, 0, 0, 12, []), (30, .lmul, 31, 0, 0, 0, []), (31, .lstore_n 1, 32, 1, 0, 0, []),
  (32, .iinc 3 1, 35, 3, 1, 0, []), (35, .goto (-31), 38, 4, 0, 0, []), (38, .lload_n 1, 39, 1, 0, 0, []), (39, .lreturn, 40, 0, 0, 0, [])])
-- 132 DoorSold.tellFraction(JJ)V
def mx_132 : Mx := (⟨"DoorSold", "tellFraction", "(JJ)V"⟩, prog_1_method_63_code, 12, (none : Option FieldType), [
  (0, .lload_n 3, 1, 3, 0, 0, []), (1, .lstore 5, 3, 5, 0, 0, []), (3, .lload_n 1, 4, 1, 0, 0, []), (4, .lstore 7, 6, 7, 0, 0, []), (6, .iconst 0, 7, 0, 0, 0, []), (7, .istore 9, 9, 9, 0, 0, []),
  (9, .iload 9, 11, 9, 0, 0, []), (11, .sipush 128, 14, 0, 128, 0, []), (14, .if_icmp .ge 31, 17, 45, 0, 0, []), (17, .lload 7, 19, 7, 0, 0, []), (19, .lconst 0, 20, 0, 0, 0, []), (20, .lcmp, 21, 0, 0, 0, []),
  (21, .ifCond .eq 24, 24, 45, 0, 0, []), (24, .lload 5, 26, 5, 0, 0, []), (26, .lload 7, 28, 7, 0, 0, []), (28, .lrem, 29, 0, 0, 0, []), (29, .lstore 10, 31, 10, 0, 0, []), (31, .lload 7, 33, 7, 0, 0, []),
  (33, .lstore 5, 35, 5, 0, 0, []), (35, .lload 10, 37, 10, 0, 0, []), (37, .lstore 7, 39, 7, 0, 0, []), (39, .iinc 9 1, 42, 9, 1, 0, []), (42, .goto (-33), 45, 9, 0, 0, []), (45, .lload 5, 47, 5, 0, 0, []),
  (47, .lconst 1, 48, 0, 0, 1, []), (48, .lcmp, 49, 0, 0, 0, []), (49, .ifCond .ge 6, 52, 55, 0, 0, []), (52, .lconst 1, 53, 0, 0, 1, []), (53, .lstore 5, 55, 5, 0, 0, []), (55, .aload_n 0, 56, 0, 0, 0, []),
  (56, .lload_n 1, 57, 1, 0, 0, []), (57, .lload 5, 59, 5, 0, 0, []), (59, .ldiv, 60, 0, 0, 0, []), (60, .putfield 91, 63, 11, 0, 0, [13, 1]), (63, .aload_n 0, 64, 0, 0, 0, []), (64, .lload_n 3, 65, 3, 0, 0, []),
  (65, .lload 5, 67, 5, 0, 0, []), (67, .ldiv, 68, 0, 0, 0, []), (68, .putfield 95, 71, 11, 0, 0, [14, 1]), (71, .return_, 72, 0, 0, 0, [])])
-- 133 DoorSold.mid(II)I
def mx_133 : Mx := (⟨"DoorSold", "mid", "(II)I"⟩, prog_1_method_35_code, 6, (Option.some FieldType.int), [
  (0, .aload_n 0, 1, 0, 0, 0, []), (1, .iload_n 1, 2, 1, 0, 0, []), (2, .invokevirtual 239, 5, 0, 0, 0, [1, 11, 98]), (5, .ifCond .ne 10, 8, 15, 0, 0, []), (8, .iload_n 2, 9, 2, 0, 0, []), (9, .invokestatic 294, 12, 129, 0, 0, [0, 1]),
  (12, .ifCond .eq 5, 15, 17, 0, 0, []), (15, .iconst (-1), 16, 0, (-1), 0, []), (16, .ireturn, 17, 0, 0, 0, []), (17, .lconst 0, 18, 0, 0, 0, []), (18, .lstore_n 3, 19, 3, 0, 0, []), (19, .iconst 0, 20, 0, 0, 0, []),
  (20, .istore 5, 22, 5, 0, 0, []), (22, .iload 5, 24, 5, 0, 0, []), (24, .aload_n 0, 25, 0, 0, 0, []), (25, .getfield 45, 28, 11, 0, 0, [3, 2]), (28, .invokevirtual 261, 31, 0, 0, 0, [0, 4, 110]), (31, .if_icmp .gt 53, 34, 84, 0, 0, []),
  (34, .iload 5, 36, 5, 0, 0, []), (36, .aload_n 0, 37, 0, 0, 0, []), (37, .getfield 45, 40, 11, 0, 0, [3, 2]), (40, .getfield 232, 43, 4, 0, 0, [14, 0]), (43, .iconst (-1), 44, 0, (-1), 0, []), (44, .ixor, 45, 0, 0, 0, []),
  (45, .iand, 46, 0, 0, 0, []), (46, .ifCond .eq 6, 49, 52, 0, 0, []), (49, .goto 29, 52, 78, 0, 0, []), (52, .lload_n 3, 53, 3, 0, 0, []), (53, .aload_n 0, 54, 0, 0, 0, []), (54, .iload 5, 56, 5, 0, 0, []),
  (56, .iload_n 2, 57, 2, 0, 0, []), (57, .invokevirtual 297, 60, 0, 0, 0, [2, 11, 130]), (60, .aload_n 0, 61, 0, 0, 0, []), (61, .getfield 66, 64, 11, 0, 0, [7, 2]), (64, .aload_n 0, 65, 0, 0, 0, []), (65, .getfield 45, 68, 11, 0, 0, [3, 2]),
  (68, .iload 5, 70, 5, 0, 0, []), (70, .iload_n 1, 71, 1, 0, 0, []), (71, .invokevirtual 242, 74, 0, 0, 0, [3, 10, 99]), (74, .i2l, 75, 0, 0, 0, []), (75, .lmul, 76, 0, 0, 0, []), (76, .ladd, 77, 0, 0, 0, []),
  (77, .lstore_n 3, 78, 3, 0, 0, []), (78, .iinc 5 1, 81, 5, 1, 0, []), (81, .goto (-59), 84, 22, 0, 0, []), (84, .aload_n 0, 85, 0, 0, 0, []), (85, .lload_n 3, 86, 3, 0, 0, []), (86, .aload_n 0, 87, 0, 0, 0, []),
  (87, .invokevirtual 301, 90, 0, 0, 0, [0, 11, 131]), (90, .invokevirtual 304, 93, 0, 0, 0, [2, 11, 132]), (93, .iconst 1, 94, 0, 1, 0, []), (94, .ireturn, 95, 0, 0, 0, [])])
-- 134 DoorSold.lots(II)I
def mx_134 : Mx := (⟨"DoorSold", "lots", "(II)I"⟩, prog_1_method_36_code, 6, (Option.some FieldType.int), [
  (0, .iload_n 1, 1, 1, 0, 0, []), (1, .iconst 1, 2, 0, 1, 0, []), (2, .if_icmp .lt 23, 5, 25, 0, 0, []), (5, .iload_n 1, 6, 1, 0, 0, []), (6, .bipush 20, 8, 0, 20, 0, []), (8, .if_icmp .gt 17, 11, 25, 0, 0, []),
  (11, .iload_n 2, 12, 2, 0, 0, []), (12, .iconst 1, 13, 0, 1, 0, []), (13, .if_icmp .lt 12, 16, 25, 0, 0, []), (16, .iload_n 2, 17, 2, 0, 0, []), (17, .i2l, 18, 0, 0, 0, []), (18, .ldc2_w 308, 21, 0, 0, 2147483647, []),
  (21, .lcmp, 22, 0, 0, 0, []), (22, .ifCond .lt 5, 25, 27, 0, 0, []), (25, .iconst (-1), 26, 0, (-1), 0, []), (26, .ireturn, 27, 0, 0, 0, []), (27, .aload_n 0, 28, 0, 0, 0, []), (28, .getfield 45, 31, 11, 0, 0, [3, 2]),
  (31, .getfield 158, 34, 4, 0, 0, [9, 0]), (34, .ifCond .ne 6, 37, 40, 0, 0, []), (37, .bipush (-4), 39, 0, (-4), 0, []), (39, .ireturn, 40, 0, 0, 0, []), (40, .aload_n 0, 41, 0, 0, 0, []), (41, .getfield 45, 44, 11, 0, 0, [3, 2]),
  (44, .iload_n 1, 45, 1, 0, 0, []), (45, .invokevirtual 202, 48, 0, 0, 0, [1, 4, 74]), (48, .ifCond .ne 6, 51, 54, 0, 0, []), (51, .bipush (-2), 53, 0, (-2), 0, []), (53, .ireturn, 54, 0, 0, 0, []), (54, .iload_n 2, 55, 2, 0, 0, []),
  (55, .i2l, 56, 0, 0, 0, []), (56, .lstore_n 3, 57, 3, 0, 0, []), (57, .iconst 0, 58, 0, 0, 0, []), (58, .istore 5, 60, 5, 0, 0, []), (60, .iload 5, 62, 5, 0, 0, []), (62, .iload_n 1, 63, 1, 0, 0, []),
  (63, .if_icmp .ge 31, 66, 94, 0, 0, []), (66, .lload_n 3, 67, 3, 0, 0, []), (67, .ldc2_w 310, 70, 0, 0, 48271, []), (70, .lmul, 71, 0, 0, 0, []), (71, .ldc2_w 308, 74, 0, 0, 2147483647, []), (74, .lrem, 75, 0, 0, 0, []),
  (75, .lstore_n 3, 76, 3, 0, 0, []), (76, .aload_n 0, 77, 0, 0, 0, []), (77, .getfield 45, 80, 11, 0, 0, [3, 2]), (80, .aload_n 0, 81, 0, 0, 0, []), (81, .lload_n 3, 82, 3, 0, 0, []), (82, .invokevirtual 312, 85, 0, 0, 0, [1, 11, 135]),
  (85, .invokevirtual 205, 88, 0, 0, 0, [1, 4, 75]), (88, .iinc 5 1, 91, 5, 1, 0, []), (91, .goto (-31), 94, 60, 0, 0, []), (94, .aload_n 0, 95, 0, 0, 0, []), (95, .getfield 45, 98, 11, 0, 0, [3, 2]), (98, .getfield 199, 101, 4, 0, 0, [12, 0]),
  (101, .ireturn, 102, 0, 0, 0, [])])
-- 135 DoorSold.stepByLot(J)I
def mx_135 : Mx := (⟨"DoorSold", "stepByLot", "(J)I"⟩, prog_1_method_60_code, 4, (Option.some FieldType.int), [
  (0, .lload_n 1, 1, 1, 0, 0, []), (1, .ldc2_w 357, 4, 0, 0, 8, []), (4, .ldiv, 5, 0, 0, 0, []), (5, .iconst 1, 6, 0, 1, 0, []), (6, .aload_n 0, 7, 0, 0, 0, []), (7, .getfield 45, 10, 11, 0, 0, [3, 2]),
  (10, .getfield 158, 13, 4, 0, 0, [9, 0]), (13, .invokestatic 179, 16, 12, 0, 0, [0, 2]), (16, .i2l, 17, 0, 0, 0, []), (17, .lrem, 18, 0, 0, 0, []), (18, .l2i, 19, 0, 0, 0, []), (19, .istore_n 3, 20, 3, 0, 0, []),
  (20, .aload_n 0, 21, 0, 0, 0, []), (21, .getfield 45, 24, 11, 0, 0, [3, 2]), (24, .iload_n 3, 25, 3, 0, 0, []), (25, .invokevirtual 208, 28, 0, 0, 0, [1, 4, 80]), (28, .ifCond .eq 5, 31, 33, 0, 0, []), (31, .iload_n 3, 32, 3, 0, 0, []),
  (32, .ireturn, 33, 0, 0, 0, []), (33, .lload_n 1, 34, 1, 0, 0, []), (34, .ldc2_w 359, 37, 0, 0, 3, []), (37, .lrem, 38, 0, 0, 0, []), (38, .lconst 0, 39, 0, 0, 0, []), (39, .lcmp, 40, 0, 0, 0, []),
  (40, .ifCond .ne 8, 43, 48, 0, 0, []), (43, .bipush 6, 45, 0, 6, 0, []), (45, .goto 5, 48, 50, 0, 0, []), (48, .bipush 7, 50, 0, 7, 0, []), (50, .ireturn, 51, 0, 0, 0, [])])
-- 136 DoorSold.asked()I
def mx_136 : Mx := (⟨"DoorSold", "asked", "()I"⟩, prog_1_method_37_code, 1, (Option.some FieldType.int), [
  (0, .aload_n 0, 1, 0, 0, 0, []), (1, .getfield 88, 4, 11, 0, 0, [12, 0]), (4, .ireturn, 5, 0, 0, 0, [])])
-- 137 DoorSold.upper()J
def mx_137 : Mx := (⟨"DoorSold", "upper", "()J"⟩, prog_1_method_38_code, 1, (Option.some FieldType.long), [
  (0, .aload_n 0, 1, 0, 0, 0, []), (1, .getfield 91, 4, 11, 0, 0, [13, 1]), (4, .lreturn, 5, 0, 0, 0, [])])
-- 138 DoorSold.lower()J
def mx_138 : Mx := (⟨"DoorSold", "lower", "()J"⟩, prog_1_method_39_code, 1, (Option.some FieldType.long), [
  (0, .aload_n 0, 1, 0, 0, 0, []), (1, .getfield 95, 4, 11, 0, 0, [14, 1]), (4, .lreturn, 5, 0, 0, 0, [])])
-- 139 DoorSold.count(I)I
def mx_139 : Mx := (⟨"DoorSold", "count", "(I)I"⟩, prog_1_method_40_code, 2, (Option.some FieldType.int), [
  (0, .iload_n 1, 1, 1, 0, 0, []), (1, .tableswitch 142 0 10 #[59, 67, 75, 83, 91, 99, 107, 115, 121, 129, 137], 60, 143, 0, 0, [60, 68, 76, 84, 92, 100, 108, 116, 122, 130, 138]), (60, .aload_n 0, 61, 0, 0, 0, []), (61, .getfield 45, 64, 11, 0, 0, [3, 2]), (64, .getfield 158, 67, 4, 0, 0, [9, 0]), (67, .ireturn, 68, 0, 0, 0, []),
  (68, .aload_n 0, 69, 0, 0, 0, []), (69, .getfield 45, 72, 11, 0, 0, [3, 2]), (72, .getfield 271, 75, 4, 0, 0, [8, 0]), (75, .ireturn, 76, 0, 0, 0, []), (76, .aload_n 0, 77, 0, 0, 0, []), (77, .getfield 45, 80, 11, 0, 0, [3, 2]),
  (80, .getfield 199, 83, 4, 0, 0, [12, 0]), (83, .ireturn, 84, 0, 0, 0, []), (84, .aload_n 0, 85, 0, 0, 0, []), (85, .getfield 45, 88, 11, 0, 0, [3, 2]), (88, .getfield 184, 91, 4, 0, 0, [13, 0]), (91, .ireturn, 92, 0, 0, 0, []),
  (92, .aload_n 0, 93, 0, 0, 0, []), (93, .getfield 45, 96, 11, 0, 0, [3, 2]), (96, .getfield 214, 99, 4, 0, 0, [11, 0]), (99, .ireturn, 100, 0, 0, 0, []), (100, .aload_n 0, 101, 0, 0, 0, []), (101, .getfield 45, 104, 11, 0, 0, [3, 2]),
  (104, .getfield 220, 107, 4, 0, 0, [15, 0]), (107, .ireturn, 108, 0, 0, 0, []), (108, .aload_n 0, 109, 0, 0, 0, []), (109, .getfield 45, 112, 11, 0, 0, [3, 2]), (112, .getfield 232, 115, 4, 0, 0, [14, 0]), (115, .ireturn, 116, 0, 0, 0, []),
  (116, .aload_n 0, 117, 0, 0, 0, []), (117, .iconst 1, 118, 0, 1, 0, []), (118, .invokevirtual 316, 121, 0, 0, 0, [1, 11, 140]), (121, .ireturn, 122, 0, 0, 0, []), (122, .aload_n 0, 123, 0, 0, 0, []), (123, .getfield 11, 126, 11, 0, 0, [0, 2]),
  (126, .invokestatic 319, 129, 141, 0, 0, [0, 1]), (129, .ireturn, 130, 0, 0, 0, []), (130, .aload_n 0, 131, 0, 0, 0, []), (131, .getfield 15, 134, 11, 0, 0, [1, 2]), (134, .invokestatic 319, 137, 141, 0, 0, [0, 1]), (137, .ireturn, 138, 0, 0, 0, []),
  (138, .aload_n 0, 139, 0, 0, 0, []), (139, .invokevirtual 323, 142, 0, 0, 0, [0, 11, 142]), (142, .ireturn, 143, 0, 0, 0, []), (143, .iconst (-1), 144, 0, (-1), 0, []), (144, .ireturn, 145, 0, 0, 0, [])])
-- 140 DoorSold.doorsOf(I)I
def mx_140 : Mx := (⟨"DoorSold", "doorsOf", "(I)I"⟩, prog_1_method_56_code, 4, (Option.some FieldType.int), [
  (0, .iconst 0, 1, 0, 0, 0, []), (1, .istore_n 2, 2, 2, 0, 0, []), (2, .iconst 0, 3, 0, 0, 0, []), (3, .istore_n 3, 4, 3, 0, 0, []), (4, .iload_n 3, 5, 3, 0, 0, []), (5, .aload_n 0, 6, 0, 0, 0, []),
  (6, .getfield 45, 9, 11, 0, 0, [3, 2]), (9, .getfield 158, 12, 4, 0, 0, [9, 0]), (12, .if_icmp .ge 24, 15, 36, 0, 0, []), (15, .aload_n 0, 16, 0, 0, 0, []), (16, .getfield 45, 19, 11, 0, 0, [3, 2]), (19, .iload_n 3, 20, 3, 0, 0, []),
  (20, .iload_n 1, 21, 1, 0, 0, []), (21, .invokevirtual 167, 24, 0, 0, 0, [2, 4, 68]), (24, .ifCond .eq 6, 27, 30, 0, 0, []), (27, .iinc 2 1, 30, 2, 1, 0, []), (30, .iinc 3 1, 33, 3, 1, 0, []), (33, .goto (-29), 36, 4, 0, 0, []),
  (36, .iload_n 2, 37, 2, 0, 0, []), (37, .ireturn, 38, 0, 0, 0, [])])
-- 141 DoorSold.howManyThere([LDoorSold$Row;)I
def mx_141 : Mx := (⟨"DoorSold", "howManyThere", "([LDoorSold$Row;)I"⟩, prog_1_method_57_code, 3, (Option.some FieldType.int), [
  (0, .iconst 0, 1, 0, 0, 0, []), (1, .istore_n 1, 2, 1, 0, 0, []), (2, .iconst 0, 3, 0, 0, 0, []), (3, .istore_n 2, 4, 2, 0, 0, []), (4, .iload_n 2, 5, 2, 0, 0, []), (5, .aload_n 0, 6, 0, 0, 0, []),
  (6, .arraylength, 7, 3, 0, 0, []), (7, .if_icmp .ge 21, 10, 28, 0, 0, []), (10, .aload_n 0, 11, 0, 0, 0, []), (11, .iload_n 2, 12, 2, 0, 0, []), (12, .aaload, 13, 3, 0, 0, []), (13, .invokevirtual 120, 16, 0, 0, 0, [0, 8, 20]),
  (16, .ifCond .ne 6, 19, 22, 0, 0, []), (19, .iinc 1 1, 22, 1, 1, 0, []), (22, .iinc 2 1, 25, 2, 1, 0, []), (25, .goto (-21), 28, 4, 0, 0, []), (28, .iload_n 1, 29, 1, 0, 0, []), (29, .ireturn, 30, 0, 0, 0, [])])
-- 142 DoorSold.keptCountries()I
def mx_142 : Mx := (⟨"DoorSold", "keptCountries", "()I"⟩, prog_1_method_58_code, 3, (Option.some FieldType.int), [
  (0, .iconst 0, 1, 0, 0, 0, []), (1, .istore_n 1, 2, 1, 0, 0, []), (2, .iconst 0, 3, 0, 0, 0, []), (3, .istore_n 2, 4, 2, 0, 0, []), (4, .iload_n 2, 5, 2, 0, 0, []), (5, .iconst 3, 6, 0, 3, 0, []),
  (6, .if_icmp .ge 24, 9, 30, 0, 0, []), (9, .aload_n 0, 10, 0, 0, 0, []), (10, .getfield 52, 13, 11, 0, 0, [5, 2]), (13, .iload_n 2, 14, 2, 0, 0, []), (14, .aaload, 15, 5, 0, 0, []), (15, .getfield 158, 18, 4, 0, 0, [9, 0]),
  (18, .ifCond .eq 6, 21, 24, 0, 0, []), (21, .iinc 1 1, 24, 1, 1, 0, []), (24, .iinc 2 1, 27, 2, 1, 0, []), (27, .goto (-23), 30, 4, 0, 0, []), (30, .iload_n 1, 31, 1, 0, 0, []), (31, .ireturn, 32, 0, 0, 0, [])])
-- 143 DoorSold.finding()I
def mx_143 : Mx := (⟨"DoorSold", "finding", "()I"⟩, prog_1_method_41_code, 1, (Option.some FieldType.int), [
  (0, .aload_n 0, 1, 0, 0, 0, []), (1, .getfield 84, 4, 11, 0, 0, [11, 0]), (4, .ireturn, 5, 0, 0, 0, [])])
-- 144 DoorSold.findings(I)I
def mx_144 : Mx := (⟨"DoorSold", "findings", "(I)I"⟩, prog_1_method_42_code, 2, (Option.some FieldType.int), [
  (0, .iload_n 1, 1, 1, 0, 0, []), (1, .iconst 1, 2, 0, 1, 0, []), (2, .if_icmp .lt 8, 5, 10, 0, 0, []), (5, .iload_n 1, 6, 1, 0, 0, []), (6, .iconst 5, 7, 0, 5, 0, []), (7, .if_icmp .le 5, 10, 12, 0, 0, []),
  (10, .iconst (-1), 11, 0, (-1), 0, []), (11, .ireturn, 12, 0, 0, 0, []), (12, .aload_n 0, 13, 0, 0, 0, []), (13, .getfield 81, 16, 11, 0, 0, [10, 2]), (16, .iload_n 1, 17, 1, 0, 0, []), (17, .iaload, 18, 0, 0, 0, []),
  (18, .ireturn, 19, 0, 0, 0, [])])
-- 145 DoorSold.digest()J
def mx_145 : Mx := (⟨"DoorSold", "digest", "()J"⟩, prog_1_method_43_code, 5, (Option.some FieldType.long), [
  (0, .ldc2_w 326, 3, 0, 0, 17, []), (3, .lstore_n 1, 4, 1, 0, 0, []), (4, .iconst 0, 5, 0, 0, 0, []), (5, .istore_n 3, 6, 3, 0, 0, []), (6, .iload_n 3, 7, 3, 0, 0, []), (7, .bipush 11, 9, 0, 11, 0, []),
  (9, .if_icmp .ge 22, 12, 31, 0, 0, []), (12, .ldc2_w 328, 15, 0, 0, 31, []), (15, .lload_n 1, 16, 1, 0, 0, []), (16, .lmul, 17, 0, 0, 0, []), (17, .aload_n 0, 18, 0, 0, 0, []), (18, .iload_n 3, 19, 3, 0, 0, []),
  (19, .invokevirtual 330, 22, 0, 0, 0, [1, 11, 139]), (22, .i2l, 23, 0, 0, 0, []), (23, .ladd, 24, 0, 0, 0, []), (24, .lstore_n 1, 25, 1, 0, 0, []), (25, .iinc 3 1, 28, 3, 1, 0, []), (28, .goto (-22), 31, 6, 0, 0, []),
  (31, .iconst 0, 32, 0, 0, 0, []), (32, .istore_n 3, 33, 3, 0, 0, []), (33, .iload_n 3, 34, 3, 0, 0, []), (34, .aload_n 0, 35, 0, 0, 0, []), (35, .getfield 45, 38, 11, 0, 0, [3, 2]), (38, .getfield 158, 41, 4, 0, 0, [9, 0]),
  (41, .if_icmp .ge 40, 44, 81, 0, 0, []), (44, .iconst 0, 45, 0, 0, 0, []), (45, .istore 4, 47, 4, 0, 0, []), (47, .iload 4, 49, 4, 0, 0, []), (49, .bipush 8, 51, 0, 8, 0, []), (51, .if_icmp .ge 24, 54, 75, 0, 0, []),
  (54, .ldc2_w 328, 57, 0, 0, 31, []), (57, .lload_n 1, 58, 1, 0, 0, []), (58, .lmul, 59, 0, 0, 0, []), (59, .aload_n 0, 60, 0, 0, 0, []), (60, .iload_n 3, 61, 3, 0, 0, []), (61, .iload 4, 63, 4, 0, 0, []),
  (63, .invokevirtual 164, 66, 0, 0, 0, [2, 11, 44]), (66, .i2l, 67, 0, 0, 0, []), (67, .ladd, 68, 0, 0, 0, []), (68, .lstore_n 1, 69, 1, 0, 0, []), (69, .iinc 4 1, 72, 4, 1, 0, []), (72, .goto (-25), 75, 47, 0, 0, []),
  (75, .iinc 3 1, 78, 3, 1, 0, []), (78, .goto (-45), 81, 33, 0, 0, []), (81, .iconst 0, 82, 0, 0, 0, []), (82, .istore_n 3, 83, 3, 0, 0, []), (83, .iload_n 3, 84, 3, 0, 0, []), (84, .iconst 3, 85, 0, 3, 0, []),
  (85, .if_icmp .ge 42, 88, 127, 0, 0, []), (88, .ldc2_w 328, 91, 0, 0, 31, []), (91, .lload_n 1, 92, 1, 0, 0, []), (92, .lmul, 93, 0, 0, 0, []), (93, .aload_n 0, 94, 0, 0, 0, []), (94, .getfield 52, 97, 11, 0, 0, [5, 2]),
  (97, .iload_n 3, 98, 3, 0, 0, []), (98, .aaload, 99, 5, 0, 0, []), (99, .getfield 158, 102, 4, 0, 0, [9, 0]), (102, .ifCond .ne 7, 105, 109, 0, 0, []), (105, .iconst (-1), 106, 0, (-1), 0, []), (106, .goto 12, 109, 118, 0, 0, []),
  (109, .aload_n 0, 110, 0, 0, 0, []), (110, .getfield 52, 113, 11, 0, 0, [5, 2]), (113, .iload_n 3, 114, 3, 0, 0, []), (114, .aaload, 115, 5, 0, 0, []), (115, .getfield 220, 118, 4, 0, 0, [15, 0]), (118, .i2l, 119, 0, 0, 0, []),
  (119, .ladd, 120, 0, 0, 0, []), (120, .lstore_n 1, 121, 1, 0, 0, []), (121, .iinc 3 1, 124, 3, 1, 0, []), (124, .goto (-41), 127, 83, 0, 0, []), (127, .iconst 0, 128, 0, 0, 0, []), (128, .istore_n 3, 129, 3, 0, 0, []),
  (129, .iload_n 3, 130, 3, 0, 0, []), (130, .bipush 6, 132, 0, 6, 0, []), (132, .if_icmp .ge 20, 135, 152, 0, 0, []), (135, .aload_n 0, 136, 0, 0, 0, []), (136, .getfield 11, 139, 11, 0, 0, [0, 2]), (139, .iload_n 3, 140, 3, 0, 0, []),
  (140, .aaload, 141, 3, 0, 0, []), (141, .lload_n 1, 142, 1, 0, 0, []), (142, .invokevirtual 333, 145, 0, 0, 0, [1, 8, 146]), (145, .lstore_n 1, 146, 1, 0, 0, []), (146, .iinc 3 1, 149, 3, 1, 0, []), (149, .goto (-20), 152, 129, 0, 0, []),
  (152, .iconst 0, 153, 0, 0, 0, []), (153, .istore_n 3, 154, 3, 0, 0, []), (154, .iload_n 3, 155, 3, 0, 0, []), (155, .iconst 4, 156, 0, 4, 0, []), (156, .if_icmp .ge 20, 159, 176, 0, 0, []), (159, .aload_n 0, 160, 0, 0, 0, []),
  (160, .getfield 15, 163, 11, 0, 0, [1, 2]), (163, .iload_n 3, 164, 3, 0, 0, []), (164, .aaload, 165, 3, 0, 0, []), (165, .lload_n 1, 166, 1, 0, 0, []), (166, .invokevirtual 333, 169, 0, 0, 0, [1, 8, 146]), (169, .lstore_n 1, 170, 1, 0, 0, []),
  (170, .iinc 3 1, 173, 3, 1, 0, []), (173, .goto (-19), 176, 154, 0, 0, []), (176, .lload_n 1, 177, 1, 0, 0, []), (177, .lreturn, 178, 0, 0, 0, [])])
-- 146 DoorSold$Row.digestOnto(J)J
def mx_146 : Mx := (⟨"DoorSold$Row", "digestOnto", "(J)J"⟩, prog_10_method_7_code, 6, (Option.some FieldType.long), [
  (0, .ldc2_w 26, 3, 0, 0, 31, []), (3, .lload_n 1, 4, 1, 0, 0, []), (4, .lmul, 5, 0, 0, 0, []), (5, .aload_n 0, 6, 0, 0, 0, []), (6, .getfield 9, 9, 8, 0, 0, [1, 0]), (9, .i2l, 10, 0, 0, 0, []),
  (10, .ladd, 11, 0, 0, 0, []), (11, .lstore_n 3, 12, 3, 0, 0, []), (12, .iconst 0, 13, 0, 0, 0, []), (13, .istore 5, 15, 5, 0, 0, []), (15, .iload 5, 17, 5, 0, 0, []), (17, .aload_n 0, 18, 0, 0, 0, []),
  (18, .getfield 9, 21, 8, 0, 0, [1, 0]), (21, .if_icmp .ge 24, 24, 45, 0, 0, []), (24, .ldc2_w 26, 27, 0, 0, 31, []), (27, .lload_n 3, 28, 3, 0, 0, []), (28, .lmul, 29, 0, 0, 0, []), (29, .aload_n 0, 30, 0, 0, 0, []),
  (30, .getfield 19, 33, 8, 0, 0, [0, 2]), (33, .iload 5, 35, 5, 0, 0, []), (35, .iaload, 36, 0, 0, 0, []), (36, .i2l, 37, 0, 0, 0, []), (37, .ladd, 38, 0, 0, 0, []), (38, .lstore_n 3, 39, 3, 0, 0, []),
  (39, .iinc 5 1, 42, 5, 1, 0, []), (42, .goto (-27), 45, 15, 0, 0, []), (45, .lload_n 3, 46, 3, 0, 0, []), (46, .lreturn, 47, 0, 0, 0, [])])
-- 147 DoorSoldModel.<init>()V
def mx_147 : Mx := (⟨"DoorSoldModel", "<init>", "()V"⟩, prog_14_method_1_code, 2, (none : Option FieldType), [
  (0, .aload_n 0, 1, 0, 0, 0, []), (1, .invokespecial 1, 4, 0, 0, 0, [3]), (4, .aload_n 0, 5, 0, 0, 0, []), (5, .bipush 6, 7, 0, 6, 0, []), (7, .newarray .int, 9, 1, 0, 0, []), (9, .putfield 7, 12, 12, 0, 0, [0, 2]),
  (12, .aload_n 0, 13, 0, 0, 0, []), (13, .sipush 240, 16, 0, 240, 0, []), (16, .newarray .int, 18, 1, 0, 0, []), (18, .putfield 13, 21, 12, 0, 0, [1, 2]), (21, .aload_n 0, 22, 0, 0, 0, []), (22, .iconst 4, 23, 0, 4, 0, []),
  (23, .newarray .int, 25, 1, 0, 0, []), (25, .putfield 16, 28, 12, 0, 0, [2, 2]), (28, .aload_n 0, 29, 0, 0, 0, []), (29, .sipush 240, 32, 0, 240, 0, []), (32, .newarray .int, 34, 1, 0, 0, []), (34, .putfield 19, 37, 12, 0, 0, [3, 2]),
  (37, .aload_n 0, 38, 0, 0, 0, []), (38, .bipush 6, 40, 0, 6, 0, []), (40, .newarray .int, 42, 1, 0, 0, []), (42, .putfield 22, 45, 12, 0, 0, [6, 2]), (45, .aload_n 0, 46, 0, 0, 0, []), (46, .bipush 6, 48, 0, 6, 0, []),
  (48, .newarray .int, 50, 1, 0, 0, []), (50, .putfield 25, 53, 12, 0, 0, [7, 2]), (53, .aload_n 0, 54, 0, 0, 0, []), (54, .bipush 16, 56, 0, 16, 0, []), (56, .newarray .int, 58, 1, 0, 0, []), (58, .putfield 28, 61, 12, 0, 0, [8, 2]),
  (61, .aload_n 0, 62, 0, 0, 0, []), (62, .sipush 640, 65, 0, 640, 0, []), (65, .newarray .int, 67, 1, 0, 0, []), (67, .putfield 31, 70, 12, 0, 0, [10, 2]), (70, .aload_n 0, 71, 0, 0, 0, []), (71, .sipush 1971, 74, 0, 1971, 0, []),
  (74, .newarray .int, 76, 1, 0, 0, []), (76, .putfield 34, 79, 12, 0, 0, [11, 2]), (79, .aload_n 0, 80, 0, 0, 0, []), (80, .iconst 3, 81, 0, 3, 0, []), (81, .newarray .boolean, 83, 2, 0, 0, []), (83, .putfield 37, 86, 12, 0, 0, [12, 2]),
  (86, .aload_n 0, 87, 0, 0, 0, []), (87, .lconst 1, 88, 0, 0, 1, []), (88, .putfield 41, 91, 12, 0, 0, [15, 1]), (91, .aload_n 0, 92, 0, 0, 0, []), (92, .bipush 6, 94, 0, 6, 0, []), (94, .newarray .int, 96, 1, 0, 0, []),
  (96, .putfield 45, 99, 12, 0, 0, [17, 2]), (99, .aload_n 0, 100, 0, 0, 0, []), (100, .bipush 24, 102, 0, 24, 0, []), (102, .newarray .int, 104, 1, 0, 0, []), (104, .putfield 48, 107, 12, 0, 0, [22, 2]), (107, .aload_n 0, 108, 0, 0, 0, []),
  (108, .bipush 34, 110, 0, 34, 0, []), (110, .newarray .int, 112, 1, 0, 0, []), (112, .putfield 51, 115, 12, 0, 0, [24, 2]), (115, .aload_n 0, 116, 0, 0, 0, []), (116, .bipush 34, 118, 0, 34, 0, []), (118, .newarray .int, 120, 1, 0, 0, []),
  (120, .putfield 54, 123, 12, 0, 0, [25, 2]), (123, .aload_n 0, 124, 0, 0, 0, []), (124, .bipush 49, 126, 0, 49, 0, []), (126, .newarray .int, 128, 1, 0, 0, []), (128, .putfield 57, 131, 12, 0, 0, [26, 2]), (131, .aload_n 0, 132, 0, 0, 0, []),
  (132, .bipush 49, 134, 0, 49, 0, []), (134, .newarray .int, 136, 1, 0, 0, []), (136, .putfield 60, 139, 12, 0, 0, [27, 2]), (139, .iconst 0, 140, 0, 0, 0, []), (140, .istore_n 1, 141, 1, 0, 0, []), (141, .iload_n 1, 142, 1, 0, 0, []),
  (142, .bipush 6, 144, 0, 6, 0, []), (144, .if_icmp .ge 16, 147, 160, 0, 0, []), (147, .aload_n 0, 148, 0, 0, 0, []), (148, .getfield 7, 151, 12, 0, 0, [0, 2]), (151, .iload_n 1, 152, 1, 0, 0, []), (152, .iconst (-1), 153, 0, (-1), 0, []),
  (153, .iastore, 154, 0, 0, 0, []), (154, .iinc 1 1, 157, 1, 1, 0, []), (157, .goto (-16), 160, 141, 0, 0, []), (160, .iconst 0, 161, 0, 0, 0, []), (161, .istore_n 1, 162, 1, 0, 0, []), (162, .iload_n 1, 163, 1, 0, 0, []),
  (163, .iconst 4, 164, 0, 4, 0, []), (164, .if_icmp .ge 16, 167, 180, 0, 0, []), (167, .aload_n 0, 168, 0, 0, 0, []), (168, .getfield 16, 171, 12, 0, 0, [2, 2]), (171, .iload_n 1, 172, 1, 0, 0, []), (172, .iconst (-1), 173, 0, (-1), 0, []),
  (173, .iastore, 174, 0, 0, 0, []), (174, .iinc 1 1, 177, 1, 1, 0, []), (177, .goto (-15), 180, 162, 0, 0, []), (180, .return_, 181, 0, 0, 0, [])])
-- 148 DoorSoldModel.row(II)I
def mx_148 : Mx := (⟨"DoorSoldModel", "row", "(II)I"⟩, prog_14_method_11_code, 4, (Option.some FieldType.int), [
  (0, .iload_n 1, 1, 1, 0, 0, []), (1, .invokestatic 78, 4, 149, 0, 0, [0, 1]), (4, .ifCond .eq 9, 7, 13, 0, 0, []), (7, .iload_n 2, 8, 2, 0, 0, []), (8, .bipush 40, 10, 0, 40, 0, []), (10, .if_icmp .le 5, 13, 15, 0, 0, []),
  (13, .iconst (-1), 14, 0, (-1), 0, []), (14, .ireturn, 15, 0, 0, 0, []), (15, .iload_n 2, 16, 2, 0, 0, []), (16, .ifCond .ge 9, 19, 25, 0, 0, []), (19, .aload_n 0, 20, 0, 0, 0, []), (20, .iconst 5, 21, 0, 5, 0, []),
  (21, .invokevirtual 82, 24, 0, 0, 0, [1, 12, 151]), (24, .ireturn, 25, 0, 0, 0, []), (25, .aload_n 0, 26, 0, 0, 0, []), (26, .getfield 7, 29, 12, 0, 0, [0, 2]), (29, .iload_n 1, 30, 1, 0, 0, []), (30, .iload_n 2, 31, 2, 0, 0, []),
  (31, .iastore, 32, 0, 0, 0, []), (32, .iconst 0, 33, 0, 0, 0, []), (33, .istore_n 3, 34, 3, 0, 0, []), (34, .iload_n 3, 35, 3, 0, 0, []), (35, .bipush 40, 37, 0, 40, 0, []), (37, .if_icmp .ge 21, 40, 58, 0, 0, []),
  (40, .aload_n 0, 41, 0, 0, 0, []), (41, .getfield 13, 44, 12, 0, 0, [1, 2]), (44, .bipush 40, 46, 0, 40, 0, []), (46, .iload_n 1, 47, 1, 0, 0, []), (47, .imul, 48, 0, 0, 0, []), (48, .iload_n 3, 49, 3, 0, 0, []),
  (49, .iadd, 50, 0, 0, 0, []), (50, .iconst 0, 51, 0, 0, 0, []), (51, .iastore, 52, 0, 0, 0, []), (52, .iinc 3 1, 55, 3, 1, 0, []), (55, .goto (-21), 58, 34, 0, 0, []), (58, .iload_n 2, 59, 2, 0, 0, []),
  (59, .ireturn, 60, 0, 0, 0, [])])
-- 149 DoorSoldModel.isRow(I)Z
def mx_149 : Mx := (⟨"DoorSoldModel", "isRow", "(I)Z"⟩, prog_14_method_9_code, 1, (Option.some FieldType.boolean), [
  (0, .iload_n 0, 1, 0, 0, 0, []), (1, .i2l, 2, 0, 0, 0, []), (2, .lconst 0, 3, 0, 0, 0, []), (3, .ldc2_w 70, 6, 0, 0, 5, []), (6, .invokestatic 72, 9, 150, 0, 0, [0, 3]), (9, .ireturn, 10, 1, 0, 0, [])])
-- 150 DoorSoldModel.in(JJJ)Z
def mx_150 : Mx := (⟨"DoorSoldModel", "in", "(JJJ)Z"⟩, prog_14_method_3_code, 6, (Option.some FieldType.boolean), [
  (0, .lload_n 0, 1, 0, 0, 0, []), (1, .lload_n 2, 2, 2, 0, 0, []), (2, .lcmp, 3, 0, 0, 0, []), (3, .ifCond .lt 14, 6, 17, 0, 0, []), (6, .lload_n 0, 7, 0, 0, 0, []), (7, .lload 4, 9, 4, 0, 0, []),
  (9, .lcmp, 10, 0, 0, 0, []), (10, .ifCond .gt 7, 13, 17, 0, 0, []), (13, .iconst 1, 14, 0, 1, 0, []), (14, .goto 4, 17, 18, 0, 0, []), (17, .iconst 0, 18, 0, 0, 0, []), (18, .ireturn, 19, 1, 0, 0, [])])
-- 151 DoorSoldModel.found(I)I
def mx_151 : Mx := (⟨"DoorSoldModel", "found", "(I)I"⟩, prog_14_method_6_code, 2, (Option.some FieldType.int), [
  (0, .aload_n 0, 1, 0, 0, 0, []), (1, .iload_n 1, 2, 1, 0, 0, []), (2, .putfield 63, 5, 12, 0, 0, [16, 0]), (5, .aload_n 0, 6, 0, 0, 0, []), (6, .getfield 45, 9, 12, 0, 0, [17, 2]), (9, .iload_n 1, 10, 1, 0, 0, []),
  (10, .dup2, 11, 0, 0, 0, []), (11, .iaload, 12, 0, 0, 0, []), (12, .iconst 1, 13, 0, 1, 0, []), (13, .iadd, 14, 0, 0, 0, []), (14, .iastore, 15, 0, 0, 0, []), (15, .bipush (-3), 17, 0, (-3), 0, []),
  (17, .ireturn, 18, 0, 0, 0, [])])
-- 152 DoorSoldModel.lay(III)I
def mx_152 : Mx := (⟨"DoorSoldModel", "lay", "(III)I"⟩, prog_14_method_12_code, 5, (Option.some FieldType.int), [
  (0, .iload_n 1, 1, 1, 0, 0, []), (1, .invokestatic 78, 4, 149, 0, 0, [0, 1]), (4, .ifCond .ne 5, 7, 9, 0, 0, []), (7, .iconst (-1), 8, 0, (-1), 0, []), (8, .ireturn, 9, 0, 0, 0, []), (9, .aload_n 0, 10, 0, 0, 0, []),
  (10, .getfield 7, 13, 12, 0, 0, [0, 2]), (13, .iload_n 1, 14, 1, 0, 0, []), (14, .iaload, 15, 0, 0, 0, []), (15, .ifCond .ge 9, 18, 24, 0, 0, []), (18, .aload_n 0, 19, 0, 0, 0, []), (19, .iconst 1, 20, 0, 1, 0, []),
  (20, .invokevirtual 82, 23, 0, 0, 0, [1, 12, 151]), (23, .ireturn, 24, 0, 0, 0, []), (24, .iload_n 2, 25, 2, 0, 0, []), (25, .i2l, 26, 0, 0, 0, []), (26, .lconst 0, 27, 0, 0, 0, []), (27, .aload_n 0, 28, 0, 0, 0, []),
  (28, .getfield 7, 31, 12, 0, 0, [0, 2]), (31, .iload_n 1, 32, 1, 0, 0, []), (32, .iaload, 33, 0, 0, 0, []), (33, .iconst 1, 34, 0, 1, 0, []), (34, .isub, 35, 0, 0, 0, []), (35, .i2l, 36, 0, 0, 0, []),
  (36, .invokestatic 72, 39, 150, 0, 0, [0, 3]), (39, .ifCond .ne 9, 42, 48, 0, 0, []), (42, .aload_n 0, 43, 0, 0, 0, []), (43, .iconst 2, 44, 0, 2, 0, []), (44, .invokevirtual 82, 47, 0, 0, 0, [1, 12, 151]), (47, .ireturn, 48, 0, 0, 0, []),
  (48, .aload_n 0, 49, 0, 0, 0, []), (49, .getfield 13, 52, 12, 0, 0, [1, 2]), (52, .bipush 40, 54, 0, 40, 0, []), (54, .iload_n 1, 55, 1, 0, 0, []), (55, .imul, 56, 0, 0, 0, []), (56, .iload_n 2, 57, 2, 0, 0, []),
  (57, .iadd, 58, 0, 0, 0, []), (58, .iaload, 59, 0, 0, 0, []), (59, .istore 4, 61, 4, 0, 0, []), (61, .aload_n 0, 62, 0, 0, 0, []), (62, .getfield 13, 65, 12, 0, 0, [1, 2]), (65, .bipush 40, 67, 0, 40, 0, []),
  (67, .iload_n 1, 68, 1, 0, 0, []), (68, .imul, 69, 0, 0, 0, []), (69, .iload_n 2, 70, 2, 0, 0, []), (70, .iadd, 71, 0, 0, 0, []), (71, .iload_n 3, 72, 3, 0, 0, []), (72, .iastore, 73, 0, 0, 0, []),
  (73, .aload_n 0, 74, 0, 0, 0, []), (74, .iload 4, 76, 4, 0, 0, []), (76, .invokevirtual 86, 79, 0, 0, 0, [1, 12, 153]), (79, .ireturn, 80, 0, 0, 0, [])])
-- 153 DoorSoldModel.tell(I)I
def mx_153 : Mx := (⟨"DoorSoldModel", "tell", "(I)I"⟩, prog_14_method_7_code, 2, (Option.some FieldType.int), [
  (0, .aload_n 0, 1, 0, 0, 0, []), (1, .iload_n 1, 2, 1, 0, 0, []), (2, .putfield 67, 5, 12, 0, 0, [13, 0]), (5, .iconst 1, 6, 0, 1, 0, []), (6, .ireturn, 7, 0, 0, 0, [])])
-- 154 DoorSoldModel.at(II)I
def mx_154 : Mx := (⟨"DoorSoldModel", "at", "(II)I"⟩, prog_14_method_13_code, 3, (Option.some FieldType.int), [
  (0, .iload_n 1, 1, 1, 0, 0, []), (1, .invokestatic 78, 4, 149, 0, 0, [0, 1]), (4, .ifCond .ne 5, 7, 9, 0, 0, []), (7, .iconst (-1), 8, 0, (-1), 0, []), (8, .ireturn, 9, 0, 0, 0, []), (9, .aload_n 0, 10, 0, 0, 0, []),
  (10, .getfield 7, 13, 12, 0, 0, [0, 2]), (13, .iload_n 1, 14, 1, 0, 0, []), (14, .iaload, 15, 0, 0, 0, []), (15, .ifCond .ge 9, 18, 24, 0, 0, []), (18, .aload_n 0, 19, 0, 0, 0, []), (19, .iconst 1, 20, 0, 1, 0, []),
  (20, .invokevirtual 82, 23, 0, 0, 0, [1, 12, 151]), (23, .ireturn, 24, 0, 0, 0, []), (24, .iload_n 2, 25, 2, 0, 0, []), (25, .i2l, 26, 0, 0, 0, []), (26, .lconst 0, 27, 0, 0, 0, []), (27, .aload_n 0, 28, 0, 0, 0, []),
  (28, .getfield 7, 31, 12, 0, 0, [0, 2]), (31, .iload_n 1, 32, 1, 0, 0, []), (32, .iaload, 33, 0, 0, 0, []), (33, .iconst 1, 34, 0, 1, 0, []), (34, .isub, 35, 0, 0, 0, []), (35, .i2l, 36, 0, 0, 0, []),
  (36, .invokestatic 72, 39, 150, 0, 0, [0, 3]), (39, .ifCond .eq 21, 42, 60, 0, 0, []), (42, .aload_n 0, 43, 0, 0, 0, []), (43, .aload_n 0, 44, 0, 0, 0, []), (44, .getfield 13, 47, 12, 0, 0, [1, 2]), (47, .bipush 40, 49, 0, 40, 0, []),
  (49, .iload_n 1, 50, 1, 0, 0, []), (50, .imul, 51, 0, 0, 0, []), (51, .iload_n 2, 52, 2, 0, 0, []), (52, .iadd, 53, 0, 0, 0, []), (53, .iaload, 54, 0, 0, 0, []), (54, .invokevirtual 86, 57, 0, 0, 0, [1, 12, 153]),
  (57, .goto 8, 60, 65, 0, 0, []), (60, .aload_n 0, 61, 0, 0, 0, []), (61, .iconst 2, 62, 0, 2, 0, []), (62, .invokevirtual 82, 65, 0, 0, 0, [1, 12, 151]), (65, .ireturn, 66, 0, 0, 0, [])])
-- 155 DoorSoldModel.tear(I)I
def mx_155 : Mx := (⟨"DoorSoldModel", "tear", "(I)I"⟩, prog_14_method_14_code, 2, (Option.some FieldType.int), [
  (0, .iload_n 1, 1, 1, 0, 0, []), (1, .invokestatic 78, 4, 149, 0, 0, [0, 1]), (4, .ifCond .ne 5, 7, 9, 0, 0, []), (7, .iconst (-1), 8, 0, (-1), 0, []), (8, .ireturn, 9, 0, 0, 0, []), (9, .aload_n 0, 10, 0, 0, 0, []),
  (10, .getfield 7, 13, 12, 0, 0, [0, 2]), (13, .iload_n 1, 14, 1, 0, 0, []), (14, .iaload, 15, 0, 0, 0, []), (15, .ifCond .ge 9, 18, 24, 0, 0, []), (18, .aload_n 0, 19, 0, 0, 0, []), (19, .iconst 1, 20, 0, 1, 0, []),
  (20, .invokevirtual 82, 23, 0, 0, 0, [1, 12, 151]), (23, .ireturn, 24, 0, 0, 0, []), (24, .aload_n 0, 25, 0, 0, 0, []), (25, .getfield 7, 28, 12, 0, 0, [0, 2]), (28, .iload_n 1, 29, 1, 0, 0, []), (29, .iconst (-1), 30, 0, (-1), 0, []),
  (30, .iastore, 31, 0, 0, 0, []), (31, .iconst 1, 32, 0, 1, 0, []), (32, .ireturn, 33, 0, 0, 0, [])])
-- 156 DoorSoldModel.copy(IIIII)I
def mx_156 : Mx := (⟨"DoorSoldModel", "copy", "(IIIII)I"⟩, prog_14_method_15_code, 8, (Option.some FieldType.int), [
  (0, .iload_n 1, 1, 1, 0, 0, []), (1, .invokestatic 78, 4, 149, 0, 0, [0, 1]), (4, .ifCond .eq 10, 7, 14, 0, 0, []), (7, .iload_n 3, 8, 3, 0, 0, []), (8, .invokestatic 78, 11, 149, 0, 0, [0, 1]), (11, .ifCond .ne 5, 14, 16, 0, 0, []),
  (14, .iconst (-1), 15, 0, (-1), 0, []), (15, .ireturn, 16, 0, 0, 0, []), (16, .iload 5, 18, 5, 0, 0, []), (18, .ifCond .ge 9, 21, 27, 0, 0, []), (21, .aload_n 0, 22, 0, 0, 0, []), (22, .iconst 5, 23, 0, 5, 0, []),
  (23, .invokevirtual 82, 26, 0, 0, 0, [1, 12, 151]), (26, .ireturn, 27, 0, 0, 0, []), (27, .aload_n 0, 28, 0, 0, 0, []), (28, .getfield 7, 31, 12, 0, 0, [0, 2]), (31, .iload_n 1, 32, 1, 0, 0, []), (32, .iaload, 33, 0, 0, 0, []),
  (33, .ifCond .lt 12, 36, 45, 0, 0, []), (36, .aload_n 0, 37, 0, 0, 0, []), (37, .getfield 7, 40, 12, 0, 0, [0, 2]), (40, .iload_n 3, 41, 3, 0, 0, []), (41, .iaload, 42, 0, 0, 0, []), (42, .ifCond .ge 9, 45, 51, 0, 0, []),
  (45, .aload_n 0, 46, 0, 0, 0, []), (46, .iconst 1, 47, 0, 1, 0, []), (47, .invokevirtual 82, 50, 0, 0, 0, [1, 12, 151]), (50, .ireturn, 51, 0, 0, 0, []), (51, .iload_n 2, 52, 2, 0, 0, []), (52, .ifCond .lt 43, 55, 95, 0, 0, []),
  (55, .iload 4, 57, 4, 0, 0, []), (57, .ifCond .lt 38, 60, 95, 0, 0, []), (60, .iload_n 2, 61, 2, 0, 0, []), (61, .i2l, 62, 0, 0, 0, []), (62, .iload 5, 64, 5, 0, 0, []), (64, .i2l, 65, 0, 0, 0, []),
  (65, .ladd, 66, 0, 0, 0, []), (66, .aload_n 0, 67, 0, 0, 0, []), (67, .getfield 7, 70, 12, 0, 0, [0, 2]), (70, .iload_n 1, 71, 1, 0, 0, []), (71, .iaload, 72, 0, 0, 0, []), (72, .i2l, 73, 0, 0, 0, []),
  (73, .lcmp, 74, 0, 0, 0, []), (74, .ifCond .gt 21, 77, 95, 0, 0, []), (77, .iload 4, 79, 4, 0, 0, []), (79, .i2l, 80, 0, 0, 0, []), (80, .iload 5, 82, 5, 0, 0, []), (82, .i2l, 83, 0, 0, 0, []),
  (83, .ladd, 84, 0, 0, 0, []), (84, .aload_n 0, 85, 0, 0, 0, []), (85, .getfield 7, 88, 12, 0, 0, [0, 2]), (88, .iload_n 3, 89, 3, 0, 0, []), (89, .iaload, 90, 0, 0, 0, []), (90, .i2l, 91, 0, 0, 0, []),
  (91, .lcmp, 92, 0, 0, 0, []), (92, .ifCond .le 9, 95, 101, 0, 0, []), (95, .aload_n 0, 96, 0, 0, 0, []), (96, .iconst 2, 97, 0, 2, 0, []), (97, .invokevirtual 82, 100, 0, 0, 0, [1, 12, 151]), (100, .ireturn, 101, 0, 0, 0, []),
  (101, .iconst 0, 102, 0, 0, 0, []), (102, .istore 6, 104, 6, 0, 0, []), (104, .iload 6, 106, 6, 0, 0, []), (106, .iload 5, 108, 5, 0, 0, []), (108, .if_icmp .ge 58, 111, 166, 0, 0, []), (111, .iload 4, 113, 4, 0, 0, []),
  (113, .iload_n 2, 114, 2, 0, 0, []), (114, .if_icmp .le 13, 117, 127, 0, 0, []), (117, .iload 5, 119, 5, 0, 0, []), (119, .iconst 1, 120, 0, 1, 0, []), (120, .isub, 121, 0, 0, 0, []), (121, .iload 6, 123, 6, 0, 0, []),
  (123, .isub, 124, 0, 0, 0, []), (124, .goto 5, 127, 129, 0, 0, []), (127, .iload 6, 129, 6, 0, 0, []), (129, .istore 7, 131, 7, 0, 0, []), (131, .aload_n 0, 132, 0, 0, 0, []), (132, .getfield 13, 135, 12, 0, 0, [1, 2]),
  (135, .bipush 40, 137, 0, 40, 0, []), (137, .iload_n 3, 138, 3, 0, 0, []), (138, .imul, 139, 0, 0, 0, []), (139, .iload 4, 141, 4, 0, 0, []), (141, .iadd, 142, 0, 0, 0, []), (142, .iload 7, 144, 7, 0, 0, []),
  (144, .iadd, 145, 0, 0, 0, []), (145, .aload_n 0, 146, 0, 0, 0, []), (146, .getfield 13, 149, 12, 0, 0, [1, 2]), (149, .bipush 40, 151, 0, 40, 0, []), (151, .iload_n 1, 152, 1, 0, 0, []), (152, .imul, 153, 0, 0, 0, []),
  (153, .iload_n 2, 154, 2, 0, 0, []), (154, .iadd, 155, 0, 0, 0, []), (155, .iload 7, 157, 7, 0, 0, []), (157, .iadd, 158, 0, 0, 0, []), (158, .iaload, 159, 0, 0, 0, []), (159, .iastore, 160, 0, 0, 0, []),
  (160, .iinc 6 1, 163, 6, 1, 0, []), (163, .goto (-59), 166, 104, 0, 0, []), (166, .iconst 1, 167, 0, 1, 0, []), (167, .ireturn, 168, 0, 0, 0, [])])
-- 157 DoorSoldModel.mean(I)I
def mx_157 : Mx := (⟨"DoorSoldModel", "mean", "(I)I"⟩, prog_14_method_16_code, 5, (Option.some FieldType.int), [
  (0, .iload_n 1, 1, 1, 0, 0, []), (1, .invokestatic 78, 4, 149, 0, 0, [0, 1]), (4, .ifCond .ne 5, 7, 9, 0, 0, []), (7, .iconst (-1), 8, 0, (-1), 0, []), (8, .ireturn, 9, 0, 0, 0, []), (9, .aload_n 0, 10, 0, 0, 0, []),
  (10, .getfield 7, 13, 12, 0, 0, [0, 2]), (13, .iload_n 1, 14, 1, 0, 0, []), (14, .iaload, 15, 0, 0, 0, []), (15, .ifCond .ge 9, 18, 24, 0, 0, []), (18, .aload_n 0, 19, 0, 0, 0, []), (19, .iconst 1, 20, 0, 1, 0, []),
  (20, .invokevirtual 82, 23, 0, 0, 0, [1, 12, 151]), (23, .ireturn, 24, 0, 0, 0, []), (24, .aload_n 0, 25, 0, 0, 0, []), (25, .getfield 7, 28, 12, 0, 0, [0, 2]), (28, .iload_n 1, 29, 1, 0, 0, []), (29, .iaload, 30, 0, 0, 0, []),
  (30, .ifCond .ne 9, 33, 39, 0, 0, []), (33, .aload_n 0, 34, 0, 0, 0, []), (34, .iconst 4, 35, 0, 4, 0, []), (35, .invokevirtual 82, 38, 0, 0, 0, [1, 12, 151]), (38, .ireturn, 39, 0, 0, 0, []), (39, .lconst 0, 40, 0, 0, 0, []),
  (40, .lstore_n 2, 41, 2, 0, 0, []), (41, .iconst 0, 42, 0, 0, 0, []), (42, .istore 4, 44, 4, 0, 0, []), (44, .iload 4, 46, 4, 0, 0, []), (46, .aload_n 0, 47, 0, 0, 0, []), (47, .getfield 7, 50, 12, 0, 0, [0, 2]),
  (50, .iload_n 1, 51, 1, 0, 0, []), (51, .iaload, 52, 0, 0, 0, []), (52, .if_icmp .ge 25, 55, 77, 0, 0, []), (55, .lload_n 2, 56, 2, 0, 0, []), (56, .aload_n 0, 57, 0, 0, 0, []), (57, .getfield 13, 60, 12, 0, 0, [1, 2]),
  (60, .bipush 40, 62, 0, 40, 0, []), (62, .iload_n 1, 63, 1, 0, 0, []), (63, .imul, 64, 0, 0, 0, []), (64, .iload 4, 66, 4, 0, 0, []), (66, .iadd, 67, 0, 0, 0, []), (67, .iaload, 68, 0, 0, 0, []),
  (68, .i2l, 69, 0, 0, 0, []), (69, .ladd, 70, 0, 0, 0, []), (70, .lstore_n 2, 71, 2, 0, 0, []), (71, .iinc 4 1, 74, 4, 1, 0, []), (74, .goto (-30), 77, 44, 0, 0, []), (77, .aload_n 0, 78, 0, 0, 0, []),
  (78, .lload_n 2, 79, 2, 0, 0, []), (79, .aload_n 0, 80, 0, 0, 0, []), (80, .getfield 7, 83, 12, 0, 0, [0, 2]), (83, .iload_n 1, 84, 1, 0, 0, []), (84, .iaload, 85, 0, 0, 0, []), (85, .i2l, 86, 0, 0, 0, []),
  (86, .ldiv, 87, 0, 0, 0, []), (87, .l2i, 88, 0, 0, 0, []), (88, .invokevirtual 86, 91, 0, 0, 0, [1, 12, 153]), (91, .ireturn, 92, 0, 0, 0, [])])
-- 158 DoorSoldModel.text(II)I
def mx_158 : Mx := (⟨"DoorSoldModel", "text", "(II)I"⟩, prog_14_method_17_code, 4, (Option.some FieldType.int), [
  (0, .iload_n 1, 1, 1, 0, 0, []), (1, .invokestatic 89, 4, 159, 0, 0, [0, 1]), (4, .ifCond .eq 9, 7, 13, 0, 0, []), (7, .iload_n 2, 8, 2, 0, 0, []), (8, .bipush 60, 10, 0, 60, 0, []), (10, .if_icmp .le 5, 13, 15, 0, 0, []),
  (13, .iconst (-1), 14, 0, (-1), 0, []), (14, .ireturn, 15, 0, 0, 0, []), (15, .iload_n 2, 16, 2, 0, 0, []), (16, .ifCond .ge 9, 19, 25, 0, 0, []), (19, .aload_n 0, 20, 0, 0, 0, []), (20, .iconst 5, 21, 0, 5, 0, []),
  (21, .invokevirtual 82, 24, 0, 0, 0, [1, 12, 151]), (24, .ireturn, 25, 0, 0, 0, []), (25, .aload_n 0, 26, 0, 0, 0, []), (26, .getfield 16, 29, 12, 0, 0, [2, 2]), (29, .iload_n 1, 30, 1, 0, 0, []), (30, .iload_n 2, 31, 2, 0, 0, []),
  (31, .iastore, 32, 0, 0, 0, []), (32, .iconst 0, 33, 0, 0, 0, []), (33, .istore_n 3, 34, 3, 0, 0, []), (34, .iload_n 3, 35, 3, 0, 0, []), (35, .bipush 60, 37, 0, 60, 0, []), (37, .if_icmp .ge 22, 40, 59, 0, 0, []),
  (40, .aload_n 0, 41, 0, 0, 0, []), (41, .getfield 19, 44, 12, 0, 0, [3, 2]), (44, .bipush 60, 46, 0, 60, 0, []), (46, .iload_n 1, 47, 1, 0, 0, []), (47, .imul, 48, 0, 0, 0, []), (48, .iload_n 3, 49, 3, 0, 0, []),
  (49, .iadd, 50, 0, 0, 0, []), (50, .bipush 32, 52, 0, 32, 0, []), (52, .iastore, 53, 0, 0, 0, []), (53, .iinc 3 1, 56, 3, 1, 0, []), (56, .goto (-22), 59, 34, 0, 0, []), (59, .iload_n 2, 60, 2, 0, 0, []),
  (60, .ireturn, 61, 0, 0, 0, [])])
-- 159 DoorSoldModel.isText(I)Z
def mx_159 : Mx := (⟨"DoorSoldModel", "isText", "(I)Z"⟩, prog_14_method_10_code, 1, (Option.some FieldType.boolean), [
  (0, .iload_n 0, 1, 0, 0, 0, []), (1, .i2l, 2, 0, 0, 0, []), (2, .lconst 0, 3, 0, 0, 0, []), (3, .ldc2_w 76, 6, 0, 0, 3, []), (6, .invokestatic 72, 9, 150, 0, 0, [0, 3]), (9, .ireturn, 10, 1, 0, 0, [])])
-- 160 DoorSoldModel.put(III)I
def mx_160 : Mx := (⟨"DoorSoldModel", "put", "(III)I"⟩, prog_14_method_18_code, 5, (Option.some FieldType.int), [
  (0, .iload_n 1, 1, 1, 0, 0, []), (1, .invokestatic 89, 4, 159, 0, 0, [0, 1]), (4, .ifCond .ne 5, 7, 9, 0, 0, []), (7, .iconst (-1), 8, 0, (-1), 0, []), (8, .ireturn, 9, 0, 0, 0, []), (9, .aload_n 0, 10, 0, 0, 0, []),
  (10, .getfield 16, 13, 12, 0, 0, [2, 2]), (13, .iload_n 1, 14, 1, 0, 0, []), (14, .iaload, 15, 0, 0, 0, []), (15, .ifCond .ge 9, 18, 24, 0, 0, []), (18, .aload_n 0, 19, 0, 0, 0, []), (19, .iconst 1, 20, 0, 1, 0, []),
  (20, .invokevirtual 82, 23, 0, 0, 0, [1, 12, 151]), (23, .ireturn, 24, 0, 0, 0, []), (24, .iload_n 2, 25, 2, 0, 0, []), (25, .i2l, 26, 0, 0, 0, []), (26, .lconst 0, 27, 0, 0, 0, []), (27, .aload_n 0, 28, 0, 0, 0, []),
  (28, .getfield 16, 31, 12, 0, 0, [2, 2]), (31, .iload_n 1, 32, 1, 0, 0, []), (32, .iaload, 33, 0, 0, 0, []), (33, .iconst 1, 34, 0, 1, 0, []), (34, .isub, 35, 0, 0, 0, []), (35, .i2l, 36, 0, 0, 0, []),
  (36, .invokestatic 72, 39, 150, 0, 0, [0, 3]), (39, .ifCond .ne 9, 42, 48, 0, 0, []), (42, .aload_n 0, 43, 0, 0, 0, []), (43, .iconst 2, 44, 0, 2, 0, []), (44, .invokevirtual 82, 47, 0, 0, 0, [1, 12, 151]), (47, .ireturn, 48, 0, 0, 0, []),
  (48, .aload_n 0, 49, 0, 0, 0, []), (49, .getfield 19, 52, 12, 0, 0, [3, 2]), (52, .bipush 60, 54, 0, 60, 0, []), (54, .iload_n 1, 55, 1, 0, 0, []), (55, .imul, 56, 0, 0, 0, []), (56, .iload_n 2, 57, 2, 0, 0, []),
  (57, .iadd, 58, 0, 0, 0, []), (58, .iaload, 59, 0, 0, 0, []), (59, .istore 4, 61, 4, 0, 0, []), (61, .aload_n 0, 62, 0, 0, 0, []), (62, .getfield 19, 65, 12, 0, 0, [3, 2]), (65, .bipush 60, 67, 0, 60, 0, []),
  (67, .iload_n 1, 68, 1, 0, 0, []), (68, .imul, 69, 0, 0, 0, []), (69, .iload_n 2, 70, 2, 0, 0, []), (70, .iadd, 71, 0, 0, 0, []), (71, .iload_n 3, 72, 3, 0, 0, []), (72, .i2b, 73, 0, 0, 0, []),
  (73, .iastore, 74, 0, 0, 0, []), (74, .iload 4, 76, 4, 0, 0, []), (76, .sipush 1000, 79, 0, 1000, 0, []), (79, .iadd, 80, 0, 0, 0, []), (80, .ireturn, 81, 0, 0, 0, [])])
-- 161 DoorSoldModel.fault(I)I
def mx_161 : Mx := (⟨"DoorSoldModel", "fault", "(I)I"⟩, prog_14_method_26_code, 2, (Option.some FieldType.int), [
  (0, .iload_n 1, 1, 1, 0, 0, []), (1, .invokestatic 89, 4, 159, 0, 0, [0, 1]), (4, .ifCond .ne 5, 7, 9, 0, 0, []), (7, .iconst (-1), 8, 0, (-1), 0, []), (8, .ireturn, 9, 0, 0, 0, []), (9, .aload_n 0, 10, 0, 0, 0, []),
  (10, .getfield 16, 13, 12, 0, 0, [2, 2]), (13, .iload_n 1, 14, 1, 0, 0, []), (14, .iaload, 15, 0, 0, 0, []), (15, .ifCond .ge 11, 18, 26, 0, 0, []), (18, .aload_n 0, 19, 0, 0, 0, []), (19, .iconst 1, 20, 0, 1, 0, []),
  (20, .invokevirtual 82, 23, 0, 0, 0, [1, 12, 151]), (23, .goto 8, 26, 31, 0, 0, []), (26, .aload_n 0, 27, 0, 0, 0, []), (27, .iload_n 1, 28, 1, 0, 0, []), (28, .invokevirtual 127, 31, 0, 0, 0, [1, 12, 162]), (31, .ireturn, 32, 0, 0, 0, [])])
-- 162 DoorSoldModel.faultOf(I)I
def mx_162 : Mx := (⟨"DoorSoldModel", "faultOf", "(I)I"⟩, prog_14_method_25_code, 3, (Option.some FieldType.int), [
  (0, .aload_n 0, 1, 0, 0, 0, []), (1, .iconst 0, 2, 0, 0, 0, []), (2, .putfield 92, 5, 12, 0, 0, [18, 0]), (5, .aload_n 0, 6, 0, 0, 0, []), (6, .iconst 0, 7, 0, 0, 0, []), (7, .putfield 114, 10, 12, 0, 0, [20, 0]),
  (10, .aload_n 0, 11, 0, 0, 0, []), (11, .iload_n 1, 12, 1, 0, 0, []), (12, .invokevirtual 117, 15, 0, 0, 0, [1, 12, 163]), (15, .aload_n 0, 16, 0, 0, 0, []), (16, .iload_n 1, 17, 1, 0, 0, []), (17, .invokevirtual 121, 20, 0, 0, 0, [1, 12, 165]),
  (20, .istore_n 2, 21, 2, 0, 0, []), (21, .iload_n 2, 22, 2, 0, 0, []), (22, .ifCond .eq 40, 25, 62, 0, 0, []), (25, .aload_n 0, 26, 0, 0, 0, []), (26, .iload_n 1, 27, 1, 0, 0, []), (27, .invokevirtual 117, 30, 0, 0, 0, [1, 12, 163]),
  (30, .aload_n 0, 31, 0, 0, 0, []), (31, .getfield 92, 34, 12, 0, 0, [18, 0]), (34, .aload_n 0, 35, 0, 0, 0, []), (35, .getfield 16, 38, 12, 0, 0, [2, 2]), (38, .iload_n 1, 39, 1, 0, 0, []), (39, .iaload, 40, 0, 0, 0, []),
  (40, .if_icmp .ne 13, 43, 53, 0, 0, []), (43, .aload_n 0, 44, 0, 0, 0, []), (44, .getfield 114, 47, 12, 0, 0, [20, 0]), (47, .ifCond .le 6, 50, 53, 0, 0, []), (50, .bipush (-9), 52, 0, (-9), 0, []), (52, .ireturn, 53, 0, 0, 0, []),
  (53, .aload_n 0, 54, 0, 0, 0, []), (54, .iload_n 1, 55, 1, 0, 0, []), (55, .invokevirtual 124, 58, 0, 0, 0, [1, 12, 167]), (58, .istore_n 2, 59, 2, 0, 0, []), (59, .goto (-38), 62, 21, 0, 0, []), (62, .aload_n 0, 63, 0, 0, 0, []),
  (63, .getfield 92, 66, 12, 0, 0, [18, 0]), (66, .ireturn, 67, 0, 0, 0, [])])
-- 163 DoorSoldModel.blanks(I)V
def mx_163 : Mx := (⟨"DoorSoldModel", "blanks", "(I)V"⟩, prog_14_method_20_code, 2, (none : Option FieldType), [
  (0, .aload_n 0, 1, 0, 0, 0, []), (1, .iload_n 1, 2, 1, 0, 0, []), (2, .invokevirtual 95, 5, 0, 0, 0, [1, 12, 164]), (5, .bipush 32, 7, 0, 32, 0, []), (7, .if_icmp .ne 16, 10, 23, 0, 0, []), (10, .aload_n 0, 11, 0, 0, 0, []),
  (11, .dup, 12, 0, 0, 0, []), (12, .getfield 92, 15, 12, 0, 0, [18, 0]), (15, .iconst 1, 16, 0, 1, 0, []), (16, .iadd, 17, 0, 0, 0, []), (17, .putfield 92, 20, 12, 0, 0, [18, 0]), (20, .goto (-20), 23, 0, 0, 0, []),
  (23, .return_, 24, 0, 0, 0, [])])
-- 164 DoorSoldModel.byteAt(I)I
def mx_164 : Mx := (⟨"DoorSoldModel", "byteAt", "(I)I"⟩, prog_14_method_19_code, 2, (Option.some FieldType.int), [
  (0, .aload_n 0, 1, 0, 0, 0, []), (1, .getfield 92, 4, 12, 0, 0, [18, 0]), (4, .aload_n 0, 5, 0, 0, 0, []), (5, .getfield 16, 8, 12, 0, 0, [2, 2]), (8, .iload_n 1, 9, 1, 0, 0, []), (9, .iaload, 10, 0, 0, 0, []),
  (10, .if_icmp .ge 20, 13, 30, 0, 0, []), (13, .aload_n 0, 14, 0, 0, 0, []), (14, .getfield 19, 17, 12, 0, 0, [3, 2]), (17, .bipush 60, 19, 0, 60, 0, []), (19, .iload_n 1, 20, 1, 0, 0, []), (20, .imul, 21, 0, 0, 0, []),
  (21, .aload_n 0, 22, 0, 0, 0, []), (22, .getfield 92, 25, 12, 0, 0, [18, 0]), (25, .iadd, 26, 0, 0, 0, []), (26, .iaload, 27, 0, 0, 0, []), (27, .goto 6, 30, 33, 0, 0, []), (30, .sipush (-1000), 33, 0, (-1000), 0, []),
  (33, .ireturn, 34, 0, 0, 0, [])])
-- 165 DoorSoldModel.readsFirst(I)Z
def mx_165 : Mx := (⟨"DoorSoldModel", "readsFirst", "(I)Z"⟩, prog_14_method_23_code, 2, (Option.some FieldType.boolean), [
  (0, .aload_n 0, 1, 0, 0, 0, []), (1, .iload_n 1, 2, 1, 0, 0, []), (2, .invokevirtual 95, 5, 0, 0, 0, [1, 12, 164]), (5, .bipush 110, 7, 0, 110, 0, []), (7, .if_icmp .eq 5, 10, 12, 0, 0, []), (10, .iconst 0, 11, 0, 0, 0, []),
  (11, .ireturn, 12, 1, 0, 0, []), (12, .aload_n 0, 13, 0, 0, 0, []), (13, .dup, 14, 0, 0, 0, []), (14, .getfield 92, 17, 12, 0, 0, [18, 0]), (17, .iconst 1, 18, 0, 1, 0, []), (18, .iadd, 19, 0, 0, 0, []),
  (19, .putfield 92, 22, 12, 0, 0, [18, 0]), (22, .aload_n 0, 23, 0, 0, 0, []), (23, .iload_n 1, 24, 1, 0, 0, []), (24, .iconst 2, 25, 0, 2, 0, []), (25, .bipush 7, 27, 0, 7, 0, []), (27, .invokevirtual 101, 30, 0, 0, 0, [3, 12, 166]),
  (30, .ifCond .ne 5, 33, 35, 0, 0, []), (33, .iconst 0, 34, 0, 0, 0, []), (34, .ireturn, 35, 1, 0, 0, []), (35, .aload_n 0, 36, 0, 0, 0, []), (36, .aload_n 0, 37, 0, 0, 0, []), (37, .getfield 98, 40, 12, 0, 0, [23, 0]),
  (40, .putfield 105, 43, 12, 0, 0, [19, 0]), (43, .aload_n 0, 44, 0, 0, 0, []), (44, .iload_n 1, 45, 1, 0, 0, []), (45, .iconst 0, 46, 0, 0, 0, []), (46, .bipush 9, 48, 0, 9, 0, []), (48, .invokevirtual 101, 51, 0, 0, 0, [3, 12, 166]),
  (51, .ifCond .ne 5, 54, 56, 0, 0, []), (54, .iconst 0, 55, 0, 0, 0, []), (55, .ireturn, 56, 1, 0, 0, []), (56, .aload_n 0, 57, 0, 0, 0, []), (57, .bipush 10, 59, 0, 10, 0, []), (59, .aload_n 0, 60, 0, 0, 0, []),
  (60, .getfield 98, 63, 12, 0, 0, [23, 0]), (63, .imul, 64, 0, 0, 0, []), (64, .putfield 108, 67, 12, 0, 0, [21, 0]), (67, .aload_n 0, 68, 0, 0, 0, []), (68, .iload_n 1, 69, 1, 0, 0, []), (69, .iconst 0, 70, 0, 0, 0, []),
  (70, .bipush 9, 72, 0, 9, 0, []), (72, .invokevirtual 101, 75, 0, 0, 0, [3, 12, 166]), (75, .ifCond .ne 5, 78, 80, 0, 0, []), (78, .iconst 0, 79, 0, 0, 0, []), (79, .ireturn, 80, 1, 0, 0, []), (80, .aload_n 0, 81, 0, 0, 0, []),
  (81, .dup, 82, 0, 0, 0, []), (82, .getfield 108, 85, 12, 0, 0, [21, 0]), (85, .aload_n 0, 86, 0, 0, 0, []), (86, .getfield 98, 89, 12, 0, 0, [23, 0]), (89, .iadd, 90, 0, 0, 0, []), (90, .putfield 108, 93, 12, 0, 0, [21, 0]),
  (93, .iconst 1, 94, 0, 1, 0, []), (94, .ireturn, 95, 1, 0, 0, [])])
-- 166 DoorSoldModel.takes(III)Z
def mx_166 : Mx := (⟨"DoorSoldModel", "takes", "(III)Z"⟩, prog_14_method_22_code, 4, (Option.some FieldType.boolean), [
  (0, .aload_n 0, 1, 0, 0, 0, []), (1, .aload_n 0, 2, 0, 0, 0, []), (2, .iload_n 1, 3, 1, 0, 0, []), (3, .invokevirtual 95, 6, 0, 0, 0, [1, 12, 164]), (6, .bipush 48, 8, 0, 48, 0, []), (8, .isub, 9, 0, 0, 0, []),
  (9, .putfield 98, 12, 12, 0, 0, [23, 0]), (12, .aload_n 0, 13, 0, 0, 0, []), (13, .getfield 98, 16, 12, 0, 0, [23, 0]), (16, .i2l, 17, 0, 0, 0, []), (17, .iload_n 2, 18, 2, 0, 0, []), (18, .i2l, 19, 0, 0, 0, []),
  (19, .iload_n 3, 20, 3, 0, 0, []), (20, .i2l, 21, 0, 0, 0, []), (21, .invokestatic 72, 24, 150, 0, 0, [0, 3]), (24, .ifCond .ne 5, 27, 29, 0, 0, []), (27, .iconst 0, 28, 0, 0, 0, []), (28, .ireturn, 29, 1, 0, 0, []),
  (29, .aload_n 0, 30, 0, 0, 0, []), (30, .dup, 31, 0, 0, 0, []), (31, .getfield 92, 34, 12, 0, 0, [18, 0]), (34, .iconst 1, 35, 0, 1, 0, []), (35, .iadd, 36, 0, 0, 0, []), (36, .putfield 92, 39, 12, 0, 0, [18, 0]),
  (39, .iconst 1, 40, 0, 1, 0, []), (40, .ireturn, 41, 1, 0, 0, [])])
-- 167 DoorSoldModel.readsDoor(I)Z
def mx_167 : Mx := (⟨"DoorSoldModel", "readsDoor", "(I)Z"⟩, prog_14_method_24_code, 5, (Option.some FieldType.boolean), [
  (0, .aload_n 0, 1, 0, 0, 0, []), (1, .iload_n 1, 2, 1, 0, 0, []), (2, .invokevirtual 95, 5, 0, 0, 0, [1, 12, 164]), (5, .invokestatic 111, 8, 168, 0, 0, [0, 1]), (8, .istore_n 2, 9, 2, 0, 0, []), (9, .iload_n 2, 10, 2, 0, 0, []),
  (10, .ifCond .lt 12, 13, 22, 0, 0, []), (13, .aload_n 0, 14, 0, 0, 0, []), (14, .getfield 114, 17, 12, 0, 0, [20, 0]), (17, .bipush 6, 19, 0, 6, 0, []), (19, .if_icmp .ne 5, 22, 24, 0, 0, []), (22, .iconst 0, 23, 0, 0, 0, []),
  (23, .ireturn, 24, 1, 0, 0, []), (24, .aload_n 0, 25, 0, 0, 0, []), (25, .dup, 26, 0, 0, 0, []), (26, .getfield 92, 29, 12, 0, 0, [18, 0]), (29, .iconst 1, 30, 0, 1, 0, []), (30, .iadd, 31, 0, 0, 0, []),
  (31, .putfield 92, 34, 12, 0, 0, [18, 0]), (34, .iconst 4, 35, 0, 4, 0, []), (35, .aload_n 0, 36, 0, 0, 0, []), (36, .getfield 114, 39, 12, 0, 0, [20, 0]), (39, .imul, 40, 0, 0, 0, []), (40, .istore_n 3, 41, 3, 0, 0, []),
  (41, .aload_n 0, 42, 0, 0, 0, []), (42, .getfield 48, 45, 12, 0, 0, [22, 2]), (45, .iload_n 3, 46, 3, 0, 0, []), (46, .iload_n 2, 47, 2, 0, 0, []), (47, .iastore, 48, 0, 0, 0, []), (48, .iconst 1, 49, 0, 1, 0, []),
  (49, .istore 4, 51, 4, 0, 0, []), (51, .iload 4, 53, 4, 0, 0, []), (53, .iconst 4, 54, 0, 4, 0, []), (54, .if_icmp .ge 50, 57, 104, 0, 0, []), (57, .aload_n 0, 58, 0, 0, 0, []), (58, .iload_n 1, 59, 1, 0, 0, []),
  (59, .iconst 0, 60, 0, 0, 0, []), (60, .iload 4, 62, 4, 0, 0, []), (62, .iconst 3, 63, 0, 3, 0, []), (63, .if_icmp .ge 12, 66, 75, 0, 0, []), (66, .aload_n 0, 67, 0, 0, 0, []), (67, .getfield 105, 70, 12, 0, 0, [19, 0]),
  (70, .iconst 1, 71, 0, 1, 0, []), (71, .isub, 72, 0, 0, 0, []), (72, .goto 5, 75, 77, 0, 0, []), (75, .bipush 9, 77, 0, 9, 0, []), (77, .invokevirtual 101, 80, 0, 0, 0, [3, 12, 166]), (80, .ifCond .ne 5, 83, 85, 0, 0, []),
  (83, .iconst 0, 84, 0, 0, 0, []), (84, .ireturn, 85, 1, 0, 0, []), (85, .aload_n 0, 86, 0, 0, 0, []), (86, .getfield 48, 89, 12, 0, 0, [22, 2]), (89, .iload_n 3, 90, 3, 0, 0, []), (90, .iload 4, 92, 4, 0, 0, []),
  (92, .iadd, 93, 0, 0, 0, []), (93, .aload_n 0, 94, 0, 0, 0, []), (94, .getfield 98, 97, 12, 0, 0, [23, 0]), (97, .iastore, 98, 0, 0, 0, []), (98, .iinc 4 1, 101, 4, 1, 0, []), (101, .goto (-50), 104, 51, 0, 0, []),
  (104, .aload_n 0, 105, 0, 0, 0, []), (105, .dup, 106, 0, 0, 0, []), (106, .getfield 114, 109, 12, 0, 0, [20, 0]), (109, .iconst 1, 110, 0, 1, 0, []), (110, .iadd, 111, 0, 0, 0, []), (111, .putfield 114, 114, 12, 0, 0, [20, 0]),
  (114, .iconst 1, 115, 0, 1, 0, []), (115, .ireturn, 116, 1, 0, 0, [])])
-- 168 DoorSoldModel.kindOf(I)I
def mx_168 : Mx := (⟨"DoorSoldModel", "kindOf", "(I)I"⟩, prog_14_method_21_code, 1, (Option.some FieldType.int), [
  (0, .iload_n 0, 1, 0, 0, 0, []), (1, .bipush 100, 3, 0, 100, 0, []), (3, .if_icmp .ne 7, 6, 10, 0, 0, []), (6, .iconst 0, 7, 0, 0, 0, []), (7, .goto 54, 10, 61, 0, 0, []), (10, .iload_n 0, 11, 0, 0, 0, []),
  (11, .bipush 117, 13, 0, 117, 0, []), (13, .if_icmp .ne 7, 16, 20, 0, 0, []), (16, .iconst 1, 17, 0, 1, 0, []), (17, .goto 44, 20, 61, 0, 0, []), (20, .iload_n 0, 21, 0, 0, 0, []), (21, .bipush 98, 23, 0, 98, 0, []),
  (23, .if_icmp .ne 7, 26, 30, 0, 0, []), (26, .iconst 2, 27, 0, 2, 0, []), (27, .goto 34, 30, 61, 0, 0, []), (30, .iload_n 0, 31, 0, 0, 0, []), (31, .bipush 107, 33, 0, 107, 0, []), (33, .if_icmp .ne 7, 36, 40, 0, 0, []),
  (36, .iconst 3, 37, 0, 3, 0, []), (37, .goto 24, 40, 61, 0, 0, []), (40, .iload_n 0, 41, 0, 0, 0, []), (41, .bipush 115, 43, 0, 115, 0, []), (43, .if_icmp .ne 7, 46, 50, 0, 0, []), (46, .iconst 4, 47, 0, 4, 0, []),
  (47, .goto 14, 50, 61, 0, 0, []), (50, .iload_n 0, 51, 0, 0, 0, []), (51, .bipush 99, 53, 0, 99, 0, []), (53, .if_icmp .ne 7, 56, 60, 0, 0, []), (56, .iconst 5, 57, 0, 5, 0, []), (57, .goto 4, 60, 61, 0, 0, []),
  (60, .iconst (-1), 61, 0, (-1), 0, []), (61, .ireturn, 62, 0, 0, 0, [])])
-- 169 DoorSoldModel.country(I)I
def mx_169 : Mx := (⟨"DoorSoldModel", "country", "(I)I"⟩, prog_14_method_27_code, 3, (Option.some FieldType.int), [
  (0, .iload_n 1, 1, 1, 0, 0, []), (1, .invokestatic 89, 4, 159, 0, 0, [0, 1]), (4, .ifCond .ne 5, 7, 9, 0, 0, []), (7, .iconst (-1), 8, 0, (-1), 0, []), (8, .ireturn, 9, 0, 0, 0, []), (9, .aload_n 0, 10, 0, 0, 0, []),
  (10, .getfield 16, 13, 12, 0, 0, [2, 2]), (13, .iload_n 1, 14, 1, 0, 0, []), (14, .iaload, 15, 0, 0, 0, []), (15, .ifCond .ge 9, 18, 24, 0, 0, []), (18, .aload_n 0, 19, 0, 0, 0, []), (19, .iconst 1, 20, 0, 1, 0, []),
  (20, .invokevirtual 82, 23, 0, 0, 0, [1, 12, 151]), (23, .ireturn, 24, 0, 0, 0, []), (24, .aload_n 0, 25, 0, 0, 0, []), (25, .iload_n 1, 26, 1, 0, 0, []), (26, .invokevirtual 127, 29, 0, 0, 0, [1, 12, 162]), (29, .bipush (-9), 31, 0, (-9), 0, []),
  (31, .if_icmp .eq 6, 34, 37, 0, 0, []), (34, .bipush (-4), 36, 0, (-4), 0, []), (36, .ireturn, 37, 0, 0, 0, []), (37, .aload_n 0, 38, 0, 0, 0, []), (38, .aload_n 0, 39, 0, 0, 0, []), (39, .getfield 114, 42, 12, 0, 0, [20, 0]),
  (42, .putfield 130, 45, 12, 0, 0, [4, 0]), (45, .aload_n 0, 46, 0, 0, 0, []), (46, .aload_n 0, 47, 0, 0, 0, []), (47, .getfield 105, 50, 12, 0, 0, [19, 0]), (50, .putfield 133, 53, 12, 0, 0, [5, 0]), (53, .iconst 0, 54, 0, 0, 0, []),
  (54, .istore_n 2, 55, 2, 0, 0, []), (55, .iload_n 2, 56, 2, 0, 0, []), (56, .bipush 16, 58, 0, 16, 0, []), (58, .if_icmp .ge 16, 61, 74, 0, 0, []), (61, .aload_n 0, 62, 0, 0, 0, []), (62, .getfield 28, 65, 12, 0, 0, [8, 2]),
  (65, .iload_n 2, 66, 2, 0, 0, []), (66, .iconst 0, 67, 0, 0, 0, []), (67, .iastore, 68, 0, 0, 0, []), (68, .iinc 2 1, 71, 2, 1, 0, []), (71, .goto (-16), 74, 55, 0, 0, []), (74, .aload_n 0, 75, 0, 0, 0, []),
  (75, .getfield 28, 78, 12, 0, 0, [8, 2]), (78, .iconst 2, 79, 0, 2, 0, []), (79, .aload_n 0, 80, 0, 0, 0, []), (80, .getfield 108, 83, 12, 0, 0, [21, 0]), (83, .iastore, 84, 0, 0, 0, []), (84, .iconst 0, 85, 0, 0, 0, []),
  (85, .istore_n 2, 86, 2, 0, 0, []), (86, .iload_n 2, 87, 2, 0, 0, []), (87, .aload_n 0, 88, 0, 0, 0, []), (88, .getfield 130, 91, 12, 0, 0, [4, 0]), (91, .if_icmp .ge 76, 94, 167, 0, 0, []), (94, .aload_n 0, 95, 0, 0, 0, []),
  (95, .getfield 22, 98, 12, 0, 0, [6, 2]), (98, .iload_n 2, 99, 2, 0, 0, []), (99, .aload_n 0, 100, 0, 0, 0, []), (100, .getfield 48, 103, 12, 0, 0, [22, 2]), (103, .iconst 4, 104, 0, 4, 0, []), (104, .iload_n 2, 105, 2, 0, 0, []),
  (105, .imul, 106, 0, 0, 0, []), (106, .iaload, 107, 0, 0, 0, []), (107, .iastore, 108, 0, 0, 0, []), (108, .aload_n 0, 109, 0, 0, 0, []), (109, .getfield 28, 112, 12, 0, 0, [8, 2]), (112, .iconst 4, 113, 0, 4, 0, []),
  (113, .iload_n 2, 114, 2, 0, 0, []), (114, .iadd, 115, 0, 0, 0, []), (115, .aload_n 0, 116, 0, 0, 0, []), (116, .getfield 48, 119, 12, 0, 0, [22, 2]), (119, .iconst 4, 120, 0, 4, 0, []), (120, .iload_n 2, 121, 2, 0, 0, []),
  (121, .imul, 122, 0, 0, 0, []), (122, .iconst 1, 123, 0, 1, 0, []), (123, .iadd, 124, 0, 0, 0, []), (124, .iaload, 125, 0, 0, 0, []), (125, .iastore, 126, 0, 0, 0, []), (126, .aload_n 0, 127, 0, 0, 0, []),
  (127, .getfield 28, 130, 12, 0, 0, [8, 2]), (130, .bipush 10, 132, 0, 10, 0, []), (132, .iload_n 2, 133, 2, 0, 0, []), (133, .iadd, 134, 0, 0, 0, []), (134, .aload_n 0, 135, 0, 0, 0, []), (135, .getfield 48, 138, 12, 0, 0, [22, 2]),
  (138, .iconst 4, 139, 0, 4, 0, []), (139, .iload_n 2, 140, 2, 0, 0, []), (140, .imul, 141, 0, 0, 0, []), (141, .iconst 2, 142, 0, 2, 0, []), (142, .iadd, 143, 0, 0, 0, []), (143, .iaload, 144, 0, 0, 0, []),
  (144, .iastore, 145, 0, 0, 0, []), (145, .aload_n 0, 146, 0, 0, 0, []), (146, .getfield 25, 149, 12, 0, 0, [7, 2]), (149, .iload_n 2, 150, 2, 0, 0, []), (150, .aload_n 0, 151, 0, 0, 0, []), (151, .getfield 48, 154, 12, 0, 0, [22, 2]),
  (154, .iconst 4, 155, 0, 4, 0, []), (155, .iload_n 2, 156, 2, 0, 0, []), (156, .imul, 157, 0, 0, 0, []), (157, .iconst 3, 158, 0, 3, 0, []), (158, .iadd, 159, 0, 0, 0, []), (159, .iaload, 160, 0, 0, 0, []),
  (160, .iastore, 161, 0, 0, 0, []), (161, .iinc 2 1, 164, 2, 1, 0, []), (164, .goto (-78), 167, 86, 0, 0, []), (167, .aload_n 0, 168, 0, 0, 0, []), (168, .iconst 0, 169, 0, 0, 0, []), (169, .putfield 136, 172, 12, 0, 0, [9, 0]),
  (172, .iconst 0, 173, 0, 0, 0, []), (173, .istore_n 2, 174, 2, 0, 0, []), (174, .iload_n 2, 175, 2, 0, 0, []), (175, .iconst 3, 176, 0, 3, 0, []), (176, .if_icmp .ge 16, 179, 192, 0, 0, []), (179, .aload_n 0, 180, 0, 0, 0, []),
  (180, .getfield 37, 183, 12, 0, 0, [12, 2]), (183, .iload_n 2, 184, 2, 0, 0, []), (184, .iconst 0, 185, 0, 0, 0, []), (185, .bastore, 186, 0, 0, 0, []), (186, .iinc 2 1, 189, 2, 1, 0, []), (189, .goto (-15), 192, 174, 0, 0, []),
  (192, .aload_n 0, 193, 0, 0, 0, []), (193, .getfield 130, 196, 12, 0, 0, [4, 0]), (196, .ireturn, 197, 0, 0, 0, [])])
-- 170 DoorSoldModel.door(II)I
def mx_170 : Mx := (⟨"DoorSoldModel", "door", "(II)I"⟩, prog_14_method_40_code, 3, (Option.some FieldType.int), [
  (0, .aload_n 0, 1, 0, 0, 0, []), (1, .iload_n 1, 2, 1, 0, 0, []), (2, .invokevirtual 170, 5, 0, 0, 0, [1, 12, 171]), (5, .ifCond .eq 28, 8, 33, 0, 0, []), (8, .iload_n 2, 9, 2, 0, 0, []), (9, .i2l, 10, 0, 0, 0, []),
  (10, .lconst 0, 11, 0, 0, 0, []), (11, .ldc2_w 173, 14, 0, 0, 7, []), (14, .invokestatic 72, 17, 150, 0, 0, [0, 3]), (17, .ifCond .eq 16, 20, 33, 0, 0, []), (20, .aload_n 0, 21, 0, 0, 0, []), (21, .aload_n 0, 22, 0, 0, 0, []),
  (22, .iload_n 1, 23, 1, 0, 0, []), (23, .iload_n 2, 24, 2, 0, 0, []), (24, .invokevirtual 175, 27, 0, 0, 0, [2, 12, 172]), (27, .invokevirtual 86, 30, 0, 0, 0, [1, 12, 153]), (30, .goto 4, 33, 34, 0, 0, []), (33, .iconst (-1), 34, 0, (-1), 0, []),
  (34, .ireturn, 35, 0, 0, 0, [])])
-- 171 DoorSoldModel.isDoor(I)Z
def mx_171 : Mx := (⟨"DoorSoldModel", "isDoor", "(I)Z"⟩, prog_14_method_28_code, 2, (Option.some FieldType.boolean), [
  (0, .iload_n 1, 1, 1, 0, 0, []), (1, .i2l, 2, 0, 0, 0, []), (2, .lconst 0, 3, 0, 0, 0, []), (3, .aload_n 0, 4, 0, 0, 0, []), (4, .getfield 130, 7, 12, 0, 0, [4, 0]), (7, .iconst 1, 8, 0, 1, 0, []),
  (8, .isub, 9, 0, 0, 0, []), (9, .i2l, 10, 0, 0, 0, []), (10, .invokestatic 72, 13, 150, 0, 0, [0, 3]), (13, .ireturn, 14, 1, 0, 0, [])])
-- 172 DoorSoldModel.told(II)I
def mx_172 : Mx := (⟨"DoorSoldModel", "told", "(II)I"⟩, prog_14_method_39_code, 3, (Option.some FieldType.int), [
  (0, .iload_n 2, 1, 2, 0, 0, []), (1, .tableswitch 117 0 6 #[43, 50, 59, 69, 75, 87, 111], 44, 118, 0, 0, [44, 51, 60, 70, 76, 88, 112]), (44, .aload_n 0, 45, 0, 0, 0, []), (45, .getfield 22, 48, 12, 0, 0, [6, 2]), (48, .iload_n 1, 49, 1, 0, 0, []), (49, .iaload, 50, 0, 0, 0, []),
  (50, .ireturn, 51, 0, 0, 0, []), (51, .aload_n 0, 52, 0, 0, 0, []), (52, .getfield 28, 55, 12, 0, 0, [8, 2]), (55, .iconst 4, 56, 0, 4, 0, []), (56, .iload_n 1, 57, 1, 0, 0, []), (57, .iadd, 58, 0, 0, 0, []),
  (58, .iaload, 59, 0, 0, 0, []), (59, .ireturn, 60, 0, 0, 0, []), (60, .aload_n 0, 61, 0, 0, 0, []), (61, .getfield 28, 64, 12, 0, 0, [8, 2]), (64, .bipush 10, 66, 0, 10, 0, []), (66, .iload_n 1, 67, 1, 0, 0, []),
  (67, .iadd, 68, 0, 0, 0, []), (68, .iaload, 69, 0, 0, 0, []), (69, .ireturn, 70, 0, 0, 0, []), (70, .aload_n 0, 71, 0, 0, 0, []), (71, .iload_n 1, 72, 1, 0, 0, []), (72, .invokevirtual 153, 75, 0, 0, 0, [1, 12, 173]),
  (75, .ireturn, 76, 0, 0, 0, []), (76, .aload_n 0, 77, 0, 0, 0, []), (77, .iload_n 1, 78, 1, 0, 0, []), (78, .aload_n 0, 79, 0, 0, 0, []), (79, .getfield 28, 82, 12, 0, 0, [8, 2]), (82, .iconst 1, 83, 0, 1, 0, []),
  (83, .iaload, 84, 0, 0, 0, []), (84, .invokevirtual 156, 87, 0, 0, 0, [2, 12, 174]), (87, .ireturn, 88, 0, 0, 0, []), (88, .aload_n 0, 89, 0, 0, 0, []), (89, .getfield 22, 92, 12, 0, 0, [6, 2]), (92, .iload_n 1, 93, 1, 0, 0, []),
  (93, .iaload, 94, 0, 0, 0, []), (94, .aload_n 0, 95, 0, 0, 0, []), (95, .getfield 28, 98, 12, 0, 0, [8, 2]), (98, .iconst 1, 99, 0, 1, 0, []), (99, .iaload, 100, 0, 0, 0, []), (100, .invokestatic 160, 103, 177, 0, 0, [0, 2]),
  (103, .ifCond .eq 7, 106, 110, 0, 0, []), (106, .iconst 1, 107, 0, 1, 0, []), (107, .goto 4, 110, 111, 0, 0, []), (110, .iconst 0, 111, 0, 0, 0, []), (111, .ireturn, 112, 0, 0, 0, []), (112, .aload_n 0, 113, 0, 0, 0, []),
  (113, .iload_n 1, 114, 1, 0, 0, []), (114, .invokevirtual 164, 117, 0, 0, 0, [1, 12, 179]), (117, .ireturn, 118, 0, 0, 0, []), (118, .aload_n 0, 119, 0, 0, 0, []), (119, .getfield 28, 122, 12, 0, 0, [8, 2]), (122, .iconst 3, 123, 0, 3, 0, []),
  (123, .iaload, 124, 0, 0, 0, []), (124, .iload_n 1, 125, 1, 0, 0, []), (125, .invokestatic 167, 128, 180, 0, 0, [0, 2]), (128, .ifCond .eq 7, 131, 135, 0, 0, []), (131, .iconst 1, 132, 0, 1, 0, []), (132, .goto 4, 135, 136, 0, 0, []),
  (135, .iconst 0, 136, 0, 0, 0, []), (136, .ireturn, 137, 0, 0, 0, [])])
-- 173 DoorSoldModel.costOf(I)I
def mx_173 : Mx := (⟨"DoorSoldModel", "costOf", "(I)I"⟩, prog_14_method_38_code, 2, (Option.some FieldType.int), [
  (0, .aload_n 0, 1, 0, 0, 0, []), (1, .getfield 22, 4, 12, 0, 0, [6, 2]), (4, .iload_n 1, 5, 1, 0, 0, []), (5, .iaload, 6, 0, 0, 0, []), (6, .tableswitch 48 2 4 #[26, 46, 35], 32, 54, 0, 0, [32, 52, 41]), (32, .aload_n 0, 33, 0, 0, 0, []),
  (33, .getfield 25, 36, 12, 0, 0, [7, 2]), (36, .iload_n 1, 37, 1, 0, 0, []), (37, .iaload, 38, 0, 0, 0, []), (38, .iconst 2, 39, 0, 2, 0, []), (39, .idiv, 40, 0, 0, 0, []), (40, .ireturn, 41, 0, 0, 0, []),
  (41, .aload_n 0, 42, 0, 0, 0, []), (42, .getfield 25, 45, 12, 0, 0, [7, 2]), (45, .iload_n 1, 46, 1, 0, 0, []), (46, .iaload, 47, 0, 0, 0, []), (47, .iconst 2, 48, 0, 2, 0, []), (48, .idiv, 49, 0, 0, 0, []),
  (49, .iconst 3, 50, 0, 3, 0, []), (50, .iadd, 51, 0, 0, 0, []), (51, .ireturn, 52, 0, 0, 0, []), (52, .iconst 1, 53, 0, 1, 0, []), (53, .ireturn, 54, 0, 0, 0, []), (54, .aload_n 0, 55, 0, 0, 0, []),
  (55, .getfield 25, 58, 12, 0, 0, [7, 2]), (58, .iload_n 1, 59, 1, 0, 0, []), (59, .iaload, 60, 0, 0, 0, []), (60, .ireturn, 61, 0, 0, 0, [])])
-- 174 DoorSoldModel.entry(II)I
def mx_174 : Mx := (⟨"DoorSoldModel", "entry", "(II)I"⟩, prog_14_method_35_code, 3, (Option.some FieldType.int), [
  (0, .aload_n 0, 1, 0, 0, 0, []), (1, .aload_n 0, 2, 0, 0, 0, []), (2, .getfield 22, 5, 12, 0, 0, [6, 2]), (5, .iload_n 1, 6, 1, 0, 0, []), (6, .iaload, 7, 0, 0, 0, []), (7, .aload_n 0, 8, 0, 0, 0, []),
  (8, .getfield 28, 11, 12, 0, 0, [8, 2]), (11, .iconst 4, 12, 0, 4, 0, []), (12, .iload_n 1, 13, 1, 0, 0, []), (13, .iadd, 14, 0, 0, 0, []), (14, .iaload, 15, 0, 0, 0, []), (15, .aload_n 0, 16, 0, 0, 0, []),
  (16, .getfield 28, 19, 12, 0, 0, [8, 2]), (19, .bipush 10, 21, 0, 10, 0, []), (21, .iload_n 1, 22, 1, 0, 0, []), (22, .iadd, 23, 0, 0, 0, []), (23, .iaload, 24, 0, 0, 0, []), (24, .iload_n 2, 25, 2, 0, 0, []),
  (25, .invokevirtual 145, 28, 0, 0, 0, [4, 12, 175]), (28, .ireturn, 29, 0, 0, 0, [])])
-- 175 DoorSoldModel.inward(IIII)I
def mx_175 : Mx := (⟨"DoorSoldModel", "inward", "(IIII)I"⟩, prog_14_method_32_code, 5, (Option.some FieldType.int), [
  (0, .iload_n 1, 1, 1, 0, 0, []), (1, .iconst 5, 2, 0, 5, 0, []), (2, .if_icmp .ne 15, 5, 17, 0, 0, []), (5, .iload_n 2, 6, 2, 0, 0, []), (6, .iload 4, 8, 4, 0, 0, []), (8, .iadd, 9, 0, 0, 0, []),
  (9, .aload_n 0, 10, 0, 0, 0, []), (10, .getfield 133, 13, 12, 0, 0, [5, 0]), (13, .irem, 14, 0, 0, 0, []), (14, .goto 15, 17, 29, 0, 0, []), (17, .iload_n 1, 18, 1, 0, 0, []), (18, .invokestatic 139, 21, 176, 0, 0, [0, 1]),
  (21, .ifCond .eq 7, 24, 28, 0, 0, []), (24, .iload_n 3, 25, 3, 0, 0, []), (25, .goto 4, 28, 29, 0, 0, []), (28, .iload_n 2, 29, 2, 0, 0, []), (29, .ireturn, 30, 0, 0, 0, [])])
-- 176 DoorSoldModel.isBack(I)Z
def mx_176 : Mx := (⟨"DoorSoldModel", "isBack", "(I)Z"⟩, prog_14_method_30_code, 1, (Option.some FieldType.boolean), [
  (0, .iload_n 0, 1, 0, 0, 0, []), (1, .iconst 2, 2, 0, 2, 0, []), (2, .if_icmp .eq 8, 5, 10, 0, 0, []), (5, .iload_n 0, 6, 0, 0, 0, []), (6, .iconst 4, 7, 0, 4, 0, []), (7, .if_icmp .ne 7, 10, 14, 0, 0, []),
  (10, .iconst 1, 11, 0, 1, 0, []), (11, .goto 4, 14, 15, 0, 0, []), (14, .iconst 0, 15, 0, 0, 0, []), (15, .ireturn, 16, 1, 0, 0, [])])
-- 177 DoorSoldModel.opens(II)Z
def mx_177 : Mx := (⟨"DoorSoldModel", "opens", "(II)Z"⟩, prog_14_method_34_code, 2, (Option.some FieldType.boolean), [
  (0, .iload_n 0, 1, 0, 0, 0, []), (1, .invokestatic 142, 4, 178, 0, 0, [0, 1]), (4, .ifCond .eq 17, 7, 21, 0, 0, []), (7, .iload_n 1, 8, 1, 0, 0, []), (8, .iconst 2, 9, 0, 2, 0, []), (9, .irem, 10, 0, 0, 0, []),
  (10, .ifCond .ne 7, 13, 17, 0, 0, []), (13, .iconst 1, 14, 0, 1, 0, []), (14, .goto 23, 17, 37, 0, 0, []), (17, .iconst 0, 18, 0, 0, 0, []), (18, .goto 19, 21, 37, 0, 0, []), (21, .iload_n 0, 22, 0, 0, 0, []),
  (22, .iconst 3, 23, 0, 3, 0, []), (23, .if_icmp .ne 9, 26, 32, 0, 0, []), (26, .iload_n 1, 27, 1, 0, 0, []), (27, .iconst 3, 28, 0, 3, 0, []), (28, .irem, 29, 0, 0, 0, []), (29, .ifCond .ne 7, 32, 36, 0, 0, []),
  (32, .iconst 1, 33, 0, 1, 0, []), (33, .goto 4, 36, 37, 0, 0, []), (36, .iconst 0, 37, 0, 0, 0, []), (37, .ireturn, 38, 1, 0, 0, [])])
-- 178 DoorSoldModel.isDutch(I)Z
def mx_178 : Mx := (⟨"DoorSoldModel", "isDutch", "(I)Z"⟩, prog_14_method_31_code, 1, (Option.some FieldType.boolean), [
  (0, .iload_n 0, 1, 0, 0, 0, []), (1, .iconst 1, 2, 0, 1, 0, []), (2, .if_icmp .eq 8, 5, 10, 0, 0, []), (5, .iload_n 0, 6, 0, 0, 0, []), (6, .iconst 5, 7, 0, 5, 0, []), (7, .if_icmp .ne 7, 10, 14, 0, 0, []),
  (10, .iconst 1, 11, 0, 1, 0, []), (11, .goto 4, 14, 15, 0, 0, []), (14, .iconst 0, 15, 0, 0, 0, []), (15, .ireturn, 16, 1, 0, 0, [])])
-- 179 DoorSoldModel.hoursOf(I)I
def mx_179 : Mx := (⟨"DoorSoldModel", "hoursOf", "(I)I"⟩, prog_14_method_37_code, 2, (Option.some FieldType.int), [
  (0, .aload_n 0, 1, 0, 0, 0, []), (1, .getfield 22, 4, 12, 0, 0, [6, 2]), (4, .iload_n 1, 5, 1, 0, 0, []), (5, .iaload, 6, 0, 0, 0, []), (6, .iconst 1, 7, 0, 1, 0, []), (7, .if_icmp .ne 7, 10, 14, 0, 0, []),
  (10, .iconst 2, 11, 0, 2, 0, []), (11, .goto 18, 14, 29, 0, 0, []), (14, .aload_n 0, 15, 0, 0, 0, []), (15, .getfield 22, 18, 12, 0, 0, [6, 2]), (18, .iload_n 1, 19, 1, 0, 0, []), (19, .iaload, 20, 0, 0, 0, []),
  (20, .iconst 4, 21, 0, 4, 0, []), (21, .if_icmp .ne 7, 24, 28, 0, 0, []), (24, .iconst 3, 25, 0, 3, 0, []), (25, .goto 4, 28, 29, 0, 0, []), (28, .iconst 1, 29, 0, 1, 0, []), (29, .ireturn, 30, 0, 0, 0, [])])
-- 180 DoorSoldModel.has(II)Z
def mx_180 : Mx := (⟨"DoorSoldModel", "has", "(II)Z"⟩, prog_14_method_4_code, 2, (Option.some FieldType.boolean), [
  (0, .iload_n 0, 1, 0, 0, 0, []), (1, .iload_n 1, 2, 1, 0, 0, []), (2, .ishr, 3, 0, 0, 0, []), (3, .iconst 1, 4, 0, 1, 0, []), (4, .iand, 5, 0, 0, 0, []), (5, .iconst 1, 6, 0, 1, 0, []),
  (6, .if_icmp .ne 7, 9, 13, 0, 0, []), (9, .iconst 1, 10, 0, 1, 0, []), (10, .goto 4, 13, 14, 0, 0, []), (13, .iconst 0, 14, 0, 0, 0, []), (14, .ireturn, 15, 1, 0, 0, [])])
-- 181 DoorSoldModel.mark(II)I
def mx_181 : Mx := (⟨"DoorSoldModel", "mark", "(II)I"⟩, prog_14_method_44_code, 3, (Option.some FieldType.int), [
  (0, .aload_n 0, 1, 0, 0, 0, []), (1, .iload_n 1, 2, 1, 0, 0, []), (2, .invokevirtual 170, 5, 0, 0, 0, [1, 12, 171]), (5, .ifCond .eq 15, 8, 20, 0, 0, []), (8, .iload_n 2, 9, 2, 0, 0, []), (9, .i2l, 10, 0, 0, 0, []),
  (10, .lconst 1, 11, 0, 0, 1, []), (11, .ldc2_w 70, 14, 0, 0, 5, []), (14, .invokestatic 72, 17, 150, 0, 0, [0, 3]), (17, .ifCond .ne 5, 20, 22, 0, 0, []), (20, .iconst (-1), 21, 0, (-1), 0, []), (21, .ireturn, 22, 0, 0, 0, []),
  (22, .aload_n 0, 23, 0, 0, 0, []), (23, .getfield 22, 26, 12, 0, 0, [6, 2]), (26, .iload_n 1, 27, 1, 0, 0, []), (27, .iaload, 28, 0, 0, 0, []), (28, .iload_n 2, 29, 2, 0, 0, []), (29, .invokestatic 178, 32, 182, 0, 0, [0, 2]),
  (32, .ifCond .ne 9, 35, 41, 0, 0, []), (35, .aload_n 0, 36, 0, 0, 0, []), (36, .iconst 3, 37, 0, 3, 0, []), (37, .invokevirtual 82, 40, 0, 0, 0, [1, 12, 151]), (40, .ireturn, 41, 0, 0, 0, []), (41, .iload_n 2, 42, 2, 0, 0, []),
  (42, .tableswitch 103 1 4 #[30, 36, 67, 80], 72, 145, 0, 0, [72, 78, 109, 122]), (72, .aload_n 0, 73, 0, 0, 0, []), (73, .iload_n 1, 74, 1, 0, 0, []), (74, .invokevirtual 181, 77, 0, 0, 0, [1, 12, 183]), (77, .ireturn, 78, 0, 0, 0, []), (78, .aload_n 0, 79, 0, 0, 0, []),
  (79, .getfield 25, 82, 12, 0, 0, [7, 2]), (82, .iload_n 1, 83, 1, 0, 0, []), (83, .iaload, 84, 0, 0, 0, []), (84, .aload_n 0, 85, 0, 0, 0, []), (85, .iload_n 1, 86, 1, 0, 0, []), (86, .invokevirtual 153, 89, 0, 0, 0, [1, 12, 173]),
  (89, .if_icmp .le 18, 92, 107, 0, 0, []), (92, .aload_n 0, 93, 0, 0, 0, []), (93, .getfield 25, 96, 12, 0, 0, [7, 2]), (96, .iload_n 1, 97, 1, 0, 0, []), (97, .iaload, 98, 0, 0, 0, []), (98, .aload_n 0, 99, 0, 0, 0, []),
  (99, .iload_n 1, 100, 1, 0, 0, []), (100, .invokevirtual 153, 103, 0, 0, 0, [1, 12, 173]), (103, .isub, 104, 0, 0, 0, []), (104, .goto 4, 107, 108, 0, 0, []), (107, .iconst 0, 108, 0, 0, 0, []), (108, .ireturn, 109, 0, 0, 0, []),
  (109, .iconst 3, 110, 0, 3, 0, []), (110, .aload_n 0, 111, 0, 0, 0, []), (111, .getfield 28, 114, 12, 0, 0, [8, 2]), (114, .iconst 1, 115, 0, 1, 0, []), (115, .iaload, 116, 0, 0, 0, []), (116, .iconst 3, 117, 0, 3, 0, []),
  (117, .irem, 118, 0, 0, 0, []), (118, .isub, 119, 0, 0, 0, []), (119, .iconst 3, 120, 0, 3, 0, []), (120, .irem, 121, 0, 0, 0, []), (121, .ireturn, 122, 0, 0, 0, []), (122, .iconst 3, 123, 0, 3, 0, []),
  (123, .aload_n 0, 124, 0, 0, 0, []), (124, .aload_n 0, 125, 0, 0, 0, []), (125, .iload_n 1, 126, 1, 0, 0, []), (126, .aload_n 0, 127, 0, 0, 0, []), (127, .getfield 28, 130, 12, 0, 0, [8, 2]), (130, .iconst 1, 131, 0, 1, 0, []),
  (131, .iaload, 132, 0, 0, 0, []), (132, .invokevirtual 156, 135, 0, 0, 0, [2, 12, 174]), (135, .aload_n 0, 136, 0, 0, 0, []), (136, .iload_n 1, 137, 1, 0, 0, []), (137, .invokevirtual 184, 140, 0, 0, 0, [1, 12, 184]), (140, .invokevirtual 187, 143, 0, 0, 0, [2, 12, 186]),
  (143, .imul, 144, 0, 0, 0, []), (144, .ireturn, 145, 0, 0, 0, []), (145, .aload_n 0, 146, 0, 0, 0, []), (146, .aload_n 0, 147, 0, 0, 0, []), (147, .iload_n 1, 148, 1, 0, 0, []), (148, .aload_n 0, 149, 0, 0, 0, []),
  (149, .getfield 28, 152, 12, 0, 0, [8, 2]), (152, .iconst 1, 153, 0, 1, 0, []), (153, .iaload, 154, 0, 0, 0, []), (154, .invokevirtual 156, 157, 0, 0, 0, [2, 12, 174]), (157, .aload_n 0, 158, 0, 0, 0, []), (158, .getfield 28, 161, 12, 0, 0, [8, 2]),
  (161, .iconst 0, 162, 0, 0, 0, []), (162, .iaload, 163, 0, 0, 0, []), (163, .invokevirtual 187, 166, 0, 0, 0, [2, 12, 186]), (166, .ireturn, 167, 0, 0, 0, [])])
-- 182 DoorSoldModel.isOf(II)Z
def mx_182 : Mx := (⟨"DoorSoldModel", "isOf", "(II)Z"⟩, prog_14_method_41_code, 2, (Option.some FieldType.boolean), [
  (0, .iload_n 0, 1, 0, 0, 0, []), (1, .iload_n 1, 2, 1, 0, 0, []), (2, .if_icmp .eq 23, 5, 25, 0, 0, []), (5, .iload_n 1, 6, 1, 0, 0, []), (6, .iconst 1, 7, 0, 1, 0, []), (7, .if_icmp .ne 8, 10, 15, 0, 0, []),
  (10, .iload_n 0, 11, 0, 0, 0, []), (11, .iconst 5, 12, 0, 5, 0, []), (12, .if_icmp .eq 13, 15, 25, 0, 0, []), (15, .iload_n 1, 16, 1, 0, 0, []), (16, .iconst 2, 17, 0, 2, 0, []), (17, .if_icmp .ne 12, 20, 29, 0, 0, []),
  (20, .iload_n 0, 21, 0, 0, 0, []), (21, .iconst 4, 22, 0, 4, 0, []), (22, .if_icmp .ne 7, 25, 29, 0, 0, []), (25, .iconst 1, 26, 0, 1, 0, []), (26, .goto 4, 29, 30, 0, 0, []), (29, .iconst 0, 30, 0, 0, 0, []),
  (30, .ireturn, 31, 1, 0, 0, [])])
-- 183 DoorSoldModel.openOthers(I)I
def mx_183 : Mx := (⟨"DoorSoldModel", "openOthers", "(I)I"⟩, prog_14_method_42_code, 4, (Option.some FieldType.int), [
  (0, .iconst 0, 1, 0, 0, 0, []), (1, .istore_n 2, 2, 2, 0, 0, []), (2, .iconst 0, 3, 0, 0, 0, []), (3, .istore_n 3, 4, 3, 0, 0, []), (4, .iload_n 3, 5, 3, 0, 0, []), (5, .aload_n 0, 6, 0, 0, 0, []),
  (6, .getfield 130, 9, 12, 0, 0, [4, 0]), (9, .if_icmp .ge 40, 12, 49, 0, 0, []), (12, .iload_n 2, 13, 2, 0, 0, []), (13, .iload_n 3, 14, 3, 0, 0, []), (14, .iload_n 1, 15, 1, 0, 0, []), (15, .if_icmp .eq 25, 18, 40, 0, 0, []),
  (18, .aload_n 0, 19, 0, 0, 0, []), (19, .getfield 22, 22, 12, 0, 0, [6, 2]), (22, .iload_n 3, 23, 3, 0, 0, []), (23, .iaload, 24, 0, 0, 0, []), (24, .aload_n 0, 25, 0, 0, 0, []), (25, .getfield 28, 28, 12, 0, 0, [8, 2]),
  (28, .iconst 1, 29, 0, 1, 0, []), (29, .iaload, 30, 0, 0, 0, []), (30, .invokestatic 160, 33, 177, 0, 0, [0, 2]), (33, .ifCond .eq 7, 36, 40, 0, 0, []), (36, .iconst 1, 37, 0, 1, 0, []), (37, .goto 4, 40, 41, 0, 0, []),
  (40, .iconst 0, 41, 0, 0, 0, []), (41, .iadd, 42, 0, 0, 0, []), (42, .istore_n 2, 43, 2, 0, 0, []), (43, .iinc 3 1, 46, 3, 1, 0, []), (46, .goto (-42), 49, 4, 0, 0, []), (49, .iload_n 2, 50, 2, 0, 0, []),
  (50, .ireturn, 51, 0, 0, 0, [])])
-- 184 DoorSoldModel.exit(I)I
def mx_184 : Mx := (⟨"DoorSoldModel", "exit", "(I)I"⟩, prog_14_method_36_code, 2, (Option.some FieldType.int), [
  (0, .aload_n 0, 1, 0, 0, 0, []), (1, .getfield 22, 4, 12, 0, 0, [6, 2]), (4, .iload_n 1, 5, 1, 0, 0, []), (5, .iaload, 6, 0, 0, 0, []), (6, .aload_n 0, 7, 0, 0, 0, []), (7, .getfield 28, 10, 12, 0, 0, [8, 2]),
  (10, .iconst 4, 11, 0, 4, 0, []), (11, .iload_n 1, 12, 1, 0, 0, []), (12, .iadd, 13, 0, 0, 0, []), (13, .iaload, 14, 0, 0, 0, []), (14, .aload_n 0, 15, 0, 0, 0, []), (15, .getfield 28, 18, 12, 0, 0, [8, 2]),
  (18, .bipush 10, 20, 0, 10, 0, []), (20, .iload_n 1, 21, 1, 0, 0, []), (21, .iadd, 22, 0, 0, 0, []), (22, .iaload, 23, 0, 0, 0, []), (23, .invokestatic 149, 26, 185, 0, 0, [0, 3]), (26, .ireturn, 27, 0, 0, 0, [])])
-- 185 DoorSoldModel.outward(III)I
def mx_185 : Mx := (⟨"DoorSoldModel", "outward", "(III)I"⟩, prog_14_method_33_code, 3, (Option.some FieldType.int), [
  (0, .iload_n 0, 1, 0, 0, 0, []), (1, .invokestatic 139, 4, 176, 0, 0, [0, 1]), (4, .ifCond .eq 7, 7, 11, 0, 0, []), (7, .iload_n 1, 8, 1, 0, 0, []), (8, .goto 4, 11, 12, 0, 0, []), (11, .iload_n 2, 12, 2, 0, 0, []),
  (12, .ireturn, 13, 0, 0, 0, [])])
-- 186 DoorSoldModel.round0(II)I
def mx_186 : Mx := (⟨"DoorSoldModel", "round0", "(II)I"⟩, prog_14_method_43_code, 3, (Option.some FieldType.int), [
  (0, .iload_n 2, 1, 2, 0, 0, []), (1, .iload_n 1, 2, 1, 0, 0, []), (2, .isub, 3, 0, 0, 0, []), (3, .aload_n 0, 4, 0, 0, 0, []), (4, .getfield 133, 7, 12, 0, 0, [5, 0]), (7, .iadd, 8, 0, 0, 0, []),
  (8, .aload_n 0, 9, 0, 0, 0, []), (9, .getfield 133, 12, 12, 0, 0, [5, 0]), (12, .irem, 13, 0, 0, 0, []), (13, .ireturn, 14, 0, 0, 0, [])])
-- 187 DoorSoldModel.road()I
def mx_187 : Mx := (⟨"DoorSoldModel", "road", "()I"⟩, prog_14_method_52_code, 2, (Option.some FieldType.int), [
  (0, .aload_n 0, 1, 0, 0, 0, []), (1, .invokevirtual 197, 4, 0, 0, 0, [0, 12, 188]), (4, .istore_n 1, 5, 1, 0, 0, []), (5, .iload_n 1, 6, 1, 0, 0, []), (6, .ifCond .eq 5, 9, 11, 0, 0, []), (9, .iload_n 1, 10, 1, 0, 0, []),
  (10, .ireturn, 11, 0, 0, 0, []), (11, .aload_n 0, 12, 0, 0, 0, []), (12, .invokevirtual 201, 15, 0, 0, 0, [0, 12, 189]), (15, .aload_n 0, 16, 0, 0, 0, []), (16, .getfield 28, 19, 12, 0, 0, [8, 2]), (19, .iconst 0, 20, 0, 0, 0, []),
  (20, .iaload, 21, 0, 0, 0, []), (21, .ireturn, 22, 0, 0, 0, [])])
-- 188 DoorSoldModel.refuses()I
def mx_188 : Mx := (⟨"DoorSoldModel", "refuses", "()I"⟩, prog_14_method_51_code, 1, (Option.some FieldType.int), [
  (0, .aload_n 0, 1, 0, 0, 0, []), (1, .getfield 130, 4, 12, 0, 0, [4, 0]), (4, .ifCond .ne 8, 7, 12, 0, 0, []), (7, .bipush (-4), 9, 0, (-4), 0, []), (9, .goto 18, 12, 27, 0, 0, []), (12, .aload_n 0, 13, 0, 0, 0, []),
  (13, .getfield 136, 16, 12, 0, 0, [9, 0]), (16, .bipush 40, 18, 0, 40, 0, []), (18, .if_icmp .ne 8, 21, 26, 0, 0, []), (21, .bipush (-2), 23, 0, (-2), 0, []), (23, .goto 4, 26, 27, 0, 0, []), (26, .iconst 0, 27, 0, 0, 0, []),
  (27, .ireturn, 28, 0, 0, 0, [])])
-- 189 DoorSoldModel.roads()V
def mx_189 : Mx := (⟨"DoorSoldModel", "roads", "()V"⟩, prog_14_method_47_code, 1, (none : Option FieldType), [
  (0, .aload_n 0, 1, 0, 0, 0, []), (1, .invokevirtual 194, 4, 0, 0, 0, [0, 12, 190]), (4, .aload_n 0, 5, 0, 0, 0, []), (5, .getfield 28, 8, 12, 0, 0, [8, 2]), (8, .iconst 0, 9, 0, 0, 0, []), (9, .aload_n 0, 10, 0, 0, 0, []),
  (10, .getfield 28, 13, 12, 0, 0, [8, 2]), (13, .iconst 0, 14, 0, 0, 0, []), (14, .iaload, 15, 0, 0, 0, []), (15, .iconst 1, 16, 0, 1, 0, []), (16, .iadd, 17, 0, 0, 0, []), (17, .aload_n 0, 18, 0, 0, 0, []),
  (18, .getfield 133, 21, 12, 0, 0, [5, 0]), (21, .irem, 22, 0, 0, 0, []), (22, .iastore, 23, 0, 0, 0, []), (23, .aload_n 0, 24, 0, 0, 0, []), (24, .getfield 28, 27, 12, 0, 0, [8, 2]), (27, .iconst 1, 28, 0, 1, 0, []),
  (28, .dup2, 29, 0, 0, 0, []), (29, .iaload, 30, 0, 0, 0, []), (30, .iconst 3, 31, 0, 3, 0, []), (31, .iadd, 32, 0, 0, 0, []), (32, .iastore, 33, 0, 0, 0, []), (33, .return_, 34, 0, 0, 0, [])])
-- 190 DoorSoldModel.remember()V
def mx_190 : Mx := (⟨"DoorSoldModel", "remember", "()V"⟩, prog_14_method_46_code, 1, (none : Option FieldType), [
  (0, .aload_n 0, 1, 0, 0, 0, []), (1, .getfield 28, 4, 12, 0, 0, [8, 2]), (4, .iconst 0, 5, 0, 0, 0, []), (5, .aload_n 0, 6, 0, 0, 0, []), (6, .getfield 31, 9, 12, 0, 0, [10, 2]), (9, .bipush 16, 11, 0, 16, 0, []),
  (11, .aload_n 0, 12, 0, 0, 0, []), (12, .getfield 136, 15, 12, 0, 0, [9, 0]), (15, .imul, 16, 0, 0, 0, []), (16, .bipush 16, 18, 0, 16, 0, []), (18, .invokestatic 190, 21, 191, 0, 0, [0, 5]), (21, .aload_n 0, 22, 0, 0, 0, []),
  (22, .dup, 23, 0, 0, 0, []), (23, .getfield 136, 26, 12, 0, 0, [9, 0]), (26, .iconst 1, 27, 0, 1, 0, []), (27, .iadd, 28, 0, 0, 0, []), (28, .putfield 136, 31, 12, 0, 0, [9, 0]), (31, .return_, 32, 0, 0, 0, [])])
-- 191 DoorSoldModel.copies([II[III)V
def mx_191 : Mx := (⟨"DoorSoldModel", "copies", "([II[III)V"⟩, prog_14_method_45_code, 6, (none : Option FieldType), [
  (0, .iconst 0, 1, 0, 0, 0, []), (1, .istore 5, 3, 5, 0, 0, []), (3, .iload 5, 5, 5, 0, 0, []), (5, .iload 4, 7, 4, 0, 0, []), (7, .if_icmp .ge 21, 10, 28, 0, 0, []), (10, .aload_n 2, 11, 2, 0, 0, []),
  (11, .iload_n 3, 12, 3, 0, 0, []), (12, .iload 5, 14, 5, 0, 0, []), (14, .iadd, 15, 0, 0, 0, []), (15, .aload_n 0, 16, 0, 0, 0, []), (16, .iload_n 1, 17, 1, 0, 0, []), (17, .iload 5, 19, 5, 0, 0, []),
  (19, .iadd, 20, 0, 0, 0, []), (20, .iaload, 21, 0, 0, 0, []), (21, .iastore, 22, 0, 0, 0, []), (22, .iinc 5 1, 25, 5, 1, 0, []), (25, .goto (-22), 28, 3, 0, 0, []), (28, .return_, 29, 0, 0, 0, [])])
-- 192 DoorSoldModel.stay()I
def mx_192 : Mx := (⟨"DoorSoldModel", "stay", "()I"⟩, prog_14_method_53_code, 2, (Option.some FieldType.int), [
  (0, .aload_n 0, 1, 0, 0, 0, []), (1, .invokevirtual 197, 4, 0, 0, 0, [0, 12, 188]), (4, .istore_n 1, 5, 1, 0, 0, []), (5, .iload_n 1, 6, 1, 0, 0, []), (6, .ifCond .eq 5, 9, 11, 0, 0, []), (9, .iload_n 1, 10, 1, 0, 0, []),
  (10, .ireturn, 11, 0, 0, 0, []), (11, .aload_n 0, 12, 0, 0, 0, []), (12, .invokevirtual 204, 15, 0, 0, 0, [0, 12, 193]), (15, .aload_n 0, 16, 0, 0, 0, []), (16, .getfield 28, 19, 12, 0, 0, [8, 2]), (19, .iconst 1, 20, 0, 1, 0, []),
  (20, .iaload, 21, 0, 0, 0, []), (21, .ireturn, 22, 0, 0, 0, [])])
-- 193 DoorSoldModel.waits()V
def mx_193 : Mx := (⟨"DoorSoldModel", "waits", "()V"⟩, prog_14_method_48_code, 1, (none : Option FieldType), [
  (0, .aload_n 0, 1, 0, 0, 0, []), (1, .invokevirtual 194, 4, 0, 0, 0, [0, 12, 190]), (4, .aload_n 0, 5, 0, 0, 0, []), (5, .getfield 28, 8, 12, 0, 0, [8, 2]), (8, .iconst 1, 9, 0, 1, 0, []), (9, .dup2, 10, 0, 0, 0, []),
  (10, .iaload, 11, 0, 0, 0, []), (11, .iconst 1, 12, 0, 1, 0, []), (12, .iadd, 13, 0, 0, 0, []), (13, .iastore, 14, 0, 0, 0, []), (14, .return_, 15, 0, 0, 0, [])])
-- 194 DoorSoldModel.go(I)I
def mx_194 : Mx := (⟨"DoorSoldModel", "go", "(I)I"⟩, prog_14_method_54_code, 2, (Option.some FieldType.int), [
  (0, .aload_n 0, 1, 0, 0, 0, []), (1, .iload_n 1, 2, 1, 0, 0, []), (2, .invokevirtual 170, 5, 0, 0, 0, [1, 12, 171]), (5, .ifCond .ne 5, 8, 10, 0, 0, []), (8, .iconst (-1), 9, 0, (-1), 0, []), (9, .ireturn, 10, 0, 0, 0, []),
  (10, .aload_n 0, 11, 0, 0, 0, []), (11, .iload_n 1, 12, 1, 0, 0, []), (12, .invokevirtual 207, 15, 0, 0, 0, [1, 12, 195]), (15, .ifCond .ne 6, 18, 21, 0, 0, []), (18, .bipush (-4), 20, 0, (-4), 0, []), (20, .ireturn, 21, 0, 0, 0, []),
  (21, .aload_n 0, 22, 0, 0, 0, []), (22, .getfield 136, 25, 12, 0, 0, [9, 0]), (25, .bipush 40, 27, 0, 40, 0, []), (27, .if_icmp .ne 6, 30, 33, 0, 0, []), (30, .bipush (-2), 32, 0, (-2), 0, []), (32, .ireturn, 33, 0, 0, 0, []),
  (33, .aload_n 0, 34, 0, 0, 0, []), (34, .iload_n 1, 35, 1, 0, 0, []), (35, .invokevirtual 210, 38, 0, 0, 0, [1, 12, 196]), (38, .aload_n 0, 39, 0, 0, 0, []), (39, .getfield 28, 42, 12, 0, 0, [8, 2]), (42, .iconst 0, 43, 0, 0, 0, []),
  (43, .iaload, 44, 0, 0, 0, []), (44, .ireturn, 45, 0, 0, 0, [])])
-- 195 DoorSoldModel.mayGo(I)Z
def mx_195 : Mx := (⟨"DoorSoldModel", "mayGo", "(I)Z"⟩, prog_14_method_49_code, 2, (Option.some FieldType.boolean), [
  (0, .aload_n 0, 1, 0, 0, 0, []), (1, .getfield 28, 4, 12, 0, 0, [8, 2]), (4, .iconst 3, 5, 0, 3, 0, []), (5, .iaload, 6, 0, 0, 0, []), (6, .iload_n 1, 7, 1, 0, 0, []), (7, .invokestatic 167, 10, 180, 0, 0, [0, 2]),
  (10, .ifCond .eq 45, 13, 55, 0, 0, []), (13, .aload_n 0, 14, 0, 0, 0, []), (14, .getfield 22, 17, 12, 0, 0, [6, 2]), (17, .iload_n 1, 18, 1, 0, 0, []), (18, .iaload, 19, 0, 0, 0, []), (19, .aload_n 0, 20, 0, 0, 0, []),
  (20, .getfield 28, 23, 12, 0, 0, [8, 2]), (23, .iconst 1, 24, 0, 1, 0, []), (24, .iaload, 25, 0, 0, 0, []), (25, .invokestatic 160, 28, 177, 0, 0, [0, 2]), (28, .ifCond .eq 27, 31, 55, 0, 0, []), (31, .aload_n 0, 32, 0, 0, 0, []),
  (32, .iload_n 1, 33, 1, 0, 0, []), (33, .aload_n 0, 34, 0, 0, 0, []), (34, .getfield 28, 37, 12, 0, 0, [8, 2]), (37, .iconst 1, 38, 0, 1, 0, []), (38, .iaload, 39, 0, 0, 0, []), (39, .invokevirtual 156, 42, 0, 0, 0, [2, 12, 174]),
  (42, .aload_n 0, 43, 0, 0, 0, []), (43, .getfield 28, 46, 12, 0, 0, [8, 2]), (46, .iconst 0, 47, 0, 0, 0, []), (47, .iaload, 48, 0, 0, 0, []), (48, .if_icmp .ne 7, 51, 55, 0, 0, []), (51, .iconst 1, 52, 0, 1, 0, []),
  (52, .goto 4, 55, 56, 0, 0, []), (55, .iconst 0, 56, 0, 0, 0, []), (56, .ireturn, 57, 1, 0, 0, [])])
-- 196 DoorSoldModel.goes(I)V
def mx_196 : Mx := (⟨"DoorSoldModel", "goes", "(I)V"⟩, prog_14_method_50_code, 2, (none : Option FieldType), [
  (0, .aload_n 0, 1, 0, 0, 0, []), (1, .invokevirtual 194, 4, 0, 0, 0, [0, 12, 190]), (4, .aload_n 0, 5, 0, 0, 0, []), (5, .getfield 28, 8, 12, 0, 0, [8, 2]), (8, .iconst 0, 9, 0, 0, 0, []), (9, .aload_n 0, 10, 0, 0, 0, []),
  (10, .iload_n 1, 11, 1, 0, 0, []), (11, .invokevirtual 184, 14, 0, 0, 0, [1, 12, 184]), (14, .iastore, 15, 0, 0, 0, []), (15, .aload_n 0, 16, 0, 0, 0, []), (16, .getfield 28, 19, 12, 0, 0, [8, 2]), (19, .iconst 1, 20, 0, 1, 0, []),
  (20, .dup2, 21, 0, 0, 0, []), (21, .iaload, 22, 0, 0, 0, []), (22, .aload_n 0, 23, 0, 0, 0, []), (23, .iload_n 1, 24, 1, 0, 0, []), (24, .invokevirtual 164, 27, 0, 0, 0, [1, 12, 179]), (27, .iadd, 28, 0, 0, 0, []),
  (28, .iastore, 29, 0, 0, 0, []), (29, .return_, 30, 0, 0, 0, [])])
-- 197 DoorSoldModel.buy(I)I
def mx_197 : Mx := (⟨"DoorSoldModel", "buy", "(I)I"⟩, prog_14_method_55_code, 2, (Option.some FieldType.int), [
  (0, .aload_n 0, 1, 0, 0, 0, []), (1, .iload_n 1, 2, 1, 0, 0, []), (2, .invokevirtual 170, 5, 0, 0, 0, [1, 12, 171]), (5, .ifCond .ne 5, 8, 10, 0, 0, []), (8, .iconst (-1), 9, 0, (-1), 0, []), (9, .ireturn, 10, 0, 0, 0, []),
  (10, .aload_n 0, 11, 0, 0, 0, []), (11, .getfield 28, 14, 12, 0, 0, [8, 2]), (14, .iconst 3, 15, 0, 3, 0, []), (15, .iaload, 16, 0, 0, 0, []), (16, .iload_n 1, 17, 1, 0, 0, []), (17, .invokestatic 167, 20, 180, 0, 0, [0, 2]),
  (20, .ifCond .eq 6, 23, 26, 0, 0, []), (23, .bipush (-4), 25, 0, (-4), 0, []), (25, .ireturn, 26, 0, 0, 0, []), (26, .aload_n 0, 27, 0, 0, 0, []), (27, .iload_n 1, 28, 1, 0, 0, []), (28, .invokevirtual 153, 31, 0, 0, 0, [1, 12, 173]),
  (31, .aload_n 0, 32, 0, 0, 0, []), (32, .getfield 28, 35, 12, 0, 0, [8, 2]), (35, .iconst 2, 36, 0, 2, 0, []), (36, .iaload, 37, 0, 0, 0, []), (37, .if_icmp .le 6, 40, 43, 0, 0, []), (40, .bipush (-6), 42, 0, (-6), 0, []),
  (42, .ireturn, 43, 0, 0, 0, []), (43, .aload_n 0, 44, 0, 0, 0, []), (44, .getfield 136, 47, 12, 0, 0, [9, 0]), (47, .bipush 40, 49, 0, 40, 0, []), (49, .if_icmp .ne 6, 52, 55, 0, 0, []), (52, .bipush (-2), 54, 0, (-2), 0, []),
  (54, .ireturn, 55, 0, 0, 0, []), (55, .aload_n 0, 56, 0, 0, 0, []), (56, .invokevirtual 194, 59, 0, 0, 0, [0, 12, 190]), (59, .aload_n 0, 60, 0, 0, 0, []), (60, .getfield 28, 63, 12, 0, 0, [8, 2]), (63, .iconst 3, 64, 0, 3, 0, []),
  (64, .dup2, 65, 0, 0, 0, []), (65, .iaload, 66, 0, 0, 0, []), (66, .iconst 1, 67, 0, 1, 0, []), (67, .iload_n 1, 68, 1, 0, 0, []), (68, .ishl, 69, 0, 0, 0, []), (69, .ior, 70, 0, 0, 0, []),
  (70, .iastore, 71, 0, 0, 0, []), (71, .aload_n 0, 72, 0, 0, 0, []), (72, .getfield 28, 75, 12, 0, 0, [8, 2]), (75, .iconst 2, 76, 0, 2, 0, []), (76, .dup2, 77, 0, 0, 0, []), (77, .iaload, 78, 0, 0, 0, []),
  (78, .aload_n 0, 79, 0, 0, 0, []), (79, .iload_n 1, 80, 1, 0, 0, []), (80, .invokevirtual 153, 83, 0, 0, 0, [1, 12, 173]), (83, .isub, 84, 0, 0, 0, []), (84, .iastore, 85, 0, 0, 0, []), (85, .aload_n 0, 86, 0, 0, 0, []),
  (86, .getfield 28, 89, 12, 0, 0, [8, 2]), (89, .iconst 2, 90, 0, 2, 0, []), (90, .iaload, 91, 0, 0, 0, []), (91, .ireturn, 92, 0, 0, 0, [])])
-- 198 DoorSoldModel.sell(I)I
def mx_198 : Mx := (⟨"DoorSoldModel", "sell", "(I)I"⟩, prog_14_method_56_code, 2, (Option.some FieldType.int), [
  (0, .aload_n 0, 1, 0, 0, 0, []), (1, .iload_n 1, 2, 1, 0, 0, []), (2, .invokevirtual 170, 5, 0, 0, 0, [1, 12, 171]), (5, .ifCond .ne 5, 8, 10, 0, 0, []), (8, .iconst (-1), 9, 0, (-1), 0, []), (9, .ireturn, 10, 0, 0, 0, []),
  (10, .aload_n 0, 11, 0, 0, 0, []), (11, .getfield 28, 14, 12, 0, 0, [8, 2]), (14, .iconst 3, 15, 0, 3, 0, []), (15, .iaload, 16, 0, 0, 0, []), (16, .iload_n 1, 17, 1, 0, 0, []), (17, .invokestatic 167, 20, 180, 0, 0, [0, 2]),
  (20, .ifCond .ne 6, 23, 26, 0, 0, []), (23, .bipush (-4), 25, 0, (-4), 0, []), (25, .ireturn, 26, 0, 0, 0, []), (26, .aload_n 0, 27, 0, 0, 0, []), (27, .getfield 136, 30, 12, 0, 0, [9, 0]), (30, .bipush 40, 32, 0, 40, 0, []),
  (32, .if_icmp .ne 6, 35, 38, 0, 0, []), (35, .bipush (-2), 37, 0, (-2), 0, []), (37, .ireturn, 38, 0, 0, 0, []), (38, .aload_n 0, 39, 0, 0, 0, []), (39, .invokevirtual 194, 42, 0, 0, 0, [0, 12, 190]), (42, .aload_n 0, 43, 0, 0, 0, []),
  (43, .getfield 28, 46, 12, 0, 0, [8, 2]), (46, .iconst 3, 47, 0, 3, 0, []), (47, .dup2, 48, 0, 0, 0, []), (48, .iaload, 49, 0, 0, 0, []), (49, .iconst 1, 50, 0, 1, 0, []), (50, .iload_n 1, 51, 1, 0, 0, []),
  (51, .ishl, 52, 0, 0, 0, []), (52, .iconst (-1), 53, 0, (-1), 0, []), (53, .ixor, 54, 0, 0, 0, []), (54, .iand, 55, 0, 0, 0, []), (55, .iastore, 56, 0, 0, 0, []), (56, .aload_n 0, 57, 0, 0, 0, []),
  (57, .getfield 28, 60, 12, 0, 0, [8, 2]), (60, .iconst 2, 61, 0, 2, 0, []), (61, .dup2, 62, 0, 0, 0, []), (62, .iaload, 63, 0, 0, 0, []), (63, .aload_n 0, 64, 0, 0, 0, []), (64, .iload_n 1, 65, 1, 0, 0, []),
  (65, .invokevirtual 153, 68, 0, 0, 0, [1, 12, 173]), (68, .iconst 2, 69, 0, 2, 0, []), (69, .idiv, 70, 0, 0, 0, []), (70, .iadd, 71, 0, 0, 0, []), (71, .iastore, 72, 0, 0, 0, []), (72, .aload_n 0, 73, 0, 0, 0, []),
  (73, .getfield 28, 76, 12, 0, 0, [8, 2]), (76, .iconst 2, 77, 0, 2, 0, []), (77, .iaload, 78, 0, 0, 0, []), (78, .ireturn, 79, 0, 0, 0, [])])
-- 199 DoorSoldModel.set(I)I
def mx_199 : Mx := (⟨"DoorSoldModel", "set", "(I)I"⟩, prog_14_method_57_code, 2, (Option.some FieldType.int), [
  (0, .aload_n 0, 1, 0, 0, 0, []), (1, .iload_n 1, 2, 1, 0, 0, []), (2, .invokevirtual 170, 5, 0, 0, 0, [1, 12, 171]), (5, .ifCond .ne 5, 8, 10, 0, 0, []), (8, .iconst (-1), 9, 0, (-1), 0, []), (9, .ireturn, 10, 0, 0, 0, []),
  (10, .aload_n 0, 11, 0, 0, 0, []), (11, .getfield 28, 14, 12, 0, 0, [8, 2]), (14, .iconst 3, 15, 0, 3, 0, []), (15, .iaload, 16, 0, 0, 0, []), (16, .iload_n 1, 17, 1, 0, 0, []), (17, .invokestatic 167, 20, 180, 0, 0, [0, 2]),
  (20, .ifCond .eq 23, 23, 43, 0, 0, []), (23, .aload_n 0, 24, 0, 0, 0, []), (24, .iload_n 1, 25, 1, 0, 0, []), (25, .aload_n 0, 26, 0, 0, 0, []), (26, .getfield 28, 29, 12, 0, 0, [8, 2]), (29, .iconst 1, 30, 0, 1, 0, []),
  (30, .iaload, 31, 0, 0, 0, []), (31, .invokevirtual 156, 34, 0, 0, 0, [2, 12, 174]), (34, .aload_n 0, 35, 0, 0, 0, []), (35, .getfield 28, 38, 12, 0, 0, [8, 2]), (38, .iconst 0, 39, 0, 0, 0, []), (39, .iaload, 40, 0, 0, 0, []),
  (40, .if_icmp .ne 6, 43, 46, 0, 0, []), (43, .bipush (-4), 45, 0, (-4), 0, []), (45, .ireturn, 46, 0, 0, 0, []), (46, .aload_n 0, 47, 0, 0, 0, []), (47, .getfield 136, 50, 12, 0, 0, [9, 0]), (50, .bipush 40, 52, 0, 40, 0, []),
  (52, .if_icmp .ne 6, 55, 58, 0, 0, []), (55, .bipush (-2), 57, 0, (-2), 0, []), (57, .ireturn, 58, 0, 0, 0, []), (58, .aload_n 0, 59, 0, 0, 0, []), (59, .invokevirtual 194, 62, 0, 0, 0, [0, 12, 190]), (62, .aload_n 0, 63, 0, 0, 0, []),
  (63, .getfield 22, 66, 12, 0, 0, [6, 2]), (66, .iload_n 1, 67, 1, 0, 0, []), (67, .iaload, 68, 0, 0, 0, []), (68, .invokestatic 139, 71, 176, 0, 0, [0, 1]), (71, .ifCond .eq 21, 74, 92, 0, 0, []), (74, .aload_n 0, 75, 0, 0, 0, []),
  (75, .getfield 28, 78, 12, 0, 0, [8, 2]), (78, .bipush 10, 80, 0, 10, 0, []), (80, .iload_n 1, 81, 1, 0, 0, []), (81, .iadd, 82, 0, 0, 0, []), (82, .aload_n 0, 83, 0, 0, 0, []), (83, .getfield 28, 86, 12, 0, 0, [8, 2]),
  (86, .iconst 0, 87, 0, 0, 0, []), (87, .iaload, 88, 0, 0, 0, []), (88, .iastore, 89, 0, 0, 0, []), (89, .goto 51, 92, 140, 0, 0, []), (92, .aload_n 0, 93, 0, 0, 0, []), (93, .getfield 28, 96, 12, 0, 0, [8, 2]),
  (96, .iconst 4, 97, 0, 4, 0, []), (97, .iload_n 1, 98, 1, 0, 0, []), (98, .iadd, 99, 0, 0, 0, []), (99, .aload_n 0, 100, 0, 0, 0, []), (100, .getfield 22, 103, 12, 0, 0, [6, 2]), (103, .iload_n 1, 104, 1, 0, 0, []),
  (104, .iaload, 105, 0, 0, 0, []), (105, .iconst 5, 106, 0, 5, 0, []), (106, .if_icmp .ne 27, 109, 133, 0, 0, []), (109, .aload_n 0, 110, 0, 0, 0, []), (110, .aload_n 0, 111, 0, 0, 0, []), (111, .getfield 28, 114, 12, 0, 0, [8, 2]),
  (114, .iconst 1, 115, 0, 1, 0, []), (115, .iaload, 116, 0, 0, 0, []), (116, .aload_n 0, 117, 0, 0, 0, []), (117, .getfield 133, 120, 12, 0, 0, [5, 0]), (120, .irem, 121, 0, 0, 0, []), (121, .aload_n 0, 122, 0, 0, 0, []),
  (122, .getfield 28, 125, 12, 0, 0, [8, 2]), (125, .iconst 0, 126, 0, 0, 0, []), (126, .iaload, 127, 0, 0, 0, []), (127, .invokevirtual 187, 130, 0, 0, 0, [2, 12, 186]), (130, .goto 9, 133, 139, 0, 0, []), (133, .aload_n 0, 134, 0, 0, 0, []),
  (134, .getfield 28, 137, 12, 0, 0, [8, 2]), (137, .iconst 0, 138, 0, 0, 0, []), (138, .iaload, 139, 0, 0, 0, []), (139, .iastore, 140, 0, 0, 0, []), (140, .aload_n 0, 141, 0, 0, 0, []), (141, .getfield 28, 144, 12, 0, 0, [8, 2]),
  (144, .iconst 4, 145, 0, 4, 0, []), (145, .iload_n 1, 146, 1, 0, 0, []), (146, .iadd, 147, 0, 0, 0, []), (147, .iaload, 148, 0, 0, 0, []), (148, .ireturn, 149, 0, 0, 0, [])])
-- 200 DoorSoldModel.undo(I)I
def mx_200 : Mx := (⟨"DoorSoldModel", "undo", "(I)I"⟩, prog_14_method_58_code, 3, (Option.some FieldType.int), [
  (0, .iload_n 1, 1, 1, 0, 0, []), (1, .i2l, 2, 0, 0, 0, []), (2, .lconst 0, 3, 0, 0, 0, []), (3, .aload_n 0, 4, 0, 0, 0, []), (4, .getfield 136, 7, 12, 0, 0, [9, 0]), (7, .i2l, 8, 0, 0, 0, []),
  (8, .invokestatic 72, 11, 150, 0, 0, [0, 3]), (11, .ifCond .ne 5, 14, 16, 0, 0, []), (14, .iconst (-1), 15, 0, (-1), 0, []), (15, .ireturn, 16, 0, 0, 0, []), (16, .aload_n 0, 17, 0, 0, 0, []), (17, .getfield 136, 20, 12, 0, 0, [9, 0]),
  (20, .iload_n 1, 21, 1, 0, 0, []), (21, .isub, 22, 0, 0, 0, []), (22, .istore_n 2, 23, 2, 0, 0, []), (23, .iload_n 2, 24, 2, 0, 0, []), (24, .ifCond .le 21, 27, 45, 0, 0, []), (27, .aload_n 0, 28, 0, 0, 0, []),
  (28, .getfield 31, 31, 12, 0, 0, [10, 2]), (31, .bipush 16, 33, 0, 16, 0, []), (33, .iload_n 1, 34, 1, 0, 0, []), (34, .imul, 35, 0, 0, 0, []), (35, .aload_n 0, 36, 0, 0, 0, []), (36, .getfield 28, 39, 12, 0, 0, [8, 2]),
  (39, .iconst 0, 40, 0, 0, 0, []), (40, .bipush 16, 42, 0, 16, 0, []), (42, .invokestatic 190, 45, 191, 0, 0, [0, 5]), (45, .aload_n 0, 46, 0, 0, 0, []), (46, .iload_n 1, 47, 1, 0, 0, []), (47, .putfield 136, 50, 12, 0, 0, [9, 0]),
  (50, .iload_n 2, 51, 2, 0, 0, []), (51, .ireturn, 52, 0, 0, 0, [])])
-- 201 DoorSoldModel.keep(I)I
def mx_201 : Mx := (⟨"DoorSoldModel", "keep", "(I)I"⟩, prog_14_method_59_code, 2, (Option.some FieldType.int), [
  (0, .iload_n 1, 1, 1, 0, 0, []), (1, .i2l, 2, 0, 0, 0, []), (2, .lconst 0, 3, 0, 0, 0, []), (3, .ldc2_w 213, 6, 0, 0, 2, []), (6, .invokestatic 72, 9, 150, 0, 0, [0, 3]), (9, .ifCond .ne 5, 12, 14, 0, 0, []),
  (12, .iconst (-1), 13, 0, (-1), 0, []), (13, .ireturn, 14, 0, 0, 0, []), (14, .aload_n 0, 15, 0, 0, 0, []), (15, .getfield 130, 18, 12, 0, 0, [4, 0]), (18, .ifCond .ne 6, 21, 24, 0, 0, []), (21, .bipush (-4), 23, 0, (-4), 0, []),
  (23, .ireturn, 24, 0, 0, 0, []), (24, .aload_n 0, 25, 0, 0, 0, []), (25, .getfield 28, 28, 12, 0, 0, [8, 2]), (28, .iconst 0, 29, 0, 0, 0, []), (29, .aload_n 0, 30, 0, 0, 0, []), (30, .getfield 34, 33, 12, 0, 0, [11, 2]),
  (33, .sipush 657, 36, 0, 657, 0, []), (36, .iload_n 1, 37, 1, 0, 0, []), (37, .imul, 38, 0, 0, 0, []), (38, .bipush 16, 40, 0, 16, 0, []), (40, .invokestatic 190, 43, 191, 0, 0, [0, 5]), (43, .aload_n 0, 44, 0, 0, 0, []),
  (44, .getfield 31, 47, 12, 0, 0, [10, 2]), (47, .iconst 0, 48, 0, 0, 0, []), (48, .aload_n 0, 49, 0, 0, 0, []), (49, .getfield 34, 52, 12, 0, 0, [11, 2]), (52, .sipush 657, 55, 0, 657, 0, []), (55, .iload_n 1, 56, 1, 0, 0, []),
  (56, .imul, 57, 0, 0, 0, []), (57, .bipush 16, 59, 0, 16, 0, []), (59, .iadd, 60, 0, 0, 0, []), (60, .sipush 640, 63, 0, 640, 0, []), (63, .invokestatic 190, 66, 191, 0, 0, [0, 5]), (66, .aload_n 0, 67, 0, 0, 0, []),
  (67, .getfield 34, 70, 12, 0, 0, [11, 2]), (70, .sipush 657, 73, 0, 657, 0, []), (73, .iload_n 1, 74, 1, 0, 0, []), (74, .imul, 75, 0, 0, 0, []), (75, .sipush 656, 78, 0, 656, 0, []), (78, .iadd, 79, 0, 0, 0, []),
  (79, .aload_n 0, 80, 0, 0, 0, []), (80, .getfield 136, 83, 12, 0, 0, [9, 0]), (83, .iastore, 84, 0, 0, 0, []), (84, .aload_n 0, 85, 0, 0, 0, []), (85, .getfield 37, 88, 12, 0, 0, [12, 2]), (88, .iload_n 1, 89, 1, 0, 0, []),
  (89, .iconst 1, 90, 0, 1, 0, []), (90, .bastore, 91, 0, 0, 0, []), (91, .aload_n 0, 92, 0, 0, 0, []), (92, .getfield 136, 95, 12, 0, 0, [9, 0]), (95, .ireturn, 96, 0, 0, 0, [])])
-- 202 DoorSoldModel.on(I)I
def mx_202 : Mx := (⟨"DoorSoldModel", "on", "(I)I"⟩, prog_14_method_60_code, 2, (Option.some FieldType.int), [
  (0, .iload_n 1, 1, 1, 0, 0, []), (1, .i2l, 2, 0, 0, 0, []), (2, .lconst 0, 3, 0, 0, 0, []), (3, .ldc2_w 213, 6, 0, 0, 2, []), (6, .invokestatic 72, 9, 150, 0, 0, [0, 3]), (9, .ifCond .ne 5, 12, 14, 0, 0, []),
  (12, .iconst (-1), 13, 0, (-1), 0, []), (13, .ireturn, 14, 0, 0, 0, []), (14, .aload_n 0, 15, 0, 0, 0, []), (15, .getfield 37, 18, 12, 0, 0, [12, 2]), (18, .iload_n 1, 19, 1, 0, 0, []), (19, .baload, 20, 0, 0, 0, []),
  (20, .ifCond .ne 9, 23, 29, 0, 0, []), (23, .aload_n 0, 24, 0, 0, 0, []), (24, .iconst 1, 25, 0, 1, 0, []), (25, .invokevirtual 82, 28, 0, 0, 0, [1, 12, 151]), (28, .ireturn, 29, 0, 0, 0, []), (29, .aload_n 0, 30, 0, 0, 0, []),
  (30, .getfield 34, 33, 12, 0, 0, [11, 2]), (33, .sipush 657, 36, 0, 657, 0, []), (36, .iload_n 1, 37, 1, 0, 0, []), (37, .imul, 38, 0, 0, 0, []), (38, .aload_n 0, 39, 0, 0, 0, []), (39, .getfield 28, 42, 12, 0, 0, [8, 2]),
  (42, .iconst 0, 43, 0, 0, 0, []), (43, .bipush 16, 45, 0, 16, 0, []), (45, .invokestatic 190, 48, 191, 0, 0, [0, 5]), (48, .aload_n 0, 49, 0, 0, 0, []), (49, .getfield 34, 52, 12, 0, 0, [11, 2]), (52, .sipush 657, 55, 0, 657, 0, []),
  (55, .iload_n 1, 56, 1, 0, 0, []), (56, .imul, 57, 0, 0, 0, []), (57, .bipush 16, 59, 0, 16, 0, []), (59, .iadd, 60, 0, 0, 0, []), (60, .aload_n 0, 61, 0, 0, 0, []), (61, .getfield 31, 64, 12, 0, 0, [10, 2]),
  (64, .iconst 0, 65, 0, 0, 0, []), (65, .sipush 640, 68, 0, 640, 0, []), (68, .invokestatic 190, 71, 191, 0, 0, [0, 5]), (71, .aload_n 0, 72, 0, 0, 0, []), (72, .aload_n 0, 73, 0, 0, 0, []), (73, .getfield 34, 76, 12, 0, 0, [11, 2]),
  (76, .sipush 657, 79, 0, 657, 0, []), (79, .iload_n 1, 80, 1, 0, 0, []), (80, .imul, 81, 0, 0, 0, []), (81, .sipush 656, 84, 0, 656, 0, []), (84, .iadd, 85, 0, 0, 0, []), (85, .iaload, 86, 0, 0, 0, []),
  (86, .putfield 136, 89, 12, 0, 0, [9, 0]), (89, .aload_n 0, 90, 0, 0, 0, []), (90, .getfield 136, 93, 12, 0, 0, [9, 0]), (93, .ireturn, 94, 0, 0, 0, [])])
-- 203 DoorSoldModel.where(I)I
def mx_203 : Mx := (⟨"DoorSoldModel", "where", "(I)I"⟩, prog_14_method_64_code, 2, (Option.some FieldType.int), [
  (0, .iload_n 1, 1, 1, 0, 0, []), (1, .i2l, 2, 0, 0, 0, []), (2, .lconst 0, 3, 0, 0, 0, []), (3, .ldc2_w 221, 6, 0, 0, 30, []), (6, .invokestatic 72, 9, 150, 0, 0, [0, 3]), (9, .ifCond .ne 5, 12, 14, 0, 0, []),
  (12, .iconst (-1), 13, 0, (-1), 0, []), (13, .ireturn, 14, 0, 0, 0, []), (14, .aload_n 0, 15, 0, 0, 0, []), (15, .getfield 130, 18, 12, 0, 0, [4, 0]), (18, .ifCond .ne 6, 21, 24, 0, 0, []), (21, .bipush (-4), 23, 0, (-4), 0, []),
  (23, .ireturn, 24, 0, 0, 0, []), (24, .aload_n 0, 25, 0, 0, 0, []), (25, .aload_n 0, 26, 0, 0, 0, []), (26, .getfield 28, 29, 12, 0, 0, [8, 2]), (29, .iconst 3, 30, 0, 3, 0, []), (30, .iaload, 31, 0, 0, 0, []),
  (31, .invokevirtual 223, 34, 0, 0, 0, [1, 12, 204]), (34, .aload_n 0, 35, 0, 0, 0, []), (35, .getfield 51, 38, 12, 0, 0, [24, 2]), (38, .iload_n 1, 39, 1, 0, 0, []), (39, .iaload, 40, 0, 0, 0, []), (40, .ireturn, 41, 0, 0, 0, [])])
-- 204 DoorSoldModel.layHours(I)V
def mx_204 : Mx := (⟨"DoorSoldModel", "layHours", "(I)V"⟩, prog_14_method_63_code, 6, (none : Option FieldType), [
  (0, .iconst 0, 1, 0, 0, 0, []), (1, .istore_n 2, 2, 2, 0, 0, []), (2, .iload_n 2, 3, 2, 0, 0, []), (3, .bipush 34, 5, 0, 34, 0, []), (5, .if_icmp .ge 31, 8, 36, 0, 0, []), (8, .aload_n 0, 9, 0, 0, 0, []),
  (9, .getfield 51, 12, 12, 0, 0, [24, 2]), (12, .iload_n 2, 13, 2, 0, 0, []), (13, .iload_n 2, 14, 2, 0, 0, []), (14, .ifCond .ne 14, 17, 28, 0, 0, []), (17, .iconst 1, 18, 0, 1, 0, []), (18, .aload_n 0, 19, 0, 0, 0, []),
  (19, .getfield 28, 22, 12, 0, 0, [8, 2]), (22, .iconst 0, 23, 0, 0, 0, []), (23, .iaload, 24, 0, 0, 0, []), (24, .ishl, 25, 0, 0, 0, []), (25, .goto 4, 28, 29, 0, 0, []), (28, .iconst 0, 29, 0, 0, 0, []),
  (29, .iastore, 30, 0, 0, 0, []), (30, .iinc 2 1, 33, 2, 1, 0, []), (33, .goto (-31), 36, 2, 0, 0, []), (36, .iconst 0, 37, 0, 0, 0, []), (37, .istore_n 2, 38, 2, 0, 0, []), (38, .iload_n 2, 39, 2, 0, 0, []),
  (39, .bipush 31, 41, 0, 31, 0, []), (41, .if_icmp .ge 92, 44, 133, 0, 0, []), (44, .iconst 0, 45, 0, 0, 0, []), (45, .istore_n 3, 46, 3, 0, 0, []), (46, .iload_n 3, 47, 3, 0, 0, []), (47, .aload_n 0, 48, 0, 0, 0, []),
  (48, .getfield 133, 51, 12, 0, 0, [5, 0]), (51, .if_icmp .ge 76, 54, 127, 0, 0, []), (54, .iconst 0, 55, 0, 0, 0, []), (55, .istore 4, 57, 4, 0, 0, []), (57, .iload 4, 59, 4, 0, 0, []), (59, .bipush 8, 61, 0, 8, 0, []),
  (61, .if_icmp .ge 60, 64, 121, 0, 0, []), (64, .aload_n 0, 65, 0, 0, 0, []), (65, .getfield 51, 68, 12, 0, 0, [24, 2]), (68, .iload_n 2, 69, 2, 0, 0, []), (69, .iaload, 70, 0, 0, 0, []), (70, .iload_n 3, 71, 3, 0, 0, []),
  (71, .invokestatic 167, 74, 180, 0, 0, [0, 2]), (74, .ifCond .eq 47, 77, 121, 0, 0, []), (77, .aload_n 0, 78, 0, 0, 0, []), (78, .iload 4, 80, 4, 0, 0, []), (80, .iload_n 3, 81, 3, 0, 0, []), (81, .iload_n 2, 82, 2, 0, 0, []),
  (82, .iload_n 1, 83, 1, 0, 0, []), (83, .invokevirtual 215, 86, 0, 0, 0, [4, 12, 205]), (86, .istore 5, 88, 5, 0, 0, []), (88, .iload 5, 90, 5, 0, 0, []), (90, .bipush (-9), 92, 0, (-9), 0, []), (92, .if_icmp .eq 23, 95, 115, 0, 0, []),
  (95, .aload_n 0, 96, 0, 0, 0, []), (96, .getfield 51, 99, 12, 0, 0, [24, 2]), (99, .iload_n 2, 100, 2, 0, 0, []), (100, .aload_n 0, 101, 0, 0, 0, []), (101, .iload 4, 103, 4, 0, 0, []), (103, .invokevirtual 218, 106, 0, 0, 0, [1, 12, 206]),
  (106, .iadd, 107, 0, 0, 0, []), (107, .dup2, 108, 0, 0, 0, []), (108, .iaload, 109, 0, 0, 0, []), (109, .iconst 1, 110, 0, 1, 0, []), (110, .iload 5, 112, 5, 0, 0, []), (112, .ishl, 113, 0, 0, 0, []),
  (113, .ior, 114, 0, 0, 0, []), (114, .iastore, 115, 0, 0, 0, []), (115, .iinc 4 1, 118, 4, 1, 0, []), (118, .goto (-61), 121, 57, 0, 0, []), (121, .iinc 3 1, 124, 3, 1, 0, []), (124, .goto (-78), 127, 46, 0, 0, []),
  (127, .iinc 2 1, 130, 2, 1, 0, []), (130, .goto (-92), 133, 38, 0, 0, []), (133, .return_, 134, 0, 0, 0, [])])
-- 205 DoorSoldModel.leadsTo(IIII)I
def mx_205 : Mx := (⟨"DoorSoldModel", "leadsTo", "(IIII)I"⟩, prog_14_method_61_code, 7, (Option.some FieldType.int), [
  (0, .iload_n 1, 1, 1, 0, 0, []), (1, .bipush 6, 3, 0, 6, 0, []), (3, .if_icmp .ne 12, 6, 15, 0, 0, []), (6, .iload_n 2, 7, 2, 0, 0, []), (7, .iconst 1, 8, 0, 1, 0, []), (8, .iadd, 9, 0, 0, 0, []),
  (9, .aload_n 0, 10, 0, 0, 0, []), (10, .getfield 133, 13, 12, 0, 0, [5, 0]), (13, .irem, 14, 0, 0, 0, []), (14, .ireturn, 15, 0, 0, 0, []), (15, .iload_n 1, 16, 1, 0, 0, []), (16, .bipush 7, 18, 0, 7, 0, []),
  (18, .if_icmp .ne 5, 21, 23, 0, 0, []), (21, .iload_n 2, 22, 2, 0, 0, []), (22, .ireturn, 23, 0, 0, 0, []), (23, .aload_n 0, 24, 0, 0, 0, []), (24, .getfield 28, 27, 12, 0, 0, [8, 2]), (27, .iconst 1, 28, 0, 1, 0, []),
  (28, .iaload, 29, 0, 0, 0, []), (29, .iload_n 3, 30, 3, 0, 0, []), (30, .iadd, 31, 0, 0, 0, []), (31, .istore 5, 33, 5, 0, 0, []), (33, .iload_n 1, 34, 1, 0, 0, []), (34, .aload_n 0, 35, 0, 0, 0, []),
  (35, .getfield 130, 38, 12, 0, 0, [4, 0]), (38, .if_icmp .ge 41, 41, 79, 0, 0, []), (41, .iload 4, 43, 4, 0, 0, []), (43, .iload_n 1, 44, 1, 0, 0, []), (44, .invokestatic 167, 47, 180, 0, 0, [0, 2]), (47, .ifCond .eq 32, 50, 79, 0, 0, []),
  (50, .aload_n 0, 51, 0, 0, 0, []), (51, .getfield 22, 54, 12, 0, 0, [6, 2]), (54, .iload_n 1, 55, 1, 0, 0, []), (55, .iaload, 56, 0, 0, 0, []), (56, .iload 5, 58, 5, 0, 0, []), (58, .invokestatic 160, 61, 177, 0, 0, [0, 2]),
  (61, .ifCond .eq 18, 64, 79, 0, 0, []), (64, .aload_n 0, 65, 0, 0, 0, []), (65, .iload_n 1, 66, 1, 0, 0, []), (66, .iload 5, 68, 5, 0, 0, []), (68, .invokevirtual 156, 71, 0, 0, 0, [2, 12, 174]), (71, .iload_n 2, 72, 2, 0, 0, []),
  (72, .if_icmp .ne 7, 75, 79, 0, 0, []), (75, .iconst 1, 76, 0, 1, 0, []), (76, .goto 4, 79, 80, 0, 0, []), (79, .iconst 0, 80, 0, 0, 0, []), (80, .istore 6, 82, 6, 0, 0, []), (82, .iload 6, 84, 6, 0, 0, []),
  (84, .ifCond .eq 11, 87, 95, 0, 0, []), (87, .aload_n 0, 88, 0, 0, 0, []), (88, .iload_n 1, 89, 1, 0, 0, []), (89, .invokevirtual 184, 92, 0, 0, 0, [1, 12, 184]), (92, .goto 5, 95, 97, 0, 0, []), (95, .bipush (-9), 97, 0, (-9), 0, []),
  (97, .ireturn, 98, 0, 0, 0, [])])
-- 206 DoorSoldModel.takesHours(I)I
def mx_206 : Mx := (⟨"DoorSoldModel", "takesHours", "(I)I"⟩, prog_14_method_62_code, 2, (Option.some FieldType.int), [
  (0, .iload_n 1, 1, 1, 0, 0, []), (1, .bipush 6, 3, 0, 6, 0, []), (3, .if_icmp .ne 7, 6, 10, 0, 0, []), (6, .iconst 3, 7, 0, 3, 0, []), (7, .goto 18, 10, 25, 0, 0, []), (10, .iload_n 1, 11, 1, 0, 0, []),
  (11, .bipush 7, 13, 0, 7, 0, []), (13, .if_icmp .ne 7, 16, 20, 0, 0, []), (16, .iconst 1, 17, 0, 1, 0, []), (17, .goto 8, 20, 25, 0, 0, []), (20, .aload_n 0, 21, 0, 0, 0, []), (21, .iload_n 1, 22, 1, 0, 0, []),
  (22, .invokevirtual 164, 25, 0, 0, 0, [1, 12, 179]), (25, .ireturn, 26, 0, 0, 0, [])])
-- 207 DoorSoldModel.soonest(I)I
def mx_207 : Mx := (⟨"DoorSoldModel", "soonest", "(I)I"⟩, prog_14_method_66_code, 5, (Option.some FieldType.int), [
  (0, .aload_n 0, 1, 0, 0, 0, []), (1, .iload_n 1, 2, 1, 0, 0, []), (2, .invokevirtual 226, 5, 0, 0, 0, [1, 12, 208]), (5, .ifCond .ne 5, 8, 10, 0, 0, []), (8, .iconst (-1), 9, 0, (-1), 0, []), (9, .ireturn, 10, 0, 0, 0, []),
  (10, .aload_n 0, 11, 0, 0, 0, []), (11, .iload_n 1, 12, 1, 0, 0, []), (12, .aload_n 0, 13, 0, 0, 0, []), (13, .getfield 28, 16, 12, 0, 0, [8, 2]), (16, .iconst 3, 17, 0, 3, 0, []), (17, .iaload, 18, 0, 0, 0, []),
  (18, .invokevirtual 229, 21, 0, 0, 0, [2, 12, 209]), (21, .istore_n 2, 22, 2, 0, 0, []), (22, .iconst 0, 23, 0, 0, 0, []), (23, .istore_n 3, 24, 3, 0, 0, []), (24, .iconst 0, 25, 0, 0, 0, []), (25, .istore 4, 27, 4, 0, 0, []),
  (27, .iload 4, 29, 4, 0, 0, []), (29, .iload_n 2, 30, 2, 0, 0, []), (30, .if_icmp .gt 19, 33, 49, 0, 0, []), (33, .iload_n 3, 34, 3, 0, 0, []), (34, .aload_n 0, 35, 0, 0, 0, []), (35, .getfield 51, 38, 12, 0, 0, [24, 2]),
  (38, .iload 4, 40, 4, 0, 0, []), (40, .iaload, 41, 0, 0, 0, []), (41, .ior, 42, 0, 0, 0, []), (42, .istore_n 3, 43, 3, 0, 0, []), (43, .iinc 4 1, 46, 4, 1, 0, []), (46, .goto (-19), 49, 27, 0, 0, []),
  (49, .aload_n 0, 50, 0, 0, 0, []), (50, .iload_n 2, 51, 2, 0, 0, []), (51, .iload_n 3, 52, 3, 0, 0, []), (52, .invokestatic 232, 55, 210, 0, 0, [0, 1]), (55, .invokevirtual 235, 58, 0, 0, 0, [2, 12, 211]), (58, .ireturn, 59, 0, 0, 0, [])])
-- 208 DoorSoldModel.isPlace(I)Z
def mx_208 : Mx := (⟨"DoorSoldModel", "isPlace", "(I)Z"⟩, prog_14_method_29_code, 2, (Option.some FieldType.boolean), [
  (0, .iload_n 1, 1, 1, 0, 0, []), (1, .i2l, 2, 0, 0, 0, []), (2, .lconst 0, 3, 0, 0, 0, []), (3, .aload_n 0, 4, 0, 0, 0, []), (4, .getfield 133, 7, 12, 0, 0, [5, 0]), (7, .iconst 1, 8, 0, 1, 0, []),
  (8, .isub, 9, 0, 0, 0, []), (9, .i2l, 10, 0, 0, 0, []), (10, .invokestatic 72, 13, 150, 0, 0, [0, 3]), (13, .ireturn, 14, 1, 0, 0, [])])
-- 209 DoorSoldModel.soonestBy(II)I
def mx_209 : Mx := (⟨"DoorSoldModel", "soonestBy", "(II)I"⟩, prog_14_method_65_code, 4, (Option.some FieldType.int), [
  (0, .aload_n 0, 1, 0, 0, 0, []), (1, .iload_n 2, 2, 2, 0, 0, []), (2, .invokevirtual 223, 5, 0, 0, 0, [1, 12, 204]), (5, .iconst 0, 6, 0, 0, 0, []), (6, .istore_n 3, 7, 3, 0, 0, []), (7, .aload_n 0, 8, 0, 0, 0, []),
  (8, .getfield 51, 11, 12, 0, 0, [24, 2]), (11, .iload_n 3, 12, 3, 0, 0, []), (12, .iaload, 13, 0, 0, 0, []), (13, .iload_n 1, 14, 1, 0, 0, []), (14, .invokestatic 167, 17, 180, 0, 0, [0, 2]), (17, .ifCond .ne 9, 20, 26, 0, 0, []),
  (20, .iinc 3 1, 23, 3, 1, 0, []), (23, .goto (-16), 26, 7, 0, 0, []), (26, .iload_n 3, 27, 3, 0, 0, []), (27, .ireturn, 28, 0, 0, 0, [])])
-- 210 DoorSoldModel.bits(I)I
def mx_210 : Mx := (⟨"DoorSoldModel", "bits", "(I)I"⟩, prog_14_method_5_code, 3, (Option.some FieldType.int), [
  (0, .iconst 0, 1, 0, 0, 0, []), (1, .istore_n 1, 2, 1, 0, 0, []), (2, .iload_n 0, 3, 0, 0, 0, []), (3, .istore_n 2, 4, 2, 0, 0, []), (4, .iload_n 2, 5, 2, 0, 0, []), (5, .ifCond .eq 15, 8, 20, 0, 0, []),
  (8, .iinc 1 1, 11, 1, 1, 0, []), (11, .iload_n 2, 12, 2, 0, 0, []), (12, .iload_n 2, 13, 2, 0, 0, []), (13, .iconst 1, 14, 0, 1, 0, []), (14, .isub, 15, 0, 0, 0, []), (15, .iand, 16, 0, 0, 0, []),
  (16, .istore_n 2, 17, 2, 0, 0, []), (17, .goto (-13), 20, 4, 0, 0, []), (20, .iload_n 1, 21, 1, 0, 0, []), (21, .ireturn, 22, 0, 0, 0, [])])
-- 211 DoorSoldModel.answer(II)I
def mx_211 : Mx := (⟨"DoorSoldModel", "answer", "(II)I"⟩, prog_14_method_8_code, 3, (Option.some FieldType.int), [
  (0, .aload_n 0, 1, 0, 0, 0, []), (1, .iload_n 2, 2, 2, 0, 0, []), (2, .putfield 67, 5, 12, 0, 0, [13, 0]), (5, .iload_n 1, 6, 1, 0, 0, []), (6, .ireturn, 7, 0, 0, 0, [])])
-- 212 DoorSoldModel.way(II)I
def mx_212 : Mx := (⟨"DoorSoldModel", "way", "(II)I"⟩, prog_14_method_67_code, 9, (Option.some FieldType.int), [
  (0, .aload_n 0, 1, 0, 0, 0, []), (1, .iload_n 1, 2, 1, 0, 0, []), (2, .invokevirtual 226, 5, 0, 0, 0, [1, 12, 208]), (5, .ifCond .eq 10, 8, 15, 0, 0, []), (8, .iload_n 2, 9, 2, 0, 0, []), (9, .invokestatic 78, 12, 149, 0, 0, [0, 1]),
  (12, .ifCond .ne 5, 15, 17, 0, 0, []), (15, .iconst (-1), 16, 0, (-1), 0, []), (16, .ireturn, 17, 0, 0, 0, []), (17, .aload_n 0, 18, 0, 0, 0, []), (18, .iload_n 1, 19, 1, 0, 0, []), (19, .aload_n 0, 20, 0, 0, 0, []),
  (20, .getfield 28, 23, 12, 0, 0, [8, 2]), (23, .iconst 3, 24, 0, 3, 0, []), (24, .iaload, 25, 0, 0, 0, []), (25, .invokevirtual 229, 28, 0, 0, 0, [2, 12, 209]), (28, .istore_n 3, 29, 3, 0, 0, []), (29, .iload_n 3, 30, 3, 0, 0, []),
  (30, .istore 4, 32, 4, 0, 0, []), (32, .iload 4, 34, 4, 0, 0, []), (34, .ifCond .lt 153, 37, 187, 0, 0, []), (37, .aload_n 0, 38, 0, 0, 0, []), (38, .getfield 54, 41, 12, 0, 0, [25, 2]), (41, .iload 4, 43, 4, 0, 0, []),
  (43, .iload 4, 45, 4, 0, 0, []), (45, .iload_n 3, 46, 3, 0, 0, []), (46, .if_icmp .ne 9, 49, 55, 0, 0, []), (49, .iconst 1, 50, 0, 1, 0, []), (50, .iload_n 1, 51, 1, 0, 0, []), (51, .ishl, 52, 0, 0, 0, []),
  (52, .goto 4, 55, 56, 0, 0, []), (55, .iconst 0, 56, 0, 0, 0, []), (56, .iastore, 57, 0, 0, 0, []), (57, .iconst 0, 58, 0, 0, 0, []), (58, .istore 5, 60, 5, 0, 0, []), (60, .iload 5, 62, 5, 0, 0, []),
  (62, .aload_n 0, 63, 0, 0, 0, []), (63, .getfield 133, 66, 12, 0, 0, [5, 0]), (66, .if_icmp .ge 115, 69, 181, 0, 0, []), (69, .iconst 0, 70, 0, 0, 0, []), (70, .istore 6, 72, 6, 0, 0, []), (72, .iload 6, 74, 6, 0, 0, []),
  (74, .bipush 8, 76, 0, 8, 0, []), (76, .if_icmp .ge 99, 79, 175, 0, 0, []), (79, .aload_n 0, 80, 0, 0, 0, []), (80, .iload 6, 82, 6, 0, 0, []), (82, .iload 5, 84, 5, 0, 0, []), (84, .iload 4, 86, 4, 0, 0, []),
  (86, .aload_n 0, 87, 0, 0, 0, []), (87, .getfield 28, 90, 12, 0, 0, [8, 2]), (90, .iconst 3, 91, 0, 3, 0, []), (91, .iaload, 92, 0, 0, 0, []), (92, .invokevirtual 215, 95, 0, 0, 0, [4, 12, 205]), (95, .istore 7, 97, 7, 0, 0, []),
  (97, .iload 7, 99, 7, 0, 0, []), (99, .bipush (-9), 101, 0, (-9), 0, []), (101, .if_icmp .eq 42, 104, 143, 0, 0, []), (104, .iload 4, 106, 4, 0, 0, []), (106, .aload_n 0, 107, 0, 0, 0, []), (107, .iload 6, 109, 6, 0, 0, []),
  (109, .invokevirtual 218, 112, 0, 0, 0, [1, 12, 206]), (112, .iadd, 113, 0, 0, 0, []), (113, .iload_n 3, 114, 3, 0, 0, []), (114, .if_icmp .gt 29, 117, 143, 0, 0, []), (117, .aload_n 0, 118, 0, 0, 0, []), (118, .getfield 54, 121, 12, 0, 0, [25, 2]),
  (121, .iload 4, 123, 4, 0, 0, []), (123, .aload_n 0, 124, 0, 0, 0, []), (124, .iload 6, 126, 6, 0, 0, []), (126, .invokevirtual 218, 129, 0, 0, 0, [1, 12, 206]), (129, .iadd, 130, 0, 0, 0, []), (130, .iaload, 131, 0, 0, 0, []),
  (131, .iload 7, 133, 7, 0, 0, []), (133, .invokestatic 167, 136, 180, 0, 0, [0, 2]), (136, .ifCond .eq 7, 139, 143, 0, 0, []), (139, .iconst 1, 140, 0, 1, 0, []), (140, .goto 4, 143, 144, 0, 0, []), (143, .iconst 0, 144, 0, 0, 0, []),
  (144, .istore 8, 146, 8, 0, 0, []), (146, .aload_n 0, 147, 0, 0, 0, []), (147, .getfield 54, 150, 12, 0, 0, [25, 2]), (150, .iload 4, 152, 4, 0, 0, []), (152, .dup2, 153, 0, 0, 0, []), (153, .iaload, 154, 0, 0, 0, []),
  (154, .iload 8, 156, 8, 0, 0, []), (156, .ifCond .eq 10, 159, 166, 0, 0, []), (159, .iconst 1, 160, 0, 1, 0, []), (160, .iload 5, 162, 5, 0, 0, []), (162, .ishl, 163, 0, 0, 0, []), (163, .goto 4, 166, 167, 0, 0, []),
  (166, .iconst 0, 167, 0, 0, 0, []), (167, .ior, 168, 0, 0, 0, []), (168, .iastore, 169, 0, 0, 0, []), (169, .iinc 6 1, 172, 6, 1, 0, []), (172, .goto (-100), 175, 72, 0, 0, []), (175, .iinc 5 1, 178, 5, 1, 0, []),
  (178, .goto (-118), 181, 60, 0, 0, []), (181, .iinc 4 (-1), 184, 4, (-1), 0, []), (184, .goto (-152), 187, 32, 0, 0, []), (187, .iconst 0, 188, 0, 0, 0, []), (188, .istore 4, 190, 4, 0, 0, []), (190, .iconst 0, 191, 0, 0, 0, []),
  (191, .istore 5, 193, 5, 0, 0, []), (193, .aload_n 0, 194, 0, 0, 0, []), (194, .getfield 28, 197, 12, 0, 0, [8, 2]), (197, .iconst 0, 198, 0, 0, 0, []), (198, .iaload, 199, 0, 0, 0, []), (199, .istore 6, 201, 6, 0, 0, []),
  (201, .iload 5, 203, 5, 0, 0, []), (203, .iload_n 3, 204, 3, 0, 0, []), (204, .if_icmp .ge 124, 207, 328, 0, 0, []), (207, .iconst 0, 208, 0, 0, 0, []), (208, .istore 7, 210, 7, 0, 0, []), (210, .aload_n 0, 211, 0, 0, 0, []),
  (211, .iconst 0, 212, 0, 0, 0, []), (212, .iload 6, 214, 6, 0, 0, []), (214, .iload 5, 216, 5, 0, 0, []), (216, .aload_n 0, 217, 0, 0, 0, []), (217, .getfield 28, 220, 12, 0, 0, [8, 2]), (220, .iconst 3, 221, 0, 3, 0, []),
  (221, .iaload, 222, 0, 0, 0, []), (222, .invokevirtual 215, 225, 0, 0, 0, [4, 12, 205]), (225, .istore 8, 227, 8, 0, 0, []), (227, .iload 8, 229, 8, 0, 0, []), (229, .bipush (-9), 231, 0, (-9), 0, []), (231, .if_icmp .eq 38, 234, 269, 0, 0, []),
  (234, .iload 5, 236, 5, 0, 0, []), (236, .aload_n 0, 237, 0, 0, 0, []), (237, .iload 7, 239, 7, 0, 0, []), (239, .invokevirtual 218, 242, 0, 0, 0, [1, 12, 206]), (242, .iadd, 243, 0, 0, 0, []), (243, .iload_n 3, 244, 3, 0, 0, []),
  (244, .if_icmp .gt 25, 247, 269, 0, 0, []), (247, .aload_n 0, 248, 0, 0, 0, []), (248, .getfield 54, 251, 12, 0, 0, [25, 2]), (251, .iload 5, 253, 5, 0, 0, []), (253, .aload_n 0, 254, 0, 0, 0, []), (254, .iload 7, 256, 7, 0, 0, []),
  (256, .invokevirtual 218, 259, 0, 0, 0, [1, 12, 206]), (259, .iadd, 260, 0, 0, 0, []), (260, .iaload, 261, 0, 0, 0, []), (261, .iload 8, 263, 8, 0, 0, []), (263, .invokestatic 167, 266, 180, 0, 0, [0, 2]), (266, .ifCond .ne 27, 269, 293, 0, 0, []),
  (269, .iinc 7 1, 272, 7, 1, 0, []), (272, .aload_n 0, 273, 0, 0, 0, []), (273, .iload 7, 275, 7, 0, 0, []), (275, .iload 6, 277, 6, 0, 0, []), (277, .iload 5, 279, 5, 0, 0, []), (279, .aload_n 0, 280, 0, 0, 0, []),
  (280, .getfield 28, 283, 12, 0, 0, [8, 2]), (283, .iconst 3, 284, 0, 3, 0, []), (284, .iaload, 285, 0, 0, 0, []), (285, .invokevirtual 215, 288, 0, 0, 0, [4, 12, 205]), (288, .istore 8, 290, 8, 0, 0, []), (290, .goto (-63), 293, 227, 0, 0, []),
  (293, .aload_n 0, 294, 0, 0, 0, []), (294, .getfield 13, 297, 12, 0, 0, [1, 2]), (297, .bipush 40, 299, 0, 40, 0, []), (299, .iload_n 2, 300, 2, 0, 0, []), (300, .imul, 301, 0, 0, 0, []), (301, .iload 4, 303, 4, 0, 0, []),
  (303, .iadd, 304, 0, 0, 0, []), (304, .iload 7, 306, 7, 0, 0, []), (306, .iastore, 307, 0, 0, 0, []), (307, .iinc 4 1, 310, 4, 1, 0, []), (310, .iload 5, 312, 5, 0, 0, []), (312, .aload_n 0, 313, 0, 0, 0, []),
  (313, .iload 7, 315, 7, 0, 0, []), (315, .invokevirtual 218, 318, 0, 0, 0, [1, 12, 206]), (318, .iadd, 319, 0, 0, 0, []), (319, .istore 5, 321, 5, 0, 0, []), (321, .iload 8, 323, 8, 0, 0, []), (323, .istore 6, 325, 6, 0, 0, []),
  (325, .goto (-124), 328, 201, 0, 0, []), (328, .aload_n 0, 329, 0, 0, 0, []), (329, .getfield 7, 332, 12, 0, 0, [0, 2]), (332, .iload_n 2, 333, 2, 0, 0, []), (333, .iload 4, 335, 4, 0, 0, []), (335, .iastore, 336, 0, 0, 0, []),
  (336, .iload 4, 338, 4, 0, 0, []), (338, .ireturn, 339, 0, 0, 0, [])])
-- 213 DoorSoldModel.cheapest(II)I
def mx_213 : Mx := (⟨"DoorSoldModel", "cheapest", "(II)I"⟩, prog_14_method_69_code, 6, (Option.some FieldType.int), [
  (0, .aload_n 0, 1, 0, 0, 0, []), (1, .iload_n 1, 2, 1, 0, 0, []), (2, .invokevirtual 226, 5, 0, 0, 0, [1, 12, 208]), (5, .ifCond .eq 15, 8, 20, 0, 0, []), (8, .iload_n 2, 9, 2, 0, 0, []), (9, .i2l, 10, 0, 0, 0, []),
  (10, .lconst 0, 11, 0, 0, 0, []), (11, .ldc2_w 221, 14, 0, 0, 30, []), (14, .invokestatic 72, 17, 150, 0, 0, [0, 3]), (17, .ifCond .ne 5, 20, 22, 0, 0, []), (20, .iconst (-1), 21, 0, (-1), 0, []), (21, .ireturn, 22, 0, 0, 0, []),
  (22, .bipush (-9), 24, 0, (-9), 0, []), (24, .istore_n 3, 25, 3, 0, 0, []), (25, .iconst 0, 26, 0, 0, 0, []), (26, .istore 4, 28, 4, 0, 0, []), (28, .iload 4, 30, 4, 0, 0, []), (30, .iconst 1, 31, 0, 1, 0, []),
  (31, .aload_n 0, 32, 0, 0, 0, []), (32, .getfield 130, 35, 12, 0, 0, [4, 0]), (35, .ishl, 36, 0, 0, 0, []), (36, .if_icmp .ge 78, 39, 114, 0, 0, []), (39, .iload 4, 41, 4, 0, 0, []), (41, .aload_n 0, 42, 0, 0, 0, []),
  (42, .getfield 28, 45, 12, 0, 0, [8, 2]), (45, .iconst 3, 46, 0, 3, 0, []), (46, .iaload, 47, 0, 0, 0, []), (47, .iand, 48, 0, 0, 0, []), (48, .ifCond .ne 27, 51, 75, 0, 0, []), (51, .iload_n 3, 52, 3, 0, 0, []),
  (52, .bipush (-9), 54, 0, (-9), 0, []), (54, .if_icmp .eq 17, 57, 71, 0, 0, []), (57, .aload_n 0, 58, 0, 0, 0, []), (58, .iload 4, 60, 4, 0, 0, []), (60, .invokevirtual 238, 63, 0, 0, 0, [1, 12, 214]), (63, .aload_n 0, 64, 0, 0, 0, []),
  (64, .iload_n 3, 65, 3, 0, 0, []), (65, .invokevirtual 238, 68, 0, 0, 0, [1, 12, 214]), (68, .if_icmp .ge 7, 71, 75, 0, 0, []), (71, .iconst 1, 72, 0, 1, 0, []), (72, .goto 4, 75, 76, 0, 0, []), (75, .iconst 0, 76, 0, 0, 0, []),
  (76, .istore 5, 78, 5, 0, 0, []), (78, .iload 5, 80, 5, 0, 0, []), (80, .ifCond .eq 26, 83, 106, 0, 0, []), (83, .aload_n 0, 84, 0, 0, 0, []), (84, .iload_n 1, 85, 1, 0, 0, []), (85, .aload_n 0, 86, 0, 0, 0, []),
  (86, .getfield 28, 89, 12, 0, 0, [8, 2]), (89, .iconst 3, 90, 0, 3, 0, []), (90, .iaload, 91, 0, 0, 0, []), (91, .iload 4, 93, 4, 0, 0, []), (93, .ior, 94, 0, 0, 0, []), (94, .invokevirtual 229, 97, 0, 0, 0, [2, 12, 209]),
  (97, .iload_n 2, 98, 2, 0, 0, []), (98, .if_icmp .gt 8, 101, 106, 0, 0, []), (101, .iload 4, 103, 4, 0, 0, []), (103, .goto 4, 106, 107, 0, 0, []), (106, .iload_n 3, 107, 3, 0, 0, []), (107, .istore_n 3, 108, 3, 0, 0, []),
  (108, .iinc 4 1, 111, 4, 1, 0, []), (111, .goto (-83), 114, 28, 0, 0, []), (114, .iload_n 3, 115, 3, 0, 0, []), (115, .bipush (-9), 117, 0, (-9), 0, []), (117, .if_icmp .ne 8, 120, 125, 0, 0, []), (120, .bipush (-9), 122, 0, (-9), 0, []),
  (122, .goto 13, 125, 135, 0, 0, []), (125, .aload_n 0, 126, 0, 0, 0, []), (126, .aload_n 0, 127, 0, 0, 0, []), (127, .iload_n 3, 128, 3, 0, 0, []), (128, .invokevirtual 238, 131, 0, 0, 0, [1, 12, 214]), (131, .iload_n 3, 132, 3, 0, 0, []),
  (132, .invokevirtual 235, 135, 0, 0, 0, [2, 12, 211]), (135, .ireturn, 136, 0, 0, 0, [])])
-- 214 DoorSoldModel.costs(I)I
def mx_214 : Mx := (⟨"DoorSoldModel", "costs", "(I)I"⟩, prog_14_method_68_code, 4, (Option.some FieldType.int), [
  (0, .iconst 0, 1, 0, 0, 0, []), (1, .istore_n 2, 2, 2, 0, 0, []), (2, .iconst 0, 3, 0, 0, 0, []), (3, .istore_n 3, 4, 3, 0, 0, []), (4, .iload_n 3, 5, 3, 0, 0, []), (5, .aload_n 0, 6, 0, 0, 0, []),
  (6, .getfield 130, 9, 12, 0, 0, [4, 0]), (9, .if_icmp .ge 29, 12, 38, 0, 0, []), (12, .iload_n 2, 13, 2, 0, 0, []), (13, .iload_n 1, 14, 1, 0, 0, []), (14, .iload_n 3, 15, 3, 0, 0, []), (15, .invokestatic 167, 18, 180, 0, 0, [0, 2]),
  (18, .ifCond .eq 11, 21, 29, 0, 0, []), (21, .aload_n 0, 22, 0, 0, 0, []), (22, .iload_n 3, 23, 3, 0, 0, []), (23, .invokevirtual 153, 26, 0, 0, 0, [1, 12, 173]), (26, .goto 4, 29, 30, 0, 0, []), (29, .iconst 0, 30, 0, 0, 0, []),
  (30, .iadd, 31, 0, 0, 0, []), (31, .istore_n 2, 32, 2, 0, 0, []), (32, .iinc 3 1, 35, 3, 1, 0, []), (35, .goto (-31), 38, 4, 0, 0, []), (38, .iload_n 2, 39, 2, 0, 0, []), (39, .ireturn, 40, 0, 0, 0, [])])
-- 215 DoorSoldModel.shut(II)I
def mx_215 : Mx := (⟨"DoorSoldModel", "shut", "(II)I"⟩, prog_14_method_70_code, 6, (Option.some FieldType.int), [
  (0, .aload_n 0, 1, 0, 0, 0, []), (1, .iload_n 1, 2, 1, 0, 0, []), (2, .invokevirtual 226, 5, 0, 0, 0, [1, 12, 208]), (5, .ifCond .eq 15, 8, 20, 0, 0, []), (8, .iload_n 2, 9, 2, 0, 0, []), (9, .i2l, 10, 0, 0, 0, []),
  (10, .lconst 0, 11, 0, 0, 0, []), (11, .ldc2_w 221, 14, 0, 0, 30, []), (14, .invokestatic 72, 17, 150, 0, 0, [0, 3]), (17, .ifCond .ne 5, 20, 22, 0, 0, []), (20, .iconst (-1), 21, 0, (-1), 0, []), (21, .ireturn, 22, 0, 0, 0, []),
  (22, .bipush (-9), 24, 0, (-9), 0, []), (24, .istore_n 3, 25, 3, 0, 0, []), (25, .iconst 0, 26, 0, 0, 0, []), (26, .istore 4, 28, 4, 0, 0, []), (28, .iload 4, 30, 4, 0, 0, []), (30, .iconst 1, 31, 0, 1, 0, []),
  (31, .aload_n 0, 32, 0, 0, 0, []), (32, .getfield 130, 35, 12, 0, 0, [4, 0]), (35, .ishl, 36, 0, 0, 0, []), (36, .if_icmp .ge 80, 39, 116, 0, 0, []), (39, .iload 4, 41, 4, 0, 0, []), (41, .aload_n 0, 42, 0, 0, 0, []),
  (42, .getfield 28, 45, 12, 0, 0, [8, 2]), (45, .iconst 3, 46, 0, 3, 0, []), (46, .iaload, 47, 0, 0, 0, []), (47, .iconst (-1), 48, 0, (-1), 0, []), (48, .ixor, 49, 0, 0, 0, []), (49, .iand, 50, 0, 0, 0, []),
  (50, .ifCond .ne 25, 53, 75, 0, 0, []), (53, .iload_n 3, 54, 3, 0, 0, []), (54, .bipush (-9), 56, 0, (-9), 0, []), (56, .if_icmp .eq 15, 59, 71, 0, 0, []), (59, .iload 4, 61, 4, 0, 0, []), (61, .invokestatic 232, 64, 210, 0, 0, [0, 1]),
  (64, .iload_n 3, 65, 3, 0, 0, []), (65, .invokestatic 232, 68, 210, 0, 0, [0, 1]), (68, .if_icmp .ge 7, 71, 75, 0, 0, []), (71, .iconst 1, 72, 0, 1, 0, []), (72, .goto 4, 75, 76, 0, 0, []), (75, .iconst 0, 76, 0, 0, 0, []),
  (76, .istore 5, 78, 5, 0, 0, []), (78, .iload 5, 80, 5, 0, 0, []), (80, .ifCond .eq 28, 83, 108, 0, 0, []), (83, .aload_n 0, 84, 0, 0, 0, []), (84, .iload_n 1, 85, 1, 0, 0, []), (85, .aload_n 0, 86, 0, 0, 0, []),
  (86, .getfield 28, 89, 12, 0, 0, [8, 2]), (89, .iconst 3, 90, 0, 3, 0, []), (90, .iaload, 91, 0, 0, 0, []), (91, .iload 4, 93, 4, 0, 0, []), (93, .iconst (-1), 94, 0, (-1), 0, []), (94, .ixor, 95, 0, 0, 0, []),
  (95, .iand, 96, 0, 0, 0, []), (96, .invokevirtual 229, 99, 0, 0, 0, [2, 12, 209]), (99, .iload_n 2, 100, 2, 0, 0, []), (100, .if_icmp .le 8, 103, 108, 0, 0, []), (103, .iload 4, 105, 4, 0, 0, []), (105, .goto 4, 108, 109, 0, 0, []),
  (108, .iload_n 3, 109, 3, 0, 0, []), (109, .istore_n 3, 110, 3, 0, 0, []), (110, .iinc 4 1, 113, 4, 1, 0, []), (113, .goto (-85), 116, 28, 0, 0, []), (116, .iload_n 3, 117, 3, 0, 0, []), (117, .bipush (-9), 119, 0, (-9), 0, []),
  (119, .if_icmp .ne 8, 122, 127, 0, 0, []), (122, .bipush (-9), 124, 0, (-9), 0, []), (124, .goto 12, 127, 136, 0, 0, []), (127, .aload_n 0, 128, 0, 0, 0, []), (128, .iload_n 3, 129, 3, 0, 0, []), (129, .invokestatic 232, 132, 210, 0, 0, [0, 1]),
  (132, .iload_n 3, 133, 3, 0, 0, []), (133, .invokevirtual 235, 136, 0, 0, 0, [2, 12, 211]), (136, .ireturn, 137, 0, 0, 0, [])])
-- 216 DoorSoldModel.worth(II)I
def mx_216 : Mx := (⟨"DoorSoldModel", "worth", "(II)I"⟩, prog_14_method_71_code, 3, (Option.some FieldType.int), [
  (0, .aload_n 0, 1, 0, 0, 0, []), (1, .iload_n 1, 2, 1, 0, 0, []), (2, .invokevirtual 170, 5, 0, 0, 0, [1, 12, 171]), (5, .ifCond .eq 11, 8, 16, 0, 0, []), (8, .aload_n 0, 9, 0, 0, 0, []), (9, .iload_n 2, 10, 2, 0, 0, []),
  (10, .invokevirtual 226, 13, 0, 0, 0, [1, 12, 208]), (13, .ifCond .ne 5, 16, 18, 0, 0, []), (16, .iconst (-1), 17, 0, (-1), 0, []), (17, .ireturn, 18, 0, 0, 0, []), (18, .aload_n 0, 19, 0, 0, 0, []), (19, .iload_n 2, 20, 2, 0, 0, []),
  (20, .aload_n 0, 21, 0, 0, 0, []), (21, .getfield 28, 24, 12, 0, 0, [8, 2]), (24, .iconst 3, 25, 0, 3, 0, []), (25, .iaload, 26, 0, 0, 0, []), (26, .iconst 1, 27, 0, 1, 0, []), (27, .iload_n 1, 28, 1, 0, 0, []),
  (28, .ishl, 29, 0, 0, 0, []), (29, .iconst (-1), 30, 0, (-1), 0, []), (30, .ixor, 31, 0, 0, 0, []), (31, .iand, 32, 0, 0, 0, []), (32, .invokevirtual 229, 35, 0, 0, 0, [2, 12, 209]), (35, .aload_n 0, 36, 0, 0, 0, []),
  (36, .iload_n 2, 37, 2, 0, 0, []), (37, .aload_n 0, 38, 0, 0, 0, []), (38, .getfield 28, 41, 12, 0, 0, [8, 2]), (41, .iconst 3, 42, 0, 3, 0, []), (42, .iaload, 43, 0, 0, 0, []), (43, .iconst 1, 44, 0, 1, 0, []),
  (44, .iload_n 1, 45, 1, 0, 0, []), (45, .ishl, 46, 0, 0, 0, []), (46, .ior, 47, 0, 0, 0, []), (47, .invokevirtual 229, 50, 0, 0, 0, [2, 12, 209]), (50, .isub, 51, 0, 0, 0, []), (51, .ireturn, 52, 0, 0, 0, [])])
-- 217 DoorSoldModel.fits(II)I
def mx_217 : Mx := (⟨"DoorSoldModel", "fits", "(II)I"⟩, prog_14_method_74_code, 7, (Option.some FieldType.int), [
  (0, .aload_n 0, 1, 0, 0, 0, []), (1, .iload_n 1, 2, 1, 0, 0, []), (2, .invokevirtual 170, 5, 0, 0, 0, [1, 12, 171]), (5, .ifCond .eq 10, 8, 15, 0, 0, []), (8, .iload_n 2, 9, 2, 0, 0, []), (9, .invokestatic 78, 12, 149, 0, 0, [0, 1]),
  (12, .ifCond .ne 5, 15, 17, 0, 0, []), (15, .iconst (-1), 16, 0, (-1), 0, []), (16, .ireturn, 17, 0, 0, 0, []), (17, .aload_n 0, 18, 0, 0, 0, []), (18, .iload_n 2, 19, 2, 0, 0, []), (19, .invokevirtual 243, 22, 0, 0, 0, [1, 12, 218]),
  (22, .istore_n 3, 23, 3, 0, 0, []), (23, .iload_n 3, 24, 3, 0, 0, []), (24, .ifCond .eq 9, 27, 33, 0, 0, []), (27, .aload_n 0, 28, 0, 0, 0, []), (28, .iload_n 3, 29, 3, 0, 0, []), (29, .invokevirtual 82, 32, 0, 0, 0, [1, 12, 151]),
  (32, .ireturn, 33, 0, 0, 0, []), (33, .iconst 0, 34, 0, 0, 0, []), (34, .istore 4, 36, 4, 0, 0, []), (36, .iconst 0, 37, 0, 0, 0, []), (37, .istore 5, 39, 5, 0, 0, []), (39, .iconst 0, 40, 0, 0, 0, []),
  (40, .istore 6, 42, 6, 0, 0, []), (42, .iload 6, 44, 6, 0, 0, []), (44, .aload_n 0, 45, 0, 0, 0, []), (45, .getfield 133, 48, 12, 0, 0, [5, 0]), (48, .if_icmp .ge 84, 51, 132, 0, 0, []), (51, .iload 4, 53, 4, 0, 0, []),
  (53, .aload_n 0, 54, 0, 0, 0, []), (54, .iload_n 2, 55, 2, 0, 0, []), (55, .aload_n 0, 56, 0, 0, 0, []), (56, .getfield 22, 59, 12, 0, 0, [6, 2]), (59, .iload_n 1, 60, 1, 0, 0, []), (60, .iaload, 61, 0, 0, 0, []),
  (61, .iload 6, 63, 6, 0, 0, []), (63, .aload_n 0, 64, 0, 0, 0, []), (64, .getfield 28, 67, 12, 0, 0, [8, 2]), (67, .bipush 10, 69, 0, 10, 0, []), (69, .iload_n 1, 70, 1, 0, 0, []), (70, .iadd, 71, 0, 0, 0, []),
  (71, .iaload, 72, 0, 0, 0, []), (72, .invokevirtual 246, 75, 0, 0, 0, [4, 12, 219]), (75, .ifCond .eq 10, 78, 85, 0, 0, []), (78, .iconst 1, 79, 0, 1, 0, []), (79, .iload 6, 81, 6, 0, 0, []), (81, .ishl, 82, 0, 0, 0, []),
  (82, .goto 4, 85, 86, 0, 0, []), (85, .iconst 0, 86, 0, 0, 0, []), (86, .ior, 87, 0, 0, 0, []), (87, .istore 4, 89, 4, 0, 0, []), (89, .iload 5, 91, 5, 0, 0, []), (91, .aload_n 0, 92, 0, 0, 0, []),
  (92, .iload_n 2, 93, 2, 0, 0, []), (93, .aload_n 0, 94, 0, 0, 0, []), (94, .getfield 22, 97, 12, 0, 0, [6, 2]), (97, .iload_n 1, 98, 1, 0, 0, []), (98, .iaload, 99, 0, 0, 0, []), (99, .aload_n 0, 100, 0, 0, 0, []),
  (100, .getfield 28, 103, 12, 0, 0, [8, 2]), (103, .iconst 4, 104, 0, 4, 0, []), (104, .iload_n 1, 105, 1, 0, 0, []), (105, .iadd, 106, 0, 0, 0, []), (106, .iaload, 107, 0, 0, 0, []), (107, .iload 6, 109, 6, 0, 0, []),
  (109, .invokevirtual 246, 112, 0, 0, 0, [4, 12, 219]), (112, .ifCond .eq 10, 115, 122, 0, 0, []), (115, .iconst 1, 116, 0, 1, 0, []), (116, .iload 6, 118, 6, 0, 0, []), (118, .ishl, 119, 0, 0, 0, []), (119, .goto 4, 122, 123, 0, 0, []),
  (122, .iconst 0, 123, 0, 0, 0, []), (123, .ior, 124, 0, 0, 0, []), (124, .istore 5, 126, 5, 0, 0, []), (126, .iinc 6 1, 129, 6, 1, 0, []), (129, .goto (-87), 132, 42, 0, 0, []), (132, .aload_n 0, 133, 0, 0, 0, []),
  (133, .iload 4, 135, 4, 0, 0, []), (135, .iload 5, 137, 5, 0, 0, []), (137, .invokevirtual 235, 140, 0, 0, 0, [2, 12, 211]), (140, .ireturn, 141, 0, 0, 0, [])])
-- 218 DoorSoldModel.wrongTriples(I)I
def mx_218 : Mx := (⟨"DoorSoldModel", "wrongTriples", "(I)I"⟩, prog_14_method_72_code, 5, (Option.some FieldType.int), [
  (0, .aload_n 0, 1, 0, 0, 0, []), (1, .getfield 7, 4, 12, 0, 0, [0, 2]), (4, .iload_n 1, 5, 1, 0, 0, []), (5, .iaload, 6, 0, 0, 0, []), (6, .ifCond .ge 5, 9, 11, 0, 0, []), (9, .iconst 1, 10, 0, 1, 0, []),
  (10, .ireturn, 11, 0, 0, 0, []), (11, .aload_n 0, 12, 0, 0, 0, []), (12, .getfield 7, 15, 12, 0, 0, [0, 2]), (15, .iload_n 1, 16, 1, 0, 0, []), (16, .iaload, 17, 0, 0, 0, []), (17, .iconst 3, 18, 0, 3, 0, []),
  (18, .irem, 19, 0, 0, 0, []), (19, .ifCond .eq 5, 22, 24, 0, 0, []), (22, .iconst 5, 23, 0, 5, 0, []), (23, .ireturn, 24, 0, 0, 0, []), (24, .iconst 1, 25, 0, 1, 0, []), (25, .istore_n 2, 26, 2, 0, 0, []),
  (26, .iconst 0, 27, 0, 0, 0, []), (27, .istore_n 3, 28, 3, 0, 0, []), (28, .iload_n 3, 29, 3, 0, 0, []), (29, .aload_n 0, 30, 0, 0, 0, []), (30, .getfield 7, 33, 12, 0, 0, [0, 2]), (33, .iload_n 1, 34, 1, 0, 0, []),
  (34, .iaload, 35, 0, 0, 0, []), (35, .if_icmp .ge 77, 38, 112, 0, 0, []), (38, .bipush 40, 40, 0, 40, 0, []), (40, .iload_n 1, 41, 1, 0, 0, []), (41, .imul, 42, 0, 0, 0, []), (42, .iload_n 3, 43, 3, 0, 0, []),
  (43, .iadd, 44, 0, 0, 0, []), (44, .istore 4, 46, 4, 0, 0, []), (46, .iload_n 2, 47, 2, 0, 0, []), (47, .ifCond .eq 57, 50, 104, 0, 0, []), (50, .aload_n 0, 51, 0, 0, 0, []), (51, .getfield 13, 54, 12, 0, 0, [1, 2]),
  (54, .iload 4, 56, 4, 0, 0, []), (56, .iaload, 57, 0, 0, 0, []), (57, .i2l, 58, 0, 0, 0, []), (58, .lconst 0, 59, 0, 0, 0, []), (59, .ldc2_w 241, 62, 0, 0, 99, []), (62, .invokestatic 72, 65, 150, 0, 0, [0, 3]),
  (65, .ifCond .eq 39, 68, 104, 0, 0, []), (68, .aload_n 0, 69, 0, 0, 0, []), (69, .aload_n 0, 70, 0, 0, 0, []), (70, .getfield 13, 73, 12, 0, 0, [1, 2]), (73, .iload 4, 75, 4, 0, 0, []), (75, .iconst 1, 76, 0, 1, 0, []),
  (76, .iadd, 77, 0, 0, 0, []), (77, .iaload, 78, 0, 0, 0, []), (78, .invokevirtual 226, 81, 0, 0, 0, [1, 12, 208]), (81, .ifCond .eq 23, 84, 104, 0, 0, []), (84, .aload_n 0, 85, 0, 0, 0, []), (85, .aload_n 0, 86, 0, 0, 0, []),
  (86, .getfield 13, 89, 12, 0, 0, [1, 2]), (89, .iload 4, 91, 4, 0, 0, []), (91, .iconst 2, 92, 0, 2, 0, []), (92, .iadd, 93, 0, 0, 0, []), (93, .iaload, 94, 0, 0, 0, []), (94, .invokevirtual 226, 97, 0, 0, 0, [1, 12, 208]),
  (97, .ifCond .eq 7, 100, 104, 0, 0, []), (100, .iconst 1, 101, 0, 1, 0, []), (101, .goto 4, 104, 105, 0, 0, []), (104, .iconst 0, 105, 0, 0, 0, []), (105, .istore_n 2, 106, 2, 0, 0, []), (106, .iinc 3 3, 109, 3, 3, 0, []),
  (109, .goto (-81), 112, 28, 0, 0, []), (112, .iload_n 2, 113, 2, 0, 0, []), (113, .ifCond .eq 7, 116, 120, 0, 0, []), (116, .iconst 0, 117, 0, 0, 0, []), (117, .goto 4, 120, 121, 0, 0, []), (120, .iconst 3, 121, 0, 3, 0, []),
  (121, .ireturn, 122, 0, 0, 0, [])])
-- 219 DoorSoldModel.isSo(IIII)Z
def mx_219 : Mx := (⟨"DoorSoldModel", "isSo", "(IIII)Z"⟩, prog_14_method_73_code, 8, (Option.some FieldType.boolean), [
  (0, .iconst 1, 1, 0, 1, 0, []), (1, .istore 5, 3, 5, 0, 0, []), (3, .iconst 0, 4, 0, 0, 0, []), (4, .istore 6, 6, 6, 0, 0, []), (6, .iload 6, 8, 6, 0, 0, []), (8, .aload_n 0, 9, 0, 0, 0, []),
  (9, .getfield 7, 12, 12, 0, 0, [0, 2]), (12, .iload_n 1, 13, 1, 0, 0, []), (13, .iaload, 14, 0, 0, 0, []), (14, .if_icmp .ge 90, 17, 104, 0, 0, []), (17, .bipush 40, 19, 0, 40, 0, []), (19, .iload_n 1, 20, 1, 0, 0, []),
  (20, .imul, 21, 0, 0, 0, []), (21, .iload 6, 23, 6, 0, 0, []), (23, .iadd, 24, 0, 0, 0, []), (24, .istore 7, 26, 7, 0, 0, []), (26, .iload 5, 28, 5, 0, 0, []), (28, .ifCond .eq 67, 31, 95, 0, 0, []),
  (31, .iload_n 2, 32, 2, 0, 0, []), (32, .aload_n 0, 33, 0, 0, 0, []), (33, .getfield 13, 36, 12, 0, 0, [1, 2]), (36, .iload 7, 38, 7, 0, 0, []), (38, .iaload, 39, 0, 0, 0, []), (39, .invokestatic 160, 42, 177, 0, 0, [0, 2]),
  (42, .ifCond .eq 53, 45, 95, 0, 0, []), (45, .aload_n 0, 46, 0, 0, 0, []), (46, .iload_n 2, 47, 2, 0, 0, []), (47, .iload_n 3, 48, 3, 0, 0, []), (48, .iload 4, 50, 4, 0, 0, []), (50, .aload_n 0, 51, 0, 0, 0, []),
  (51, .getfield 13, 54, 12, 0, 0, [1, 2]), (54, .iload 7, 56, 7, 0, 0, []), (56, .iaload, 57, 0, 0, 0, []), (57, .invokevirtual 145, 60, 0, 0, 0, [4, 12, 175]), (60, .aload_n 0, 61, 0, 0, 0, []), (61, .getfield 13, 64, 12, 0, 0, [1, 2]),
  (64, .iload 7, 66, 7, 0, 0, []), (66, .iconst 1, 67, 0, 1, 0, []), (67, .iadd, 68, 0, 0, 0, []), (68, .iaload, 69, 0, 0, 0, []), (69, .if_icmp .ne 26, 72, 95, 0, 0, []), (72, .iload_n 2, 73, 2, 0, 0, []),
  (73, .iload_n 3, 74, 3, 0, 0, []), (74, .iload 4, 76, 4, 0, 0, []), (76, .invokestatic 149, 79, 185, 0, 0, [0, 3]), (79, .aload_n 0, 80, 0, 0, 0, []), (80, .getfield 13, 83, 12, 0, 0, [1, 2]), (83, .iload 7, 85, 7, 0, 0, []),
  (85, .iconst 2, 86, 0, 2, 0, []), (86, .iadd, 87, 0, 0, 0, []), (87, .iaload, 88, 0, 0, 0, []), (88, .if_icmp .ne 7, 91, 95, 0, 0, []), (91, .iconst 1, 92, 0, 1, 0, []), (92, .goto 4, 95, 96, 0, 0, []),
  (95, .iconst 0, 96, 0, 0, 0, []), (96, .istore 5, 98, 5, 0, 0, []), (98, .iinc 6 3, 101, 6, 3, 0, []), (101, .goto (-95), 104, 6, 0, 0, []), (104, .iload 5, 106, 5, 0, 0, []), (106, .ireturn, 107, 1, 0, 0, [])])
-- 220 DoorSoldModel.kinds(II)I
def mx_220 : Mx := (⟨"DoorSoldModel", "kinds", "(II)I"⟩, prog_14_method_75_code, 6, (Option.some FieldType.int), [
  (0, .aload_n 0, 1, 0, 0, 0, []), (1, .iload_n 1, 2, 1, 0, 0, []), (2, .invokevirtual 170, 5, 0, 0, 0, [1, 12, 171]), (5, .ifCond .eq 10, 8, 15, 0, 0, []), (8, .iload_n 2, 9, 2, 0, 0, []), (9, .invokestatic 78, 12, 149, 0, 0, [0, 1]),
  (12, .ifCond .ne 5, 15, 17, 0, 0, []), (15, .iconst (-1), 16, 0, (-1), 0, []), (16, .ireturn, 17, 0, 0, 0, []), (17, .aload_n 0, 18, 0, 0, 0, []), (18, .iload_n 2, 19, 2, 0, 0, []), (19, .invokevirtual 243, 22, 0, 0, 0, [1, 12, 218]),
  (22, .istore_n 3, 23, 3, 0, 0, []), (23, .iload_n 3, 24, 3, 0, 0, []), (24, .ifCond .eq 9, 27, 33, 0, 0, []), (27, .aload_n 0, 28, 0, 0, 0, []), (28, .iload_n 3, 29, 3, 0, 0, []), (29, .invokevirtual 82, 32, 0, 0, 0, [1, 12, 151]),
  (32, .ireturn, 33, 0, 0, 0, []), (33, .iconst 0, 34, 0, 0, 0, []), (34, .istore 4, 36, 4, 0, 0, []), (36, .iconst 0, 37, 0, 0, 0, []), (37, .istore 5, 39, 5, 0, 0, []), (39, .iload 5, 41, 5, 0, 0, []),
  (41, .bipush 6, 43, 0, 6, 0, []), (43, .if_icmp .ge 49, 46, 92, 0, 0, []), (46, .iload 4, 48, 4, 0, 0, []), (48, .aload_n 0, 49, 0, 0, 0, []), (49, .iload_n 2, 50, 2, 0, 0, []), (50, .iload 5, 52, 5, 0, 0, []),
  (52, .aload_n 0, 53, 0, 0, 0, []), (53, .getfield 28, 56, 12, 0, 0, [8, 2]), (56, .iconst 4, 57, 0, 4, 0, []), (57, .iload_n 1, 58, 1, 0, 0, []), (58, .iadd, 59, 0, 0, 0, []), (59, .iaload, 60, 0, 0, 0, []),
  (60, .aload_n 0, 61, 0, 0, 0, []), (61, .getfield 28, 64, 12, 0, 0, [8, 2]), (64, .bipush 10, 66, 0, 10, 0, []), (66, .iload_n 1, 67, 1, 0, 0, []), (67, .iadd, 68, 0, 0, 0, []), (68, .iaload, 69, 0, 0, 0, []),
  (69, .invokevirtual 246, 72, 0, 0, 0, [4, 12, 219]), (72, .ifCond .eq 10, 75, 82, 0, 0, []), (75, .iconst 1, 76, 0, 1, 0, []), (76, .iload 5, 78, 5, 0, 0, []), (78, .ishl, 79, 0, 0, 0, []), (79, .goto 4, 82, 83, 0, 0, []),
  (82, .iconst 0, 83, 0, 0, 0, []), (83, .ior, 84, 0, 0, 0, []), (84, .istore 4, 86, 4, 0, 0, []), (86, .iinc 5 1, 89, 5, 1, 0, []), (89, .goto (-50), 92, 39, 0, 0, []), (92, .iload 4, 94, 4, 0, 0, []),
  (94, .ireturn, 95, 0, 0, 0, [])])
-- 221 DoorSoldModel.round(I)I
def mx_221 : Mx := (⟨"DoorSoldModel", "round", "(I)I"⟩, prog_14_method_77_code, 7, (Option.some FieldType.int), [
  (0, .aload_n 0, 1, 0, 0, 0, []), (1, .iload_n 1, 2, 1, 0, 0, []), (2, .invokevirtual 226, 5, 0, 0, 0, [1, 12, 208]), (5, .ifCond .ne 5, 8, 10, 0, 0, []), (8, .iconst (-1), 9, 0, (-1), 0, []), (9, .ireturn, 10, 0, 0, 0, []),
  (10, .iconst 0, 11, 0, 0, 0, []), (11, .istore_n 2, 12, 2, 0, 0, []), (12, .iload_n 1, 13, 1, 0, 0, []), (13, .istore_n 3, 14, 3, 0, 0, []), (14, .iload_n 3, 15, 3, 0, 0, []), (15, .bipush (-9), 17, 0, (-9), 0, []),
  (17, .if_icmp .eq 26, 20, 43, 0, 0, []), (20, .iload_n 2, 21, 2, 0, 0, []), (21, .iload_n 3, 22, 3, 0, 0, []), (22, .invokestatic 167, 25, 180, 0, 0, [0, 2]), (25, .ifCond .ne 18, 28, 43, 0, 0, []), (28, .iload_n 2, 29, 2, 0, 0, []),
  (29, .iconst 1, 30, 0, 1, 0, []), (30, .iload_n 3, 31, 3, 0, 0, []), (31, .ishl, 32, 0, 0, 0, []), (32, .ior, 33, 0, 0, 0, []), (33, .istore_n 2, 34, 2, 0, 0, []), (34, .aload_n 0, 35, 0, 0, 0, []),
  (35, .iload_n 3, 36, 3, 0, 0, []), (36, .invokevirtual 250, 39, 0, 0, 0, [1, 12, 222]), (39, .istore_n 3, 40, 3, 0, 0, []), (40, .goto (-26), 43, 14, 0, 0, []), (43, .iload_n 3, 44, 3, 0, 0, []), (44, .bipush (-9), 46, 0, (-9), 0, []),
  (46, .if_icmp .ne 6, 49, 52, 0, 0, []), (49, .bipush (-9), 51, 0, (-9), 0, []), (51, .ireturn, 52, 0, 0, 0, []), (52, .iload_n 3, 53, 3, 0, 0, []), (53, .istore 4, 55, 4, 0, 0, []), (55, .iconst 1, 56, 0, 1, 0, []),
  (56, .istore 5, 58, 5, 0, 0, []), (58, .aload_n 0, 59, 0, 0, 0, []), (59, .iload 4, 61, 4, 0, 0, []), (61, .invokevirtual 250, 64, 0, 0, 0, [1, 12, 222]), (64, .istore 6, 66, 6, 0, 0, []), (66, .iload 6, 68, 6, 0, 0, []),
  (68, .iload 4, 70, 4, 0, 0, []), (70, .if_icmp .eq 17, 73, 87, 0, 0, []), (73, .iinc 5 1, 76, 5, 1, 0, []), (76, .aload_n 0, 77, 0, 0, 0, []), (77, .iload 6, 79, 6, 0, 0, []), (79, .invokevirtual 250, 82, 0, 0, 0, [1, 12, 222]),
  (82, .istore 6, 84, 6, 0, 0, []), (84, .goto (-18), 87, 66, 0, 0, []), (87, .aload_n 0, 88, 0, 0, 0, []), (88, .iload 5, 90, 5, 0, 0, []), (90, .iload 4, 92, 4, 0, 0, []), (92, .invokevirtual 235, 95, 0, 0, 0, [2, 12, 211]),
  (95, .ireturn, 96, 0, 0, 0, [])])
-- 222 DoorSoldModel.onFrom(I)I
def mx_222 : Mx := (⟨"DoorSoldModel", "onFrom", "(I)I"⟩, prog_14_method_76_code, 3, (Option.some FieldType.int), [
  (0, .iconst 0, 1, 0, 0, 0, []), (1, .istore_n 2, 2, 2, 0, 0, []), (2, .iload_n 2, 3, 2, 0, 0, []), (3, .aload_n 0, 4, 0, 0, 0, []), (4, .getfield 130, 7, 12, 0, 0, [4, 0]), (7, .if_icmp .ge 30, 10, 37, 0, 0, []),
  (10, .aload_n 0, 11, 0, 0, 0, []), (11, .iload_n 2, 12, 2, 0, 0, []), (12, .aload_n 0, 13, 0, 0, 0, []), (13, .getfield 28, 16, 12, 0, 0, [8, 2]), (16, .iconst 1, 17, 0, 1, 0, []), (17, .iaload, 18, 0, 0, 0, []),
  (18, .invokevirtual 156, 21, 0, 0, 0, [2, 12, 174]), (21, .iload_n 1, 22, 1, 0, 0, []), (22, .if_icmp .ne 9, 25, 31, 0, 0, []), (25, .aload_n 0, 26, 0, 0, 0, []), (26, .iload_n 2, 27, 2, 0, 0, []), (27, .invokevirtual 184, 30, 0, 0, 0, [1, 12, 184]),
  (30, .ireturn, 31, 0, 0, 0, []), (31, .iinc 2 1, 34, 2, 1, 0, []), (34, .goto (-32), 37, 2, 0, 0, []), (37, .bipush (-9), 39, 0, (-9), 0, []), (39, .ireturn, 40, 0, 0, 0, [])])
-- 223 DoorSoldModel.faces()I
def mx_223 : Mx := (⟨"DoorSoldModel", "faces", "()I"⟩, prog_14_method_78_code, 6, (Option.some FieldType.int), [
  (0, .aload_n 0, 1, 0, 0, 0, []), (1, .getfield 130, 4, 12, 0, 0, [4, 0]), (4, .ifCond .ne 6, 7, 10, 0, 0, []), (7, .bipush (-4), 9, 0, (-4), 0, []), (9, .ireturn, 10, 0, 0, 0, []), (10, .iconst 0, 11, 0, 0, 0, []),
  (11, .istore_n 1, 12, 1, 0, 0, []), (12, .bipush (-9), 14, 0, (-9), 0, []), (14, .istore_n 2, 15, 2, 0, 0, []), (15, .iconst 0, 16, 0, 0, 0, []), (16, .istore_n 3, 17, 3, 0, 0, []), (17, .iload_n 3, 18, 3, 0, 0, []),
  (18, .aload_n 0, 19, 0, 0, 0, []), (19, .getfield 130, 22, 12, 0, 0, [4, 0]), (22, .if_icmp .ge 112, 25, 134, 0, 0, []), (25, .iload_n 3, 26, 3, 0, 0, []), (26, .iconst 1, 27, 0, 1, 0, []), (27, .iadd, 28, 0, 0, 0, []),
  (28, .istore 4, 30, 4, 0, 0, []), (30, .iload 4, 32, 4, 0, 0, []), (32, .aload_n 0, 33, 0, 0, 0, []), (33, .getfield 130, 36, 12, 0, 0, [4, 0]), (36, .if_icmp .ge 92, 39, 128, 0, 0, []), (39, .aload_n 0, 40, 0, 0, 0, []),
  (40, .iload_n 3, 41, 3, 0, 0, []), (41, .invokevirtual 184, 44, 0, 0, 0, [1, 12, 184]), (44, .aload_n 0, 45, 0, 0, 0, []), (45, .iload 4, 47, 4, 0, 0, []), (47, .aload_n 0, 48, 0, 0, 0, []), (48, .getfield 28, 51, 12, 0, 0, [8, 2]),
  (51, .iconst 1, 52, 0, 1, 0, []), (52, .iaload, 53, 0, 0, 0, []), (53, .invokevirtual 156, 56, 0, 0, 0, [2, 12, 174]), (56, .if_icmp .ne 27, 59, 83, 0, 0, []), (59, .aload_n 0, 60, 0, 0, 0, []), (60, .iload 4, 62, 4, 0, 0, []),
  (62, .invokevirtual 184, 65, 0, 0, 0, [1, 12, 184]), (65, .aload_n 0, 66, 0, 0, 0, []), (66, .iload_n 3, 67, 3, 0, 0, []), (67, .aload_n 0, 68, 0, 0, 0, []), (68, .getfield 28, 71, 12, 0, 0, [8, 2]), (71, .iconst 1, 72, 0, 1, 0, []),
  (72, .iaload, 73, 0, 0, 0, []), (73, .invokevirtual 156, 76, 0, 0, 0, [2, 12, 174]), (76, .if_icmp .ne 7, 79, 83, 0, 0, []), (79, .iconst 1, 80, 0, 1, 0, []), (80, .goto 4, 83, 84, 0, 0, []), (83, .iconst 0, 84, 0, 0, 0, []),
  (84, .istore 5, 86, 5, 0, 0, []), (86, .iload_n 1, 87, 1, 0, 0, []), (87, .iload 5, 89, 5, 0, 0, []), (89, .ifCond .eq 7, 92, 96, 0, 0, []), (92, .iconst 1, 93, 0, 1, 0, []), (93, .goto 4, 96, 97, 0, 0, []),
  (96, .iconst 0, 97, 0, 0, 0, []), (97, .iadd, 98, 0, 0, 0, []), (98, .istore_n 1, 99, 1, 0, 0, []), (99, .iload 5, 101, 5, 0, 0, []), (101, .ifCond .eq 19, 104, 120, 0, 0, []), (104, .iload_n 2, 105, 2, 0, 0, []),
  (105, .bipush (-9), 107, 0, (-9), 0, []), (107, .if_icmp .ne 13, 110, 120, 0, 0, []), (110, .bipush 10, 112, 0, 10, 0, []), (112, .iload_n 3, 113, 3, 0, 0, []), (113, .imul, 114, 0, 0, 0, []), (114, .iload 4, 116, 4, 0, 0, []),
  (116, .iadd, 117, 0, 0, 0, []), (117, .goto 4, 120, 121, 0, 0, []), (120, .iload_n 2, 121, 2, 0, 0, []), (121, .istore_n 2, 122, 2, 0, 0, []), (122, .iinc 4 1, 125, 4, 1, 0, []), (125, .goto (-95), 128, 30, 0, 0, []),
  (128, .iinc 3 1, 131, 3, 1, 0, []), (131, .goto (-114), 134, 17, 0, 0, []), (134, .aload_n 0, 135, 0, 0, 0, []), (135, .iload_n 1, 136, 1, 0, 0, []), (136, .iload_n 2, 137, 2, 0, 0, []), (137, .invokevirtual 235, 140, 0, 0, 0, [2, 12, 211]),
  (140, .ireturn, 141, 0, 0, 0, [])])
-- 224 DoorSoldModel.chase(III)I
def mx_224 : Mx := (⟨"DoorSoldModel", "chase", "(III)I"⟩, prog_14_method_80_code, 7, (Option.some FieldType.int), [
  (0, .aload_n 0, 1, 0, 0, 0, []), (1, .getfield 130, 4, 12, 0, 0, [4, 0]), (4, .ifCond .ne 6, 7, 10, 0, 0, []), (7, .bipush (-4), 9, 0, (-4), 0, []), (9, .ireturn, 10, 0, 0, 0, []), (10, .aload_n 0, 11, 0, 0, 0, []),
  (11, .iload_n 1, 12, 1, 0, 0, []), (12, .invokevirtual 226, 15, 0, 0, 0, [1, 12, 208]), (15, .ifCond .eq 23, 18, 38, 0, 0, []), (18, .aload_n 0, 19, 0, 0, 0, []), (19, .iload_n 2, 20, 2, 0, 0, []), (20, .invokevirtual 226, 23, 0, 0, 0, [1, 12, 208]),
  (23, .ifCond .eq 15, 26, 38, 0, 0, []), (26, .iload_n 3, 27, 3, 0, 0, []), (27, .i2l, 28, 0, 0, 0, []), (28, .lconst 0, 29, 0, 0, 0, []), (29, .ldc2_w 253, 32, 0, 0, 6, []), (32, .invokestatic 72, 35, 150, 0, 0, [0, 3]),
  (35, .ifCond .ne 5, 38, 40, 0, 0, []), (38, .iconst (-1), 39, 0, (-1), 0, []), (39, .ireturn, 40, 0, 0, 0, []), (40, .iconst 0, 41, 0, 0, 0, []), (41, .istore 4, 43, 4, 0, 0, []), (43, .iload 4, 45, 4, 0, 0, []),
  (45, .bipush 49, 47, 0, 49, 0, []), (47, .if_icmp .ge 35, 50, 82, 0, 0, []), (50, .aload_n 0, 51, 0, 0, 0, []), (51, .getfield 57, 54, 12, 0, 0, [26, 2]), (54, .iload 4, 56, 4, 0, 0, []), (56, .iload 4, 58, 4, 0, 0, []),
  (58, .bipush 7, 60, 0, 7, 0, []), (60, .idiv, 61, 0, 0, 0, []), (61, .iload 4, 63, 4, 0, 0, []), (63, .bipush 7, 65, 0, 7, 0, []), (65, .irem, 66, 0, 0, 0, []), (66, .if_icmp .ne 7, 69, 73, 0, 0, []),
  (69, .iconst 0, 70, 0, 0, 0, []), (70, .goto 5, 73, 75, 0, 0, []), (73, .ldc 255, 75, 0, 1000000, 0, []), (75, .iastore, 76, 0, 0, 0, []), (76, .iinc 4 1, 79, 4, 1, 0, []), (79, .goto (-36), 82, 43, 0, 0, []),
  (82, .iload_n 3, 83, 3, 0, 0, []), (83, .iconst 1, 84, 0, 1, 0, []), (84, .isub, 85, 0, 0, 0, []), (85, .istore 4, 87, 4, 0, 0, []), (87, .iload 4, 89, 4, 0, 0, []), (89, .ifCond .lt 119, 92, 208, 0, 0, []),
  (92, .iconst 0, 93, 0, 0, 0, []), (93, .istore 5, 95, 5, 0, 0, []), (95, .iload 5, 97, 5, 0, 0, []), (97, .bipush 7, 99, 0, 7, 0, []), (99, .aload_n 0, 100, 0, 0, 0, []), (100, .getfield 133, 103, 12, 0, 0, [5, 0]),
  (103, .imul, 104, 0, 0, 0, []), (104, .if_icmp .ge 83, 107, 187, 0, 0, []), (107, .iload 5, 109, 5, 0, 0, []), (109, .bipush 7, 111, 0, 7, 0, []), (111, .irem, 112, 0, 0, 0, []), (112, .aload_n 0, 113, 0, 0, 0, []),
  (113, .getfield 133, 116, 12, 0, 0, [5, 0]), (116, .if_icmp .ge 20, 119, 136, 0, 0, []), (119, .iload 5, 121, 5, 0, 0, []), (121, .bipush 7, 123, 0, 7, 0, []), (123, .idiv, 124, 0, 0, 0, []), (124, .iload 5, 126, 5, 0, 0, []),
  (126, .bipush 7, 128, 0, 7, 0, []), (128, .irem, 129, 0, 0, 0, []), (129, .if_icmp .eq 7, 132, 136, 0, 0, []), (132, .iconst 1, 133, 0, 1, 0, []), (133, .goto 4, 136, 137, 0, 0, []), (136, .iconst 0, 137, 0, 0, 0, []),
  (137, .istore 6, 139, 6, 0, 0, []), (139, .aload_n 0, 140, 0, 0, 0, []), (140, .getfield 60, 143, 12, 0, 0, [27, 2]), (143, .iload 5, 145, 5, 0, 0, []), (145, .iload 6, 147, 6, 0, 0, []), (147, .ifCond .eq 32, 150, 179, 0, 0, []),
  (150, .aload_n 0, 151, 0, 0, 0, []), (151, .iload 5, 153, 5, 0, 0, []), (153, .bipush 7, 155, 0, 7, 0, []), (155, .idiv, 156, 0, 0, 0, []), (156, .iload 5, 158, 5, 0, 0, []), (158, .bipush 7, 160, 0, 7, 0, []),
  (160, .irem, 161, 0, 0, 0, []), (161, .iload 4, 163, 4, 0, 0, []), (163, .iconst 2, 164, 0, 2, 0, []), (164, .irem, 165, 0, 0, 0, []), (165, .ifCond .ne 7, 168, 172, 0, 0, []), (168, .iconst 1, 169, 0, 1, 0, []),
  (169, .goto 4, 172, 173, 0, 0, []), (172, .iconst 0, 173, 0, 0, 0, []), (173, .invokevirtual 256, 176, 0, 0, 0, [3, 12, 225]), (176, .goto 4, 179, 180, 0, 0, []), (179, .iconst 0, 180, 0, 0, 0, []), (180, .iastore, 181, 0, 0, 0, []),
  (181, .iinc 5 1, 184, 5, 1, 0, []), (184, .goto (-89), 187, 95, 0, 0, []), (187, .aload_n 0, 188, 0, 0, 0, []), (188, .getfield 60, 191, 12, 0, 0, [27, 2]), (191, .iconst 0, 192, 0, 0, 0, []), (192, .aload_n 0, 193, 0, 0, 0, []),
  (193, .getfield 57, 196, 12, 0, 0, [26, 2]), (196, .iconst 0, 197, 0, 0, 0, []), (197, .bipush 49, 199, 0, 49, 0, []), (199, .invokestatic 190, 202, 191, 0, 0, [0, 5]), (202, .iinc 4 (-1), 205, 4, (-1), 0, []), (205, .goto (-118), 208, 87, 0, 0, []),
  (208, .aload_n 0, 209, 0, 0, 0, []), (209, .getfield 57, 212, 12, 0, 0, [26, 2]), (212, .bipush 7, 214, 0, 7, 0, []), (214, .iload_n 1, 215, 1, 0, 0, []), (215, .imul, 216, 0, 0, 0, []), (216, .iload_n 2, 217, 2, 0, 0, []),
  (217, .iadd, 218, 0, 0, 0, []), (218, .iaload, 219, 0, 0, 0, []), (219, .istore 4, 221, 4, 0, 0, []), (221, .iload 4, 223, 4, 0, 0, []), (223, .ldc 255, 225, 0, 1000000, 0, []), (225, .if_icmp .lt 8, 228, 233, 0, 0, []),
  (228, .bipush (-9), 230, 0, (-9), 0, []), (230, .goto 5, 233, 235, 0, 0, []), (233, .iload 4, 235, 4, 0, 0, []), (235, .ireturn, 236, 0, 0, 0, [])])
-- 225 DoorSoldModel.moves(IIZ)I
def mx_225 : Mx := (⟨"DoorSoldModel", "moves", "(IIZ)I"⟩, prog_14_method_79_code, 11, (Option.some FieldType.int), [
  (0, .iload_n 3, 1, 3, 0, 0, []), (1, .ifCond .eq 7, 4, 8, 0, 0, []), (4, .iload_n 1, 5, 1, 0, 0, []), (5, .goto 4, 8, 9, 0, 0, []), (8, .iload_n 2, 9, 2, 0, 0, []), (9, .istore 4, 11, 4, 0, 0, []),
  (11, .bipush (-9), 13, 0, (-9), 0, []), (13, .istore 5, 15, 5, 0, 0, []), (15, .bipush (-2), 17, 0, (-2), 0, []), (17, .istore 6, 19, 6, 0, 0, []), (19, .iload 6, 21, 6, 0, 0, []), (21, .aload_n 0, 22, 0, 0, 0, []),
  (22, .getfield 130, 25, 12, 0, 0, [4, 0]), (25, .if_icmp .ge 163, 28, 188, 0, 0, []), (28, .iload 6, 30, 6, 0, 0, []), (30, .ifCond .lt 20, 33, 50, 0, 0, []), (33, .aload_n 0, 34, 0, 0, 0, []), (34, .iload 6, 36, 6, 0, 0, []),
  (36, .aload_n 0, 37, 0, 0, 0, []), (37, .getfield 28, 40, 12, 0, 0, [8, 2]), (40, .iconst 1, 41, 0, 1, 0, []), (41, .iaload, 42, 0, 0, 0, []), (42, .invokevirtual 156, 45, 0, 0, 0, [2, 12, 174]), (45, .iload 4, 47, 4, 0, 0, []),
  (47, .if_icmp .ne 7, 50, 54, 0, 0, []), (50, .iconst 1, 51, 0, 1, 0, []), (51, .goto 4, 54, 55, 0, 0, []), (54, .iconst 0, 55, 0, 0, 0, []), (55, .istore 7, 57, 7, 0, 0, []), (57, .iload 6, 59, 6, 0, 0, []),
  (59, .bipush (-2), 61, 0, (-2), 0, []), (61, .if_icmp .ne 8, 64, 69, 0, 0, []), (64, .iload 4, 66, 4, 0, 0, []), (66, .goto 27, 69, 93, 0, 0, []), (69, .iload 6, 71, 6, 0, 0, []), (71, .iconst (-1), 72, 0, (-1), 0, []),
  (72, .if_icmp .ne 15, 75, 87, 0, 0, []), (75, .iload 4, 77, 4, 0, 0, []), (77, .iconst 1, 78, 0, 1, 0, []), (78, .iadd, 79, 0, 0, 0, []), (79, .aload_n 0, 80, 0, 0, 0, []), (80, .getfield 133, 83, 12, 0, 0, [5, 0]),
  (83, .irem, 84, 0, 0, 0, []), (84, .goto 9, 87, 93, 0, 0, []), (87, .aload_n 0, 88, 0, 0, 0, []), (88, .iload 6, 90, 6, 0, 0, []), (90, .invokevirtual 184, 93, 0, 0, 0, [1, 12, 184]), (93, .istore 8, 95, 8, 0, 0, []),
  (95, .iload_n 3, 96, 3, 0, 0, []), (96, .ifCond .eq 18, 99, 114, 0, 0, []), (99, .aload_n 0, 100, 0, 0, 0, []), (100, .getfield 57, 103, 12, 0, 0, [26, 2]), (103, .bipush 7, 105, 0, 7, 0, []), (105, .iload 8, 107, 8, 0, 0, []),
  (107, .imul, 108, 0, 0, 0, []), (108, .iload_n 2, 109, 2, 0, 0, []), (109, .iadd, 110, 0, 0, 0, []), (110, .iaload, 111, 0, 0, 0, []), (111, .goto 15, 114, 126, 0, 0, []), (114, .aload_n 0, 115, 0, 0, 0, []),
  (115, .getfield 57, 118, 12, 0, 0, [26, 2]), (118, .bipush 7, 120, 0, 7, 0, []), (120, .iload_n 1, 121, 1, 0, 0, []), (121, .imul, 122, 0, 0, 0, []), (122, .iload 8, 124, 8, 0, 0, []), (124, .iadd, 125, 0, 0, 0, []),
  (125, .iaload, 126, 0, 0, 0, []), (126, .istore 9, 128, 9, 0, 0, []), (128, .iload 5, 130, 5, 0, 0, []), (130, .bipush (-9), 132, 0, (-9), 0, []), (132, .if_icmp .eq 24, 135, 156, 0, 0, []), (135, .iload_n 3, 136, 3, 0, 0, []),
  (136, .ifCond .eq 13, 139, 149, 0, 0, []), (139, .iload 9, 141, 9, 0, 0, []), (141, .iload 5, 143, 5, 0, 0, []), (143, .if_icmp .le 17, 146, 160, 0, 0, []), (146, .goto 10, 149, 156, 0, 0, []), (149, .iload 9, 151, 9, 0, 0, []),
  (151, .iload 5, 153, 5, 0, 0, []), (153, .if_icmp .ge 7, 156, 160, 0, 0, []), (156, .iconst 1, 157, 0, 1, 0, []), (157, .goto 4, 160, 161, 0, 0, []), (160, .iconst 0, 161, 0, 0, 0, []), (161, .istore 10, 163, 10, 0, 0, []),
  (163, .iload 7, 165, 7, 0, 0, []), (165, .ifCond .eq 13, 168, 178, 0, 0, []), (168, .iload 10, 170, 10, 0, 0, []), (170, .ifCond .eq 8, 173, 178, 0, 0, []), (173, .iload 9, 175, 9, 0, 0, []), (175, .goto 5, 178, 180, 0, 0, []),
  (178, .iload 5, 180, 5, 0, 0, []), (180, .istore 5, 182, 5, 0, 0, []), (182, .iinc 6 1, 185, 6, 1, 0, []), (185, .goto (-166), 188, 19, 0, 0, []), (188, .iload 5, 190, 5, 0, 0, []), (190, .iconst 1, 191, 0, 1, 0, []),
  (191, .iadd, 192, 0, 0, 0, []), (192, .ireturn, 193, 0, 0, 0, [])])
-- 226 DoorSoldModel.odds(III)I
def mx_226 : Mx := (⟨"DoorSoldModel", "odds", "(III)I"⟩, prog_14_method_83_code, 4, (Option.some FieldType.int), [
  (0, .aload_n 0, 1, 0, 0, 0, []), (1, .iload_n 1, 2, 1, 0, 0, []), (2, .invokevirtual 226, 5, 0, 0, 0, [1, 12, 208]), (5, .ifCond .eq 37, 8, 42, 0, 0, []), (8, .iload_n 2, 9, 2, 0, 0, []), (9, .i2l, 10, 0, 0, 0, []),
  (10, .lconst 0, 11, 0, 0, 0, []), (11, .ldc2_w 221, 14, 0, 0, 30, []), (14, .invokestatic 72, 17, 150, 0, 0, [0, 3]), (17, .ifCond .eq 25, 20, 42, 0, 0, []), (20, .iload_n 3, 21, 3, 0, 0, []), (21, .i2l, 22, 0, 0, 0, []),
  (22, .lconst 0, 23, 0, 0, 0, []), (23, .ldc2_w 263, 26, 0, 0, 12, []), (26, .invokestatic 72, 29, 150, 0, 0, [0, 3]), (29, .ifCond .eq 13, 32, 42, 0, 0, []), (32, .aload_n 0, 33, 0, 0, 0, []), (33, .iload_n 1, 34, 1, 0, 0, []),
  (34, .iload_n 2, 35, 2, 0, 0, []), (35, .iload_n 3, 36, 3, 0, 0, []), (36, .invokevirtual 269, 39, 0, 0, 0, [3, 12, 227]), (39, .goto 4, 42, 43, 0, 0, []), (42, .iconst (-1), 43, 0, (-1), 0, []), (43, .ireturn, 44, 0, 0, 0, [])])
-- 227 DoorSoldModel.weighed(III)I
def mx_227 : Mx := (⟨"DoorSoldModel", "weighed", "(III)I"⟩, prog_14_method_82_code, 13, (Option.some FieldType.int), [
  (0, .aload_n 0, 1, 0, 0, 0, []), (1, .getfield 28, 4, 12, 0, 0, [8, 2]), (4, .iconst 3, 5, 0, 3, 0, []), (5, .iaload, 6, 0, 0, 0, []), (6, .istore 4, 8, 4, 0, 0, []), (8, .lconst 0, 9, 0, 0, 0, []),
  (9, .lstore 5, 11, 5, 0, 0, []), (11, .lconst 1, 12, 0, 0, 1, []), (12, .lstore 7, 14, 7, 0, 0, []), (14, .iload 4, 16, 4, 0, 0, []), (16, .invokestatic 232, 19, 210, 0, 0, [0, 1]), (19, .istore 9, 21, 9, 0, 0, []),
  (21, .iload 9, 23, 9, 0, 0, []), (23, .ifCond .le 17, 26, 40, 0, 0, []), (26, .lload 7, 28, 7, 0, 0, []), (28, .ldc2_w 263, 31, 0, 0, 12, []), (31, .lmul, 32, 0, 0, 0, []), (32, .lstore 7, 34, 7, 0, 0, []),
  (34, .iinc 9 (-1), 37, 9, (-1), 0, []), (37, .goto (-16), 40, 21, 0, 0, []), (40, .iconst 0, 41, 0, 0, 0, []), (41, .istore 9, 43, 9, 0, 0, []), (43, .iload 9, 45, 9, 0, 0, []), (45, .iconst 1, 46, 0, 1, 0, []),
  (46, .aload_n 0, 47, 0, 0, 0, []), (47, .getfield 130, 50, 12, 0, 0, [4, 0]), (50, .ishl, 51, 0, 0, 0, []), (51, .if_icmp .ge 117, 54, 168, 0, 0, []), (54, .iload 9, 56, 9, 0, 0, []), (56, .iload 4, 58, 4, 0, 0, []),
  (58, .iconst (-1), 59, 0, (-1), 0, []), (59, .ixor, 60, 0, 0, 0, []), (60, .iand, 61, 0, 0, 0, []), (61, .ifCond .ne 101, 64, 162, 0, 0, []), (64, .lconst 1, 65, 0, 0, 1, []), (65, .lstore 10, 67, 10, 0, 0, []),
  (67, .iconst 0, 68, 0, 0, 0, []), (68, .istore 12, 70, 12, 0, 0, []), (70, .iload 12, 72, 12, 0, 0, []), (72, .aload_n 0, 73, 0, 0, 0, []), (73, .getfield 130, 76, 12, 0, 0, [4, 0]), (76, .if_icmp .ge 48, 79, 124, 0, 0, []),
  (79, .lload 10, 81, 10, 0, 0, []), (81, .iload 4, 83, 4, 0, 0, []), (83, .iload 12, 85, 12, 0, 0, []), (85, .invokestatic 167, 88, 180, 0, 0, [0, 2]), (88, .ifCond .ne 7, 91, 95, 0, 0, []), (91, .lconst 1, 92, 0, 0, 1, []),
  (92, .goto 23, 95, 115, 0, 0, []), (95, .iload 9, 97, 9, 0, 0, []), (97, .iload 12, 99, 12, 0, 0, []), (99, .invokestatic 167, 102, 180, 0, 0, [0, 2]), (102, .ifCond .eq 11, 105, 113, 0, 0, []), (105, .bipush 12, 107, 0, 12, 0, []),
  (107, .iload_n 3, 108, 3, 0, 0, []), (108, .isub, 109, 0, 0, 0, []), (109, .i2l, 110, 0, 0, 0, []), (110, .goto 5, 113, 115, 0, 0, []), (113, .iload_n 3, 114, 3, 0, 0, []), (114, .i2l, 115, 0, 0, 0, []),
  (115, .lmul, 116, 0, 0, 0, []), (116, .lstore 10, 118, 10, 0, 0, []), (118, .iinc 12 1, 121, 12, 1, 0, []), (121, .goto (-51), 124, 70, 0, 0, []), (124, .aload_n 0, 125, 0, 0, 0, []), (125, .iload_n 1, 126, 1, 0, 0, []),
  (126, .iload 9, 128, 9, 0, 0, []), (128, .invokevirtual 229, 131, 0, 0, 0, [2, 12, 209]), (131, .istore 12, 133, 12, 0, 0, []), (133, .lload 5, 135, 5, 0, 0, []), (135, .lload 10, 137, 10, 0, 0, []), (137, .iload_n 2, 138, 2, 0, 0, []),
  (138, .ifCond .ge 8, 141, 146, 0, 0, []), (141, .iload 12, 143, 12, 0, 0, []), (143, .goto 14, 146, 157, 0, 0, []), (146, .iload 12, 148, 12, 0, 0, []), (148, .iload_n 2, 149, 2, 0, 0, []), (149, .if_icmp .gt 7, 152, 156, 0, 0, []),
  (152, .iconst 1, 153, 0, 1, 0, []), (153, .goto 4, 156, 157, 0, 0, []), (156, .iconst 0, 157, 0, 0, 0, []), (157, .i2l, 158, 0, 0, 0, []), (158, .lmul, 159, 0, 0, 0, []), (159, .ladd, 160, 0, 0, 0, []),
  (160, .lstore 5, 162, 5, 0, 0, []), (162, .iinc 9 1, 165, 9, 1, 0, []), (165, .goto (-122), 168, 43, 0, 0, []), (168, .aload_n 0, 169, 0, 0, 0, []), (169, .lload 5, 171, 5, 0, 0, []), (171, .lload 7, 173, 7, 0, 0, []),
  (173, .invokevirtual 265, 176, 0, 0, 0, [2, 12, 228]), (176, .ireturn, 177, 0, 0, 0, [])])
-- 228 DoorSoldModel.fraction(JJ)I
def mx_228 : Mx := (⟨"DoorSoldModel", "fraction", "(JJ)I"⟩, prog_14_method_81_code, 11, (Option.some FieldType.int), [
  (0, .lload_n 1, 1, 1, 0, 0, []), (1, .lstore 5, 3, 5, 0, 0, []), (3, .lload_n 3, 4, 3, 0, 0, []), (4, .lstore 7, 6, 7, 0, 0, []), (6, .lload 7, 8, 7, 0, 0, []), (8, .lconst 0, 9, 0, 0, 0, []),
  (9, .lcmp, 10, 0, 0, 0, []), (10, .ifCond .eq 21, 13, 31, 0, 0, []), (13, .lload 5, 15, 5, 0, 0, []), (15, .lload 7, 17, 7, 0, 0, []), (17, .lrem, 18, 0, 0, 0, []), (18, .lstore 9, 20, 9, 0, 0, []),
  (20, .lload 7, 22, 7, 0, 0, []), (22, .lstore 5, 24, 5, 0, 0, []), (24, .lload 9, 26, 9, 0, 0, []), (26, .lstore 7, 28, 7, 0, 0, []), (28, .goto (-22), 31, 6, 0, 0, []), (31, .aload_n 0, 32, 0, 0, 0, []),
  (32, .lload_n 1, 33, 1, 0, 0, []), (33, .lload 5, 35, 5, 0, 0, []), (35, .ldiv, 36, 0, 0, 0, []), (36, .putfield 260, 39, 12, 0, 0, [14, 1]), (39, .aload_n 0, 40, 0, 0, 0, []), (40, .lload_n 3, 41, 3, 0, 0, []),
  (41, .lload 5, 43, 5, 0, 0, []), (43, .ldiv, 44, 0, 0, 0, []), (44, .putfield 41, 47, 12, 0, 0, [15, 1]), (47, .iconst 1, 48, 0, 1, 0, []), (48, .ireturn, 49, 0, 0, 0, [])])
-- 229 DoorSoldModel.mid(II)I
def mx_229 : Mx := (⟨"DoorSoldModel", "mid", "(II)I"⟩, prog_14_method_84_code, 3, (Option.some FieldType.int), [
  (0, .aload_n 0, 1, 0, 0, 0, []), (1, .iload_n 1, 2, 1, 0, 0, []), (2, .invokevirtual 226, 5, 0, 0, 0, [1, 12, 208]), (5, .ifCond .eq 25, 8, 30, 0, 0, []), (8, .iload_n 2, 9, 2, 0, 0, []), (9, .i2l, 10, 0, 0, 0, []),
  (10, .lconst 0, 11, 0, 0, 0, []), (11, .ldc2_w 263, 14, 0, 0, 12, []), (14, .invokestatic 72, 17, 150, 0, 0, [0, 3]), (17, .ifCond .eq 13, 20, 30, 0, 0, []), (20, .aload_n 0, 21, 0, 0, 0, []), (21, .iload_n 1, 22, 1, 0, 0, []),
  (22, .iconst (-1), 23, 0, (-1), 0, []), (23, .iload_n 2, 24, 2, 0, 0, []), (24, .invokevirtual 269, 27, 0, 0, 0, [3, 12, 227]), (27, .goto 4, 30, 31, 0, 0, []), (30, .iconst (-1), 31, 0, (-1), 0, []), (31, .ireturn, 32, 0, 0, 0, [])])
-- 230 DoorSoldModel.lots(II)I
def mx_230 : Mx := (⟨"DoorSoldModel", "lots", "(II)I"⟩, prog_14_method_85_code, 7, (Option.some FieldType.int), [
  (0, .iload_n 1, 1, 1, 0, 0, []), (1, .i2l, 2, 0, 0, 0, []), (2, .lconst 1, 3, 0, 0, 1, []), (3, .ldc2_w 272, 6, 0, 0, 20, []), (6, .invokestatic 72, 9, 150, 0, 0, [0, 3]), (9, .ifCond .eq 15, 12, 24, 0, 0, []),
  (12, .iload_n 2, 13, 2, 0, 0, []), (13, .i2l, 14, 0, 0, 0, []), (14, .lconst 1, 15, 0, 0, 1, []), (15, .ldc2_w 274, 18, 0, 0, 2147483646, []), (18, .invokestatic 72, 21, 150, 0, 0, [0, 3]), (21, .ifCond .ne 5, 24, 26, 0, 0, []),
  (24, .iconst (-1), 25, 0, (-1), 0, []), (25, .ireturn, 26, 0, 0, 0, []), (26, .aload_n 0, 27, 0, 0, 0, []), (27, .getfield 130, 30, 12, 0, 0, [4, 0]), (30, .ifCond .ne 6, 33, 36, 0, 0, []), (33, .bipush (-4), 35, 0, (-4), 0, []),
  (35, .ireturn, 36, 0, 0, 0, []), (36, .aload_n 0, 37, 0, 0, 0, []), (37, .getfield 136, 40, 12, 0, 0, [9, 0]), (40, .iload_n 1, 41, 1, 0, 0, []), (41, .iadd, 42, 0, 0, 0, []), (42, .bipush 40, 44, 0, 40, 0, []),
  (44, .if_icmp .le 6, 47, 50, 0, 0, []), (47, .bipush (-2), 49, 0, (-2), 0, []), (49, .ireturn, 50, 0, 0, 0, []), (50, .iload_n 2, 51, 2, 0, 0, []), (51, .i2l, 52, 0, 0, 0, []), (52, .lstore_n 3, 53, 3, 0, 0, []),
  (53, .iconst 0, 54, 0, 0, 0, []), (54, .istore 5, 56, 5, 0, 0, []), (56, .iload 5, 58, 5, 0, 0, []), (58, .iload_n 1, 59, 1, 0, 0, []), (59, .if_icmp .ge 72, 62, 131, 0, 0, []), (62, .ldc2_w 276, 65, 0, 0, 48271, []),
  (65, .lload_n 3, 66, 3, 0, 0, []), (66, .lmul, 67, 0, 0, 0, []), (67, .ldc2_w 278, 70, 0, 0, 2147483647, []), (70, .lrem, 71, 0, 0, 0, []), (71, .lstore_n 3, 72, 3, 0, 0, []), (72, .lload_n 3, 73, 3, 0, 0, []),
  (73, .ldc2_w 280, 76, 0, 0, 8, []), (76, .ldiv, 77, 0, 0, 0, []), (77, .aload_n 0, 78, 0, 0, 0, []), (78, .getfield 130, 81, 12, 0, 0, [4, 0]), (81, .i2l, 82, 0, 0, 0, []), (82, .lrem, 83, 0, 0, 0, []),
  (83, .l2i, 84, 0, 0, 0, []), (84, .istore 6, 86, 6, 0, 0, []), (86, .aload_n 0, 87, 0, 0, 0, []), (87, .iload 6, 89, 6, 0, 0, []), (89, .invokevirtual 207, 92, 0, 0, 0, [1, 12, 195]), (92, .ifCond .eq 12, 95, 104, 0, 0, []),
  (95, .aload_n 0, 96, 0, 0, 0, []), (96, .iload 6, 98, 6, 0, 0, []), (98, .invokevirtual 210, 101, 0, 0, 0, [1, 12, 196]), (101, .goto 24, 104, 125, 0, 0, []), (104, .lload_n 3, 105, 3, 0, 0, []), (105, .ldc2_w 76, 108, 0, 0, 3, []),
  (108, .lrem, 109, 0, 0, 0, []), (109, .lconst 0, 110, 0, 0, 0, []), (110, .lcmp, 111, 0, 0, 0, []), (111, .ifCond .ne 10, 114, 121, 0, 0, []), (114, .aload_n 0, 115, 0, 0, 0, []), (115, .invokevirtual 201, 118, 0, 0, 0, [0, 12, 189]),
  (118, .goto 7, 121, 125, 0, 0, []), (121, .aload_n 0, 122, 0, 0, 0, []), (122, .invokevirtual 204, 125, 0, 0, 0, [0, 12, 193]), (125, .iinc 5 1, 128, 5, 1, 0, []), (128, .goto (-72), 131, 56, 0, 0, []), (131, .aload_n 0, 132, 0, 0, 0, []),
  (132, .getfield 28, 135, 12, 0, 0, [8, 2]), (135, .iconst 0, 136, 0, 0, 0, []), (136, .iaload, 137, 0, 0, 0, []), (137, .ireturn, 138, 0, 0, 0, [])])
-- 231 DoorSoldModel.asked()I
def mx_231 : Mx := (⟨"DoorSoldModel", "asked", "()I"⟩, prog_14_method_86_code, 1, (Option.some FieldType.int), [
  (0, .aload_n 0, 1, 0, 0, 0, []), (1, .getfield 67, 4, 12, 0, 0, [13, 0]), (4, .ireturn, 5, 0, 0, 0, [])])
-- 232 DoorSoldModel.upper()J
def mx_232 : Mx := (⟨"DoorSoldModel", "upper", "()J"⟩, prog_14_method_87_code, 1, (Option.some FieldType.long), [
  (0, .aload_n 0, 1, 0, 0, 0, []), (1, .getfield 260, 4, 12, 0, 0, [14, 1]), (4, .lreturn, 5, 0, 0, 0, [])])
-- 233 DoorSoldModel.lower()J
def mx_233 : Mx := (⟨"DoorSoldModel", "lower", "()J"⟩, prog_14_method_88_code, 1, (Option.some FieldType.long), [
  (0, .aload_n 0, 1, 0, 0, 0, []), (1, .getfield 41, 4, 12, 0, 0, [15, 1]), (4, .lreturn, 5, 0, 0, 0, [])])
-- 234 DoorSoldModel.count(I)I
def mx_234 : Mx := (⟨"DoorSoldModel", "count", "(I)I"⟩, prog_14_method_90_code, 2, (Option.some FieldType.int), [
  (0, .iload_n 1, 1, 1, 0, 0, []), (1, .i2l, 2, 0, 0, 0, []), (2, .lconst 0, 3, 0, 0, 0, []), (3, .ldc2_w 282, 6, 0, 0, 10, []), (6, .invokestatic 72, 9, 150, 0, 0, [0, 3]), (9, .ifCond .eq 11, 12, 20, 0, 0, []),
  (12, .aload_n 0, 13, 0, 0, 0, []), (13, .iload_n 1, 14, 1, 0, 0, []), (14, .invokevirtual 284, 17, 0, 0, 0, [1, 12, 235]), (17, .goto 4, 20, 21, 0, 0, []), (20, .iconst (-1), 21, 0, (-1), 0, []), (21, .ireturn, 22, 0, 0, 0, [])])
-- 235 DoorSoldModel.counted(I)I
def mx_235 : Mx := (⟨"DoorSoldModel", "counted", "(I)I"⟩, prog_14_method_89_code, 4, (Option.some FieldType.int), [
  (0, .iconst 0, 1, 0, 0, 0, []), (1, .istore_n 2, 2, 2, 0, 0, []), (2, .iconst 0, 3, 0, 0, 0, []), (3, .istore_n 3, 4, 3, 0, 0, []), (4, .iload_n 3, 5, 3, 0, 0, []), (5, .aload_n 0, 6, 0, 0, 0, []),
  (6, .getfield 130, 9, 12, 0, 0, [4, 0]), (9, .if_icmp .ge 35, 12, 44, 0, 0, []), (12, .iload_n 1, 13, 1, 0, 0, []), (13, .bipush 7, 15, 0, 7, 0, []), (15, .if_icmp .ne 29, 18, 44, 0, 0, []), (18, .iload_n 2, 19, 2, 0, 0, []),
  (19, .aload_n 0, 20, 0, 0, 0, []), (20, .getfield 22, 23, 12, 0, 0, [6, 2]), (23, .iload_n 3, 24, 3, 0, 0, []), (24, .iaload, 25, 0, 0, 0, []), (25, .invokestatic 142, 28, 178, 0, 0, [0, 1]), (28, .ifCond .eq 7, 31, 35, 0, 0, []),
  (31, .iconst 1, 32, 0, 1, 0, []), (32, .goto 4, 35, 36, 0, 0, []), (35, .iconst 0, 36, 0, 0, 0, []), (36, .iadd, 37, 0, 0, 0, []), (37, .istore_n 2, 38, 2, 0, 0, []), (38, .iinc 3 1, 41, 3, 1, 0, []),
  (41, .goto (-37), 44, 4, 0, 0, []), (44, .iconst 0, 45, 0, 0, 0, []), (45, .istore_n 3, 46, 3, 0, 0, []), (46, .iload_n 3, 47, 3, 0, 0, []), (47, .bipush 6, 49, 0, 6, 0, []), (49, .if_icmp .ge 32, 52, 81, 0, 0, []),
  (52, .iload_n 1, 53, 1, 0, 0, []), (53, .bipush 8, 55, 0, 8, 0, []), (55, .if_icmp .ne 26, 58, 81, 0, 0, []), (58, .iload_n 2, 59, 2, 0, 0, []), (59, .aload_n 0, 60, 0, 0, 0, []), (60, .getfield 7, 63, 12, 0, 0, [0, 2]),
  (63, .iload_n 3, 64, 3, 0, 0, []), (64, .iaload, 65, 0, 0, 0, []), (65, .ifCond .ge 7, 68, 72, 0, 0, []), (68, .iconst 0, 69, 0, 0, 0, []), (69, .goto 4, 72, 73, 0, 0, []), (72, .iconst 1, 73, 0, 1, 0, []),
  (73, .iadd, 74, 0, 0, 0, []), (74, .istore_n 2, 75, 2, 0, 0, []), (75, .iinc 3 1, 78, 3, 1, 0, []), (78, .goto (-32), 81, 46, 0, 0, []), (81, .iconst 0, 82, 0, 0, 0, []), (82, .istore_n 3, 83, 3, 0, 0, []),
  (83, .iload_n 3, 84, 3, 0, 0, []), (84, .iconst 4, 85, 0, 4, 0, []), (85, .if_icmp .ge 32, 88, 117, 0, 0, []), (88, .iload_n 1, 89, 1, 0, 0, []), (89, .bipush 9, 91, 0, 9, 0, []), (91, .if_icmp .ne 26, 94, 117, 0, 0, []),
  (94, .iload_n 2, 95, 2, 0, 0, []), (95, .aload_n 0, 96, 0, 0, 0, []), (96, .getfield 16, 99, 12, 0, 0, [2, 2]), (99, .iload_n 3, 100, 3, 0, 0, []), (100, .iaload, 101, 0, 0, 0, []), (101, .ifCond .ge 7, 104, 108, 0, 0, []),
  (104, .iconst 0, 105, 0, 0, 0, []), (105, .goto 4, 108, 109, 0, 0, []), (108, .iconst 1, 109, 0, 1, 0, []), (109, .iadd, 110, 0, 0, 0, []), (110, .istore_n 2, 111, 2, 0, 0, []), (111, .iinc 3 1, 114, 3, 1, 0, []),
  (114, .goto (-31), 117, 83, 0, 0, []), (117, .iconst 0, 118, 0, 0, 0, []), (118, .istore_n 3, 119, 3, 0, 0, []), (119, .iload_n 3, 120, 3, 0, 0, []), (120, .iconst 3, 121, 0, 3, 0, []), (121, .if_icmp .ge 32, 124, 153, 0, 0, []),
  (124, .iload_n 1, 125, 1, 0, 0, []), (125, .bipush 10, 127, 0, 10, 0, []), (127, .if_icmp .ne 26, 130, 153, 0, 0, []), (130, .iload_n 2, 131, 2, 0, 0, []), (131, .aload_n 0, 132, 0, 0, 0, []), (132, .getfield 37, 135, 12, 0, 0, [12, 2]),
  (135, .iload_n 3, 136, 3, 0, 0, []), (136, .baload, 137, 0, 0, 0, []), (137, .ifCond .eq 7, 140, 144, 0, 0, []), (140, .iconst 1, 141, 0, 1, 0, []), (141, .goto 4, 144, 145, 0, 0, []), (144, .iconst 0, 145, 0, 0, 0, []),
  (145, .iadd, 146, 0, 0, 0, []), (146, .istore_n 2, 147, 2, 0, 0, []), (147, .iinc 3 1, 150, 3, 1, 0, []), (150, .goto (-31), 153, 119, 0, 0, []), (153, .iload_n 1, 154, 1, 0, 0, []), (154, .tableswitch 73 0 6 #[42, 47, 52, 52, 52, 61, 66], 196, 227, 0, 0, [196, 201, 206, 206, 206, 215, 220]),
  (196, .aload_n 0, 197, 0, 0, 0, []), (197, .getfield 130, 200, 12, 0, 0, [4, 0]), (200, .ireturn, 201, 0, 0, 0, []), (201, .aload_n 0, 202, 0, 0, 0, []), (202, .getfield 133, 205, 12, 0, 0, [5, 0]), (205, .ireturn, 206, 0, 0, 0, []),
  (206, .aload_n 0, 207, 0, 0, 0, []), (207, .getfield 28, 210, 12, 0, 0, [8, 2]), (210, .iload_n 1, 211, 1, 0, 0, []), (211, .iconst 2, 212, 0, 2, 0, []), (212, .isub, 213, 0, 0, 0, []), (213, .iaload, 214, 0, 0, 0, []),
  (214, .ireturn, 215, 0, 0, 0, []), (215, .aload_n 0, 216, 0, 0, 0, []), (216, .getfield 136, 219, 12, 0, 0, [9, 0]), (219, .ireturn, 220, 0, 0, 0, []), (220, .aload_n 0, 221, 0, 0, 0, []), (221, .getfield 28, 224, 12, 0, 0, [8, 2]),
  (224, .iconst 3, 225, 0, 3, 0, []), (225, .iaload, 226, 0, 0, 0, []), (226, .ireturn, 227, 0, 0, 0, []), (227, .iload_n 2, 228, 2, 0, 0, []), (228, .ireturn, 229, 0, 0, 0, [])])
-- 236 DoorSoldModel.finding()I
def mx_236 : Mx := (⟨"DoorSoldModel", "finding", "()I"⟩, prog_14_method_91_code, 1, (Option.some FieldType.int), [
  (0, .aload_n 0, 1, 0, 0, 0, []), (1, .getfield 63, 4, 12, 0, 0, [16, 0]), (4, .ireturn, 5, 0, 0, 0, [])])
-- 237 DoorSoldModel.findings(I)I
def mx_237 : Mx := (⟨"DoorSoldModel", "findings", "(I)I"⟩, prog_14_method_92_code, 2, (Option.some FieldType.int), [
  (0, .iload_n 1, 1, 1, 0, 0, []), (1, .i2l, 2, 0, 0, 0, []), (2, .lconst 1, 3, 0, 0, 1, []), (3, .ldc2_w 70, 6, 0, 0, 5, []), (6, .invokestatic 72, 9, 150, 0, 0, [0, 3]), (9, .ifCond .eq 12, 12, 21, 0, 0, []),
  (12, .aload_n 0, 13, 0, 0, 0, []), (13, .getfield 45, 16, 12, 0, 0, [17, 2]), (16, .iload_n 1, 17, 1, 0, 0, []), (17, .iaload, 18, 0, 0, 0, []), (18, .goto 4, 21, 22, 0, 0, []), (21, .iconst (-1), 22, 0, (-1), 0, []),
  (22, .ireturn, 23, 0, 0, 0, [])])
-- 238 DoorSoldModel.digest()J
def mx_238 : Mx := (⟨"DoorSoldModel", "digest", "()J"⟩, prog_14_method_93_code, 5, (Option.some FieldType.long), [
  (0, .ldc2_w 287, 3, 0, 0, 17, []), (3, .lstore_n 1, 4, 1, 0, 0, []), (4, .iconst 0, 5, 0, 0, 0, []), (5, .istore_n 3, 6, 3, 0, 0, []), (6, .iload_n 3, 7, 3, 0, 0, []), (7, .bipush 11, 9, 0, 11, 0, []),
  (9, .if_icmp .ge 22, 12, 31, 0, 0, []), (12, .ldc2_w 289, 15, 0, 0, 31, []), (15, .lload_n 1, 16, 1, 0, 0, []), (16, .lmul, 17, 0, 0, 0, []), (17, .aload_n 0, 18, 0, 0, 0, []), (18, .iload_n 3, 19, 3, 0, 0, []),
  (19, .invokevirtual 284, 22, 0, 0, 0, [1, 12, 235]), (22, .i2l, 23, 0, 0, 0, []), (23, .ladd, 24, 0, 0, 0, []), (24, .lstore_n 1, 25, 1, 0, 0, []), (25, .iinc 3 1, 28, 3, 1, 0, []), (28, .goto (-22), 31, 6, 0, 0, []),
  (31, .iconst 0, 32, 0, 0, 0, []), (32, .istore_n 3, 33, 3, 0, 0, []), (33, .iload_n 3, 34, 3, 0, 0, []), (34, .aload_n 0, 35, 0, 0, 0, []), (35, .getfield 130, 38, 12, 0, 0, [4, 0]), (38, .if_icmp .ge 40, 41, 78, 0, 0, []),
  (41, .iconst 0, 42, 0, 0, 0, []), (42, .istore 4, 44, 4, 0, 0, []), (44, .iload 4, 46, 4, 0, 0, []), (46, .bipush 8, 48, 0, 8, 0, []), (48, .if_icmp .ge 24, 51, 72, 0, 0, []), (51, .ldc2_w 289, 54, 0, 0, 31, []),
  (54, .lload_n 1, 55, 1, 0, 0, []), (55, .lmul, 56, 0, 0, 0, []), (56, .aload_n 0, 57, 0, 0, 0, []), (57, .iload_n 3, 58, 3, 0, 0, []), (58, .iload 4, 60, 4, 0, 0, []), (60, .invokevirtual 175, 63, 0, 0, 0, [2, 12, 172]),
  (63, .i2l, 64, 0, 0, 0, []), (64, .ladd, 65, 0, 0, 0, []), (65, .lstore_n 1, 66, 1, 0, 0, []), (66, .iinc 4 1, 69, 4, 1, 0, []), (69, .goto (-25), 72, 44, 0, 0, []), (72, .iinc 3 1, 75, 3, 1, 0, []),
  (75, .goto (-42), 78, 33, 0, 0, []), (78, .iconst 0, 79, 0, 0, 0, []), (79, .istore_n 3, 80, 3, 0, 0, []), (80, .iload_n 3, 81, 3, 0, 0, []), (81, .iconst 3, 82, 0, 3, 0, []), (82, .if_icmp .ge 44, 85, 126, 0, 0, []),
  (85, .ldc2_w 289, 88, 0, 0, 31, []), (88, .lload_n 1, 89, 1, 0, 0, []), (89, .lmul, 90, 0, 0, 0, []), (90, .aload_n 0, 91, 0, 0, 0, []), (91, .getfield 37, 94, 12, 0, 0, [12, 2]), (94, .iload_n 3, 95, 3, 0, 0, []),
  (95, .baload, 96, 0, 0, 0, []), (96, .ifCond .eq 20, 99, 116, 0, 0, []), (99, .aload_n 0, 100, 0, 0, 0, []), (100, .getfield 34, 103, 12, 0, 0, [11, 2]), (103, .sipush 657, 106, 0, 657, 0, []), (106, .iload_n 3, 107, 3, 0, 0, []),
  (107, .imul, 108, 0, 0, 0, []), (108, .sipush 656, 111, 0, 656, 0, []), (111, .iadd, 112, 0, 0, 0, []), (112, .iaload, 113, 0, 0, 0, []), (113, .goto 4, 116, 117, 0, 0, []), (116, .iconst (-1), 117, 0, (-1), 0, []),
  (117, .i2l, 118, 0, 0, 0, []), (118, .ladd, 119, 0, 0, 0, []), (119, .lstore_n 1, 120, 1, 0, 0, []), (120, .iinc 3 1, 123, 3, 1, 0, []), (123, .goto (-43), 126, 80, 0, 0, []), (126, .iconst 0, 127, 0, 0, 0, []),
  (127, .istore_n 3, 128, 3, 0, 0, []), (128, .iload_n 3, 129, 3, 0, 0, []), (129, .bipush 6, 131, 0, 6, 0, []), (131, .if_icmp .ge 63, 134, 194, 0, 0, []), (134, .ldc2_w 289, 137, 0, 0, 31, []), (137, .lload_n 1, 138, 1, 0, 0, []),
  (138, .lmul, 139, 0, 0, 0, []), (139, .aload_n 0, 140, 0, 0, 0, []), (140, .getfield 7, 143, 12, 0, 0, [0, 2]), (143, .iload_n 3, 144, 3, 0, 0, []), (144, .iaload, 145, 0, 0, 0, []), (145, .i2l, 146, 0, 0, 0, []),
  (146, .ladd, 147, 0, 0, 0, []), (147, .lstore_n 1, 148, 1, 0, 0, []), (148, .iconst 0, 149, 0, 0, 0, []), (149, .istore 4, 151, 4, 0, 0, []), (151, .iload 4, 153, 4, 0, 0, []), (153, .aload_n 0, 154, 0, 0, 0, []),
  (154, .getfield 7, 157, 12, 0, 0, [0, 2]), (157, .iload_n 3, 158, 3, 0, 0, []), (158, .iaload, 159, 0, 0, 0, []), (159, .if_icmp .ge 29, 162, 188, 0, 0, []), (162, .ldc2_w 289, 165, 0, 0, 31, []), (165, .lload_n 1, 166, 1, 0, 0, []),
  (166, .lmul, 167, 0, 0, 0, []), (167, .aload_n 0, 168, 0, 0, 0, []), (168, .getfield 13, 171, 12, 0, 0, [1, 2]), (171, .bipush 40, 173, 0, 40, 0, []), (173, .iload_n 3, 174, 3, 0, 0, []), (174, .imul, 175, 0, 0, 0, []),
  (175, .iload 4, 177, 4, 0, 0, []), (177, .iadd, 178, 0, 0, 0, []), (178, .iaload, 179, 0, 0, 0, []), (179, .i2l, 180, 0, 0, 0, []), (180, .ladd, 181, 0, 0, 0, []), (181, .lstore_n 1, 182, 1, 0, 0, []),
  (182, .iinc 4 1, 185, 4, 1, 0, []), (185, .goto (-34), 188, 151, 0, 0, []), (188, .iinc 3 1, 191, 3, 1, 0, []), (191, .goto (-63), 194, 128, 0, 0, []), (194, .iconst 0, 195, 0, 0, 0, []), (195, .istore_n 3, 196, 3, 0, 0, []),
  (196, .iload_n 3, 197, 3, 0, 0, []), (197, .iconst 4, 198, 0, 4, 0, []), (198, .if_icmp .ge 63, 201, 261, 0, 0, []), (201, .ldc2_w 289, 204, 0, 0, 31, []), (204, .lload_n 1, 205, 1, 0, 0, []), (205, .lmul, 206, 0, 0, 0, []),
  (206, .aload_n 0, 207, 0, 0, 0, []), (207, .getfield 16, 210, 12, 0, 0, [2, 2]), (210, .iload_n 3, 211, 3, 0, 0, []), (211, .iaload, 212, 0, 0, 0, []), (212, .i2l, 213, 0, 0, 0, []), (213, .ladd, 214, 0, 0, 0, []),
  (214, .lstore_n 1, 215, 1, 0, 0, []), (215, .iconst 0, 216, 0, 0, 0, []), (216, .istore 4, 218, 4, 0, 0, []), (218, .iload 4, 220, 4, 0, 0, []), (220, .aload_n 0, 221, 0, 0, 0, []), (221, .getfield 16, 224, 12, 0, 0, [2, 2]),
  (224, .iload_n 3, 225, 3, 0, 0, []), (225, .iaload, 226, 0, 0, 0, []), (226, .if_icmp .ge 29, 229, 255, 0, 0, []), (229, .ldc2_w 289, 232, 0, 0, 31, []), (232, .lload_n 1, 233, 1, 0, 0, []), (233, .lmul, 234, 0, 0, 0, []),
  (234, .aload_n 0, 235, 0, 0, 0, []), (235, .getfield 19, 238, 12, 0, 0, [3, 2]), (238, .bipush 60, 240, 0, 60, 0, []), (240, .iload_n 3, 241, 3, 0, 0, []), (241, .imul, 242, 0, 0, 0, []), (242, .iload 4, 244, 4, 0, 0, []),
  (244, .iadd, 245, 0, 0, 0, []), (245, .iaload, 246, 0, 0, 0, []), (246, .i2l, 247, 0, 0, 0, []), (247, .ladd, 248, 0, 0, 0, []), (248, .lstore_n 1, 249, 1, 0, 0, []), (249, .iinc 4 1, 252, 4, 1, 0, []),
  (252, .goto (-34), 255, 218, 0, 0, []), (255, .iinc 3 1, 258, 3, 1, 0, []), (258, .goto (-62), 261, 196, 0, 0, []), (261, .lload_n 1, 262, 1, 0, 0, []), (262, .lreturn, 263, 0, 0, 0, [])])
-- 239 DoorSoldLaw.law([I)Z
def mx_239 : Mx := (⟨"DoorSoldLaw", "law", "([I)Z"⟩, code, 4, (Option.some FieldType.boolean), [
  (0, .new 7, 3, 11, 0, 0, []), (3, .dup, 4, 0, 0, 0, []), (4, .invokespecial 9, 7, 0, 0, 0, [2, 0]), (7, .astore_n 1, 8, 1, 0, 0, []), (8, .new 10, 11, 12, 0, 0, []), (11, .dup, 12, 0, 0, 0, []),
  (12, .invokespecial 12, 15, 147, 0, 0, [2, 0]), (15, .astore_n 2, 16, 2, 0, 0, []), (16, .iconst 0, 17, 0, 0, 0, []), (17, .istore_n 3, 18, 3, 0, 0, []), (18, .iload_n 3, 19, 3, 0, 0, []), (19, .aload_n 0, 20, 0, 0, 0, []),
  (20, .arraylength, 21, 1, 0, 0, []), (21, .bipush 6, 23, 0, 6, 0, []), (23, .isub, 24, 0, 0, 0, []), (24, .if_icmp .gt 1337, 27, 1361, 0, 0, []), (27, .aload_n 0, 28, 0, 0, 0, []), (28, .iload_n 3, 29, 3, 0, 0, []),
  (29, .iaload, 30, 0, 0, 0, []), (30, .bipush 63, 32, 0, 63, 0, []), (32, .iand, 33, 0, 0, 0, []), (33, .tableswitch 1322 0 41 #[183, 216, 259, 292, 315, 378, 401, 434, 477, 500, 523, 556, 589, 602, 615, 638, 661, 684, 707, 730, 753, 776, 799, 822, 855, 888, 921, 954, 987, 1020, 1043, 1056, 1099, 1142, 1175, 1208, 1221, 1235, 1249, 1272, 1285, 1308], 216, 1355, 0, 0, [216, 249, 292, 325, 348, 411, 434, 467, 510, 533, 556, 589, 622, 635, 648, 671, 694, 717, 740, 763, 786, 809, 832, 855, 888, 921, 954, 987, 1020, 1053, 1076, 1089, 1132, 1175, 1208, 1241, 1254, 1268, 1282, 1305, 1318, 1341]), (216, .aload_n 1, 217, 1, 0, 0, []), (217, .aload_n 0, 218, 0, 0, 0, []),
  (218, .iload_n 3, 219, 3, 0, 0, []), (219, .iconst 1, 220, 0, 1, 0, []), (220, .iadd, 221, 0, 0, 0, []), (221, .iaload, 222, 0, 0, 0, []), (222, .aload_n 0, 223, 0, 0, 0, []), (223, .iload_n 3, 224, 3, 0, 0, []),
  (224, .iconst 2, 225, 0, 2, 0, []), (225, .iadd, 226, 0, 0, 0, []), (226, .iaload, 227, 0, 0, 0, []), (227, .invokevirtual 13, 230, 0, 0, 0, [2, 11, 13]), (230, .aload_n 2, 231, 2, 0, 0, []), (231, .aload_n 0, 232, 0, 0, 0, []),
  (232, .iload_n 3, 233, 3, 0, 0, []), (233, .iconst 1, 234, 0, 1, 0, []), (234, .iadd, 235, 0, 0, 0, []), (235, .iaload, 236, 0, 0, 0, []), (236, .aload_n 0, 237, 0, 0, 0, []), (237, .iload_n 3, 238, 3, 0, 0, []),
  (238, .iconst 2, 239, 0, 2, 0, []), (239, .iadd, 240, 0, 0, 0, []), (240, .iaload, 241, 0, 0, 0, []), (241, .invokevirtual 17, 244, 0, 0, 0, [2, 12, 148]), (244, .if_icmp .eq 1111, 247, 1355, 0, 0, []), (247, .iconst 0, 248, 0, 0, 0, []),
  (248, .ireturn, 249, 1, 0, 0, []), (249, .aload_n 1, 250, 1, 0, 0, []), (250, .aload_n 0, 251, 0, 0, 0, []), (251, .iload_n 3, 252, 3, 0, 0, []), (252, .iconst 1, 253, 0, 1, 0, []), (253, .iadd, 254, 0, 0, 0, []),
  (254, .iaload, 255, 0, 0, 0, []), (255, .aload_n 0, 256, 0, 0, 0, []), (256, .iload_n 3, 257, 3, 0, 0, []), (257, .iconst 2, 258, 0, 2, 0, []), (258, .iadd, 259, 0, 0, 0, []), (259, .iaload, 260, 0, 0, 0, []),
  (260, .aload_n 0, 261, 0, 0, 0, []), (261, .iload_n 3, 262, 3, 0, 0, []), (262, .iconst 3, 263, 0, 3, 0, []), (263, .iadd, 264, 0, 0, 0, []), (264, .iaload, 265, 0, 0, 0, []), (265, .invokevirtual 18, 268, 0, 0, 0, [3, 11, 18]),
  (268, .aload_n 2, 269, 2, 0, 0, []), (269, .aload_n 0, 270, 0, 0, 0, []), (270, .iload_n 3, 271, 3, 0, 0, []), (271, .iconst 1, 272, 0, 1, 0, []), (272, .iadd, 273, 0, 0, 0, []), (273, .iaload, 274, 0, 0, 0, []),
  (274, .aload_n 0, 275, 0, 0, 0, []), (275, .iload_n 3, 276, 3, 0, 0, []), (276, .iconst 2, 277, 0, 2, 0, []), (277, .iadd, 278, 0, 0, 0, []), (278, .iaload, 279, 0, 0, 0, []), (279, .aload_n 0, 280, 0, 0, 0, []),
  (280, .iload_n 3, 281, 3, 0, 0, []), (281, .iconst 3, 282, 0, 3, 0, []), (282, .iadd, 283, 0, 0, 0, []), (283, .iaload, 284, 0, 0, 0, []), (284, .invokevirtual 22, 287, 0, 0, 0, [3, 12, 152]), (287, .if_icmp .eq 1068, 290, 1355, 0, 0, []),
  (290, .iconst 0, 291, 0, 0, 0, []), (291, .ireturn, 292, 1, 0, 0, []), (292, .aload_n 1, 293, 1, 0, 0, []), (293, .aload_n 0, 294, 0, 0, 0, []), (294, .iload_n 3, 295, 3, 0, 0, []), (295, .iconst 1, 296, 0, 1, 0, []),
  (296, .iadd, 297, 0, 0, 0, []), (297, .iaload, 298, 0, 0, 0, []), (298, .aload_n 0, 299, 0, 0, 0, []), (299, .iload_n 3, 300, 3, 0, 0, []), (300, .iconst 2, 301, 0, 2, 0, []), (301, .iadd, 302, 0, 0, 0, []),
  (302, .iaload, 303, 0, 0, 0, []), (303, .invokevirtual 23, 306, 0, 0, 0, [2, 11, 22]), (306, .aload_n 2, 307, 2, 0, 0, []), (307, .aload_n 0, 308, 0, 0, 0, []), (308, .iload_n 3, 309, 3, 0, 0, []), (309, .iconst 1, 310, 0, 1, 0, []),
  (310, .iadd, 311, 0, 0, 0, []), (311, .iaload, 312, 0, 0, 0, []), (312, .aload_n 0, 313, 0, 0, 0, []), (313, .iload_n 3, 314, 3, 0, 0, []), (314, .iconst 2, 315, 0, 2, 0, []), (315, .iadd, 316, 0, 0, 0, []),
  (316, .iaload, 317, 0, 0, 0, []), (317, .invokevirtual 26, 320, 0, 0, 0, [2, 12, 154]), (320, .if_icmp .eq 1035, 323, 1355, 0, 0, []), (323, .iconst 0, 324, 0, 0, 0, []), (324, .ireturn, 325, 1, 0, 0, []), (325, .aload_n 1, 326, 1, 0, 0, []),
  (326, .aload_n 0, 327, 0, 0, 0, []), (327, .iload_n 3, 328, 3, 0, 0, []), (328, .iconst 1, 329, 0, 1, 0, []), (329, .iadd, 330, 0, 0, 0, []), (330, .iaload, 331, 0, 0, 0, []), (331, .invokevirtual 27, 334, 0, 0, 0, [1, 11, 23]),
  (334, .aload_n 2, 335, 2, 0, 0, []), (335, .aload_n 0, 336, 0, 0, 0, []), (336, .iload_n 3, 337, 3, 0, 0, []), (337, .iconst 1, 338, 0, 1, 0, []), (338, .iadd, 339, 0, 0, 0, []), (339, .iaload, 340, 0, 0, 0, []),
  (340, .invokevirtual 31, 343, 0, 0, 0, [1, 12, 155]), (343, .if_icmp .eq 1012, 346, 1355, 0, 0, []), (346, .iconst 0, 347, 0, 0, 0, []), (347, .ireturn, 348, 1, 0, 0, []), (348, .aload_n 1, 349, 1, 0, 0, []), (349, .aload_n 0, 350, 0, 0, 0, []),
  (350, .iload_n 3, 351, 3, 0, 0, []), (351, .iconst 1, 352, 0, 1, 0, []), (352, .iadd, 353, 0, 0, 0, []), (353, .iaload, 354, 0, 0, 0, []), (354, .aload_n 0, 355, 0, 0, 0, []), (355, .iload_n 3, 356, 3, 0, 0, []),
  (356, .iconst 2, 357, 0, 2, 0, []), (357, .iadd, 358, 0, 0, 0, []), (358, .iaload, 359, 0, 0, 0, []), (359, .aload_n 0, 360, 0, 0, 0, []), (360, .iload_n 3, 361, 3, 0, 0, []), (361, .iconst 3, 362, 0, 3, 0, []),
  (362, .iadd, 363, 0, 0, 0, []), (363, .iaload, 364, 0, 0, 0, []), (364, .aload_n 0, 365, 0, 0, 0, []), (365, .iload_n 3, 366, 3, 0, 0, []), (366, .iconst 4, 367, 0, 4, 0, []), (367, .iadd, 368, 0, 0, 0, []),
  (368, .iaload, 369, 0, 0, 0, []), (369, .aload_n 0, 370, 0, 0, 0, []), (370, .iload_n 3, 371, 3, 0, 0, []), (371, .iconst 5, 372, 0, 5, 0, []), (372, .iadd, 373, 0, 0, 0, []), (373, .iaload, 374, 0, 0, 0, []),
  (374, .invokevirtual 32, 377, 0, 0, 0, [5, 11, 24]), (377, .aload_n 2, 378, 2, 0, 0, []), (378, .aload_n 0, 379, 0, 0, 0, []), (379, .iload_n 3, 380, 3, 0, 0, []), (380, .iconst 1, 381, 0, 1, 0, []), (381, .iadd, 382, 0, 0, 0, []),
  (382, .iaload, 383, 0, 0, 0, []), (383, .aload_n 0, 384, 0, 0, 0, []), (384, .iload_n 3, 385, 3, 0, 0, []), (385, .iconst 2, 386, 0, 2, 0, []), (386, .iadd, 387, 0, 0, 0, []), (387, .iaload, 388, 0, 0, 0, []),
  (388, .aload_n 0, 389, 0, 0, 0, []), (389, .iload_n 3, 390, 3, 0, 0, []), (390, .iconst 3, 391, 0, 3, 0, []), (391, .iadd, 392, 0, 0, 0, []), (392, .iaload, 393, 0, 0, 0, []), (393, .aload_n 0, 394, 0, 0, 0, []),
  (394, .iload_n 3, 395, 3, 0, 0, []), (395, .iconst 4, 396, 0, 4, 0, []), (396, .iadd, 397, 0, 0, 0, []), (397, .iaload, 398, 0, 0, 0, []), (398, .aload_n 0, 399, 0, 0, 0, []), (399, .iload_n 3, 400, 3, 0, 0, []),
  (400, .iconst 5, 401, 0, 5, 0, []), (401, .iadd, 402, 0, 0, 0, []), (402, .iaload, 403, 0, 0, 0, []), (403, .invokevirtual 36, 406, 0, 0, 0, [5, 12, 156]), (406, .if_icmp .eq 949, 409, 1355, 0, 0, []), (409, .iconst 0, 410, 0, 0, 0, []),
  (410, .ireturn, 411, 1, 0, 0, []), (411, .aload_n 1, 412, 1, 0, 0, []), (412, .aload_n 0, 413, 0, 0, 0, []), (413, .iload_n 3, 414, 3, 0, 0, []), (414, .iconst 1, 415, 0, 1, 0, []), (415, .iadd, 416, 0, 0, 0, []),
  (416, .iaload, 417, 0, 0, 0, []), (417, .invokevirtual 37, 420, 0, 0, 0, [1, 11, 25]), (420, .aload_n 2, 421, 2, 0, 0, []), (421, .aload_n 0, 422, 0, 0, 0, []), (422, .iload_n 3, 423, 3, 0, 0, []), (423, .iconst 1, 424, 0, 1, 0, []),
  (424, .iadd, 425, 0, 0, 0, []), (425, .iaload, 426, 0, 0, 0, []), (426, .invokevirtual 40, 429, 0, 0, 0, [1, 12, 157]), (429, .if_icmp .eq 926, 432, 1355, 0, 0, []), (432, .iconst 0, 433, 0, 0, 0, []), (433, .ireturn, 434, 1, 0, 0, []),
  (434, .aload_n 1, 435, 1, 0, 0, []), (435, .aload_n 0, 436, 0, 0, 0, []), (436, .iload_n 3, 437, 3, 0, 0, []), (437, .iconst 1, 438, 0, 1, 0, []), (438, .iadd, 439, 0, 0, 0, []), (439, .iaload, 440, 0, 0, 0, []),
  (440, .aload_n 0, 441, 0, 0, 0, []), (441, .iload_n 3, 442, 3, 0, 0, []), (442, .iconst 2, 443, 0, 2, 0, []), (443, .iadd, 444, 0, 0, 0, []), (444, .iaload, 445, 0, 0, 0, []), (445, .invokevirtual 41, 448, 0, 0, 0, [2, 11, 27]),
  (448, .aload_n 2, 449, 2, 0, 0, []), (449, .aload_n 0, 450, 0, 0, 0, []), (450, .iload_n 3, 451, 3, 0, 0, []), (451, .iconst 1, 452, 0, 1, 0, []), (452, .iadd, 453, 0, 0, 0, []), (453, .iaload, 454, 0, 0, 0, []),
  (454, .aload_n 0, 455, 0, 0, 0, []), (455, .iload_n 3, 456, 3, 0, 0, []), (456, .iconst 2, 457, 0, 2, 0, []), (457, .iadd, 458, 0, 0, 0, []), (458, .iaload, 459, 0, 0, 0, []), (459, .invokevirtual 44, 462, 0, 0, 0, [2, 12, 158]),
  (462, .if_icmp .eq 893, 465, 1355, 0, 0, []), (465, .iconst 0, 466, 0, 0, 0, []), (466, .ireturn, 467, 1, 0, 0, []), (467, .aload_n 1, 468, 1, 0, 0, []), (468, .aload_n 0, 469, 0, 0, 0, []), (469, .iload_n 3, 470, 3, 0, 0, []),
  (470, .iconst 1, 471, 0, 1, 0, []), (471, .iadd, 472, 0, 0, 0, []), (472, .iaload, 473, 0, 0, 0, []), (473, .aload_n 0, 474, 0, 0, 0, []), (474, .iload_n 3, 475, 3, 0, 0, []), (475, .iconst 2, 476, 0, 2, 0, []),
  (476, .iadd, 477, 0, 0, 0, []), (477, .iaload, 478, 0, 0, 0, []), (478, .aload_n 0, 479, 0, 0, 0, []), (479, .iload_n 3, 480, 3, 0, 0, []), (480, .iconst 3, 481, 0, 3, 0, []), (481, .iadd, 482, 0, 0, 0, []),
  (482, .iaload, 483, 0, 0, 0, []), (483, .invokevirtual 45, 486, 0, 0, 0, [3, 11, 29]), (486, .aload_n 2, 487, 2, 0, 0, []), (487, .aload_n 0, 488, 0, 0, 0, []), (488, .iload_n 3, 489, 3, 0, 0, []), (489, .iconst 1, 490, 0, 1, 0, []),
  (490, .iadd, 491, 0, 0, 0, []), (491, .iaload, 492, 0, 0, 0, []), (492, .aload_n 0, 493, 0, 0, 0, []), (493, .iload_n 3, 494, 3, 0, 0, []), (494, .iconst 2, 495, 0, 2, 0, []), (495, .iadd, 496, 0, 0, 0, []),
  (496, .iaload, 497, 0, 0, 0, []), (497, .aload_n 0, 498, 0, 0, 0, []), (498, .iload_n 3, 499, 3, 0, 0, []), (499, .iconst 3, 500, 0, 3, 0, []), (500, .iadd, 501, 0, 0, 0, []), (501, .iaload, 502, 0, 0, 0, []),
  (502, .invokevirtual 48, 505, 0, 0, 0, [3, 12, 160]), (505, .if_icmp .eq 850, 508, 1355, 0, 0, []), (508, .iconst 0, 509, 0, 0, 0, []), (509, .ireturn, 510, 1, 0, 0, []), (510, .aload_n 1, 511, 1, 0, 0, []), (511, .aload_n 0, 512, 0, 0, 0, []),
  (512, .iload_n 3, 513, 3, 0, 0, []), (513, .iconst 1, 514, 0, 1, 0, []), (514, .iadd, 515, 0, 0, 0, []), (515, .iaload, 516, 0, 0, 0, []), (516, .invokevirtual 49, 519, 0, 0, 0, [1, 11, 30]), (519, .aload_n 2, 520, 2, 0, 0, []),
  (520, .aload_n 0, 521, 0, 0, 0, []), (521, .iload_n 3, 522, 3, 0, 0, []), (522, .iconst 1, 523, 0, 1, 0, []), (523, .iadd, 524, 0, 0, 0, []), (524, .iaload, 525, 0, 0, 0, []), (525, .invokevirtual 52, 528, 0, 0, 0, [1, 12, 161]),
  (528, .if_icmp .eq 827, 531, 1355, 0, 0, []), (531, .iconst 0, 532, 0, 0, 0, []), (532, .ireturn, 533, 1, 0, 0, []), (533, .aload_n 1, 534, 1, 0, 0, []), (534, .aload_n 0, 535, 0, 0, 0, []), (535, .iload_n 3, 536, 3, 0, 0, []),
  (536, .iconst 1, 537, 0, 1, 0, []), (537, .iadd, 538, 0, 0, 0, []), (538, .iaload, 539, 0, 0, 0, []), (539, .invokevirtual 53, 542, 0, 0, 0, [1, 11, 40]), (542, .aload_n 2, 543, 2, 0, 0, []), (543, .aload_n 0, 544, 0, 0, 0, []),
  (544, .iload_n 3, 545, 3, 0, 0, []), (545, .iconst 1, 546, 0, 1, 0, []), (546, .iadd, 547, 0, 0, 0, []), (547, .iaload, 548, 0, 0, 0, []), (548, .invokevirtual 56, 551, 0, 0, 0, [1, 12, 169]), (551, .if_icmp .eq 804, 554, 1355, 0, 0, []),
  (554, .iconst 0, 555, 0, 0, 0, []), (555, .ireturn, 556, 1, 0, 0, []), (556, .aload_n 1, 557, 1, 0, 0, []), (557, .aload_n 0, 558, 0, 0, 0, []), (558, .iload_n 3, 559, 3, 0, 0, []), (559, .iconst 1, 560, 0, 1, 0, []),
  (560, .iadd, 561, 0, 0, 0, []), (561, .iaload, 562, 0, 0, 0, []), (562, .aload_n 0, 563, 0, 0, 0, []), (563, .iload_n 3, 564, 3, 0, 0, []), (564, .iconst 2, 565, 0, 2, 0, []), (565, .iadd, 566, 0, 0, 0, []),
  (566, .iaload, 567, 0, 0, 0, []), (567, .invokevirtual 57, 570, 0, 0, 0, [2, 11, 42]), (570, .aload_n 2, 571, 2, 0, 0, []), (571, .aload_n 0, 572, 0, 0, 0, []), (572, .iload_n 3, 573, 3, 0, 0, []), (573, .iconst 1, 574, 0, 1, 0, []),
  (574, .iadd, 575, 0, 0, 0, []), (575, .iaload, 576, 0, 0, 0, []), (576, .aload_n 0, 577, 0, 0, 0, []), (577, .iload_n 3, 578, 3, 0, 0, []), (578, .iconst 2, 579, 0, 2, 0, []), (579, .iadd, 580, 0, 0, 0, []),
  (580, .iaload, 581, 0, 0, 0, []), (581, .invokevirtual 60, 584, 0, 0, 0, [2, 12, 170]), (584, .if_icmp .eq 771, 587, 1355, 0, 0, []), (587, .iconst 0, 588, 0, 0, 0, []), (588, .ireturn, 589, 1, 0, 0, []), (589, .aload_n 1, 590, 1, 0, 0, []),
  (590, .aload_n 0, 591, 0, 0, 0, []), (591, .iload_n 3, 592, 3, 0, 0, []), (592, .iconst 1, 593, 0, 1, 0, []), (593, .iadd, 594, 0, 0, 0, []), (594, .iaload, 595, 0, 0, 0, []), (595, .aload_n 0, 596, 0, 0, 0, []),
  (596, .iload_n 3, 597, 3, 0, 0, []), (597, .iconst 2, 598, 0, 2, 0, []), (598, .iadd, 599, 0, 0, 0, []), (599, .iaload, 600, 0, 0, 0, []), (600, .invokevirtual 61, 603, 0, 0, 0, [2, 11, 67]), (603, .aload_n 2, 604, 2, 0, 0, []),
  (604, .aload_n 0, 605, 0, 0, 0, []), (605, .iload_n 3, 606, 3, 0, 0, []), (606, .iconst 1, 607, 0, 1, 0, []), (607, .iadd, 608, 0, 0, 0, []), (608, .iaload, 609, 0, 0, 0, []), (609, .aload_n 0, 610, 0, 0, 0, []),
  (610, .iload_n 3, 611, 3, 0, 0, []), (611, .iconst 2, 612, 0, 2, 0, []), (612, .iadd, 613, 0, 0, 0, []), (613, .iaload, 614, 0, 0, 0, []), (614, .invokevirtual 64, 617, 0, 0, 0, [2, 12, 181]), (617, .if_icmp .eq 738, 620, 1355, 0, 0, []),
  (620, .iconst 0, 621, 0, 0, 0, []), (621, .ireturn, 622, 1, 0, 0, []), (622, .aload_n 1, 623, 1, 0, 0, []), (623, .invokevirtual 65, 626, 0, 0, 0, [0, 11, 73]), (626, .aload_n 2, 627, 2, 0, 0, []), (627, .invokevirtual 69, 630, 0, 0, 0, [0, 12, 187]),
  (630, .if_icmp .eq 725, 633, 1355, 0, 0, []), (633, .iconst 0, 634, 0, 0, 0, []), (634, .ireturn, 635, 1, 0, 0, []), (635, .aload_n 1, 636, 1, 0, 0, []), (636, .invokevirtual 70, 639, 0, 0, 0, [0, 11, 78]), (639, .aload_n 2, 640, 2, 0, 0, []),
  (640, .invokevirtual 73, 643, 0, 0, 0, [0, 12, 192]), (643, .if_icmp .eq 712, 646, 1355, 0, 0, []), (646, .iconst 0, 647, 0, 0, 0, []), (647, .ireturn, 648, 1, 0, 0, []), (648, .aload_n 1, 649, 1, 0, 0, []), (649, .aload_n 0, 650, 0, 0, 0, []),
  (650, .iload_n 3, 651, 3, 0, 0, []), (651, .iconst 1, 652, 0, 1, 0, []), (652, .iadd, 653, 0, 0, 0, []), (653, .iaload, 654, 0, 0, 0, []), (654, .invokevirtual 74, 657, 0, 0, 0, [1, 11, 79]), (657, .aload_n 2, 658, 2, 0, 0, []),
  (658, .aload_n 0, 659, 0, 0, 0, []), (659, .iload_n 3, 660, 3, 0, 0, []), (660, .iconst 1, 661, 0, 1, 0, []), (661, .iadd, 662, 0, 0, 0, []), (662, .iaload, 663, 0, 0, 0, []), (663, .invokevirtual 77, 666, 0, 0, 0, [1, 12, 194]),
  (666, .if_icmp .eq 689, 669, 1355, 0, 0, []), (669, .iconst 0, 670, 0, 0, 0, []), (670, .ireturn, 671, 1, 0, 0, []), (671, .aload_n 1, 672, 1, 0, 0, []), (672, .aload_n 0, 673, 0, 0, 0, []), (673, .iload_n 3, 674, 3, 0, 0, []),
  (674, .iconst 1, 675, 0, 1, 0, []), (675, .iadd, 676, 0, 0, 0, []), (676, .iaload, 677, 0, 0, 0, []), (677, .invokevirtual 78, 680, 0, 0, 0, [1, 11, 81]), (680, .aload_n 2, 681, 2, 0, 0, []), (681, .aload_n 0, 682, 0, 0, 0, []),
  (682, .iload_n 3, 683, 3, 0, 0, []), (683, .iconst 1, 684, 0, 1, 0, []), (684, .iadd, 685, 0, 0, 0, []), (685, .iaload, 686, 0, 0, 0, []), (686, .invokevirtual 81, 689, 0, 0, 0, [1, 12, 197]), (689, .if_icmp .eq 666, 692, 1355, 0, 0, []),
  (692, .iconst 0, 693, 0, 0, 0, []), (693, .ireturn, 694, 1, 0, 0, []), (694, .aload_n 1, 695, 1, 0, 0, []), (695, .aload_n 0, 696, 0, 0, 0, []), (696, .iload_n 3, 697, 3, 0, 0, []), (697, .iconst 1, 698, 0, 1, 0, []),
  (698, .iadd, 699, 0, 0, 0, []), (699, .iaload, 700, 0, 0, 0, []), (700, .invokevirtual 82, 703, 0, 0, 0, [1, 11, 82]), (703, .aload_n 2, 704, 2, 0, 0, []), (704, .aload_n 0, 705, 0, 0, 0, []), (705, .iload_n 3, 706, 3, 0, 0, []),
  (706, .iconst 1, 707, 0, 1, 0, []), (707, .iadd, 708, 0, 0, 0, []), (708, .iaload, 709, 0, 0, 0, []), (709, .invokevirtual 85, 712, 0, 0, 0, [1, 12, 198]), (712, .if_icmp .eq 643, 715, 1355, 0, 0, []), (715, .iconst 0, 716, 0, 0, 0, []),
  (716, .ireturn, 717, 1, 0, 0, []), (717, .aload_n 1, 718, 1, 0, 0, []), (718, .aload_n 0, 719, 0, 0, 0, []), (719, .iload_n 3, 720, 3, 0, 0, []), (720, .iconst 1, 721, 0, 1, 0, []), (721, .iadd, 722, 0, 0, 0, []),
  (722, .iaload, 723, 0, 0, 0, []), (723, .invokevirtual 86, 726, 0, 0, 0, [1, 11, 83]), (726, .aload_n 2, 727, 2, 0, 0, []), (727, .aload_n 0, 728, 0, 0, 0, []), (728, .iload_n 3, 729, 3, 0, 0, []), (729, .iconst 1, 730, 0, 1, 0, []),
  (730, .iadd, 731, 0, 0, 0, []), (731, .iaload, 732, 0, 0, 0, []), (732, .invokevirtual 89, 735, 0, 0, 0, [1, 12, 199]), (735, .if_icmp .eq 620, 738, 1355, 0, 0, []), (738, .iconst 0, 739, 0, 0, 0, []), (739, .ireturn, 740, 1, 0, 0, []),
  (740, .aload_n 1, 741, 1, 0, 0, []), (741, .aload_n 0, 742, 0, 0, 0, []), (742, .iload_n 3, 743, 3, 0, 0, []), (743, .iconst 1, 744, 0, 1, 0, []), (744, .iadd, 745, 0, 0, 0, []), (745, .iaload, 746, 0, 0, 0, []),
  (746, .invokevirtual 90, 749, 0, 0, 0, [1, 11, 84]), (749, .aload_n 2, 750, 2, 0, 0, []), (750, .aload_n 0, 751, 0, 0, 0, []), (751, .iload_n 3, 752, 3, 0, 0, []), (752, .iconst 1, 753, 0, 1, 0, []), (753, .iadd, 754, 0, 0, 0, []),
  (754, .iaload, 755, 0, 0, 0, []), (755, .invokevirtual 93, 758, 0, 0, 0, [1, 12, 200]), (758, .if_icmp .eq 597, 761, 1355, 0, 0, []), (761, .iconst 0, 762, 0, 0, 0, []), (762, .ireturn, 763, 1, 0, 0, []), (763, .aload_n 1, 764, 1, 0, 0, []),
  (764, .aload_n 0, 765, 0, 0, 0, []), (765, .iload_n 3, 766, 3, 0, 0, []), (766, .iconst 1, 767, 0, 1, 0, []), (767, .iadd, 768, 0, 0, 0, []), (768, .iaload, 769, 0, 0, 0, []), (769, .invokevirtual 94, 772, 0, 0, 0, [1, 11, 86]),
  (772, .aload_n 2, 773, 2, 0, 0, []), (773, .aload_n 0, 774, 0, 0, 0, []), (774, .iload_n 3, 775, 3, 0, 0, []), (775, .iconst 1, 776, 0, 1, 0, []), (776, .iadd, 777, 0, 0, 0, []), (777, .iaload, 778, 0, 0, 0, []),
  (778, .invokevirtual 97, 781, 0, 0, 0, [1, 12, 201]), (781, .if_icmp .eq 574, 784, 1355, 0, 0, []), (784, .iconst 0, 785, 0, 0, 0, []), (785, .ireturn, 786, 1, 0, 0, []), (786, .aload_n 1, 787, 1, 0, 0, []), (787, .aload_n 0, 788, 0, 0, 0, []),
  (788, .iload_n 3, 789, 3, 0, 0, []), (789, .iconst 1, 790, 0, 1, 0, []), (790, .iadd, 791, 0, 0, 0, []), (791, .iaload, 792, 0, 0, 0, []), (792, .invokevirtual 98, 795, 0, 0, 0, [1, 11, 88]), (795, .aload_n 2, 796, 2, 0, 0, []),
  (796, .aload_n 0, 797, 0, 0, 0, []), (797, .iload_n 3, 798, 3, 0, 0, []), (798, .iconst 1, 799, 0, 1, 0, []), (799, .iadd, 800, 0, 0, 0, []), (800, .iaload, 801, 0, 0, 0, []), (801, .invokevirtual 101, 804, 0, 0, 0, [1, 12, 202]),
  (804, .if_icmp .eq 551, 807, 1355, 0, 0, []), (807, .iconst 0, 808, 0, 0, 0, []), (808, .ireturn, 809, 1, 0, 0, []), (809, .aload_n 1, 810, 1, 0, 0, []), (810, .aload_n 0, 811, 0, 0, 0, []), (811, .iload_n 3, 812, 3, 0, 0, []),
  (812, .iconst 1, 813, 0, 1, 0, []), (813, .iadd, 814, 0, 0, 0, []), (814, .iaload, 815, 0, 0, 0, []), (815, .invokevirtual 102, 818, 0, 0, 0, [1, 11, 89]), (818, .aload_n 2, 819, 2, 0, 0, []), (819, .aload_n 0, 820, 0, 0, 0, []),
  (820, .iload_n 3, 821, 3, 0, 0, []), (821, .iconst 1, 822, 0, 1, 0, []), (822, .iadd, 823, 0, 0, 0, []), (823, .iaload, 824, 0, 0, 0, []), (824, .invokevirtual 105, 827, 0, 0, 0, [1, 12, 203]), (827, .if_icmp .eq 528, 830, 1355, 0, 0, []),
  (830, .iconst 0, 831, 0, 0, 0, []), (831, .ireturn, 832, 1, 0, 0, []), (832, .aload_n 1, 833, 1, 0, 0, []), (833, .aload_n 0, 834, 0, 0, 0, []), (834, .iload_n 3, 835, 3, 0, 0, []), (835, .iconst 1, 836, 0, 1, 0, []),
  (836, .iadd, 837, 0, 0, 0, []), (837, .iaload, 838, 0, 0, 0, []), (838, .invokevirtual 106, 841, 0, 0, 0, [1, 11, 97]), (841, .aload_n 2, 842, 2, 0, 0, []), (842, .aload_n 0, 843, 0, 0, 0, []), (843, .iload_n 3, 844, 3, 0, 0, []),
  (844, .iconst 1, 845, 0, 1, 0, []), (845, .iadd, 846, 0, 0, 0, []), (846, .iaload, 847, 0, 0, 0, []), (847, .invokevirtual 109, 850, 0, 0, 0, [1, 12, 207]), (850, .if_icmp .eq 505, 853, 1355, 0, 0, []), (853, .iconst 0, 854, 0, 0, 0, []),
  (854, .ireturn, 855, 1, 0, 0, []), (855, .aload_n 1, 856, 1, 0, 0, []), (856, .aload_n 0, 857, 0, 0, 0, []), (857, .iload_n 3, 858, 3, 0, 0, []), (858, .iconst 1, 859, 0, 1, 0, []), (859, .iadd, 860, 0, 0, 0, []),
  (860, .iaload, 861, 0, 0, 0, []), (861, .aload_n 0, 862, 0, 0, 0, []), (862, .iload_n 3, 863, 3, 0, 0, []), (863, .iconst 2, 864, 0, 2, 0, []), (864, .iadd, 865, 0, 0, 0, []), (865, .iaload, 866, 0, 0, 0, []),
  (866, .invokevirtual 110, 869, 0, 0, 0, [2, 11, 101]), (869, .aload_n 2, 870, 2, 0, 0, []), (870, .aload_n 0, 871, 0, 0, 0, []), (871, .iload_n 3, 872, 3, 0, 0, []), (872, .iconst 1, 873, 0, 1, 0, []), (873, .iadd, 874, 0, 0, 0, []),
  (874, .iaload, 875, 0, 0, 0, []), (875, .aload_n 0, 876, 0, 0, 0, []), (876, .iload_n 3, 877, 3, 0, 0, []), (877, .iconst 2, 878, 0, 2, 0, []), (878, .iadd, 879, 0, 0, 0, []), (879, .iaload, 880, 0, 0, 0, []),
  (880, .invokevirtual 113, 883, 0, 0, 0, [2, 12, 212]), (883, .if_icmp .eq 472, 886, 1355, 0, 0, []), (886, .iconst 0, 887, 0, 0, 0, []), (887, .ireturn, 888, 1, 0, 0, []), (888, .aload_n 1, 889, 1, 0, 0, []), (889, .aload_n 0, 890, 0, 0, 0, []),
  (890, .iload_n 3, 891, 3, 0, 0, []), (891, .iconst 1, 892, 0, 1, 0, []), (892, .iadd, 893, 0, 0, 0, []), (893, .iaload, 894, 0, 0, 0, []), (894, .aload_n 0, 895, 0, 0, 0, []), (895, .iload_n 3, 896, 3, 0, 0, []),
  (896, .iconst 2, 897, 0, 2, 0, []), (897, .iadd, 898, 0, 0, 0, []), (898, .iaload, 899, 0, 0, 0, []), (899, .invokevirtual 114, 902, 0, 0, 0, [2, 11, 109]), (902, .aload_n 2, 903, 2, 0, 0, []), (903, .aload_n 0, 904, 0, 0, 0, []),
  (904, .iload_n 3, 905, 3, 0, 0, []), (905, .iconst 1, 906, 0, 1, 0, []), (906, .iadd, 907, 0, 0, 0, []), (907, .iaload, 908, 0, 0, 0, []), (908, .aload_n 0, 909, 0, 0, 0, []), (909, .iload_n 3, 910, 3, 0, 0, []),
  (910, .iconst 2, 911, 0, 2, 0, []), (911, .iadd, 912, 0, 0, 0, []), (912, .iaload, 913, 0, 0, 0, []), (913, .invokevirtual 117, 916, 0, 0, 0, [2, 12, 213]), (916, .if_icmp .eq 439, 919, 1355, 0, 0, []), (919, .iconst 0, 920, 0, 0, 0, []),
  (920, .ireturn, 921, 1, 0, 0, []), (921, .aload_n 1, 922, 1, 0, 0, []), (922, .aload_n 0, 923, 0, 0, 0, []), (923, .iload_n 3, 924, 3, 0, 0, []), (924, .iconst 1, 925, 0, 1, 0, []), (925, .iadd, 926, 0, 0, 0, []),
  (926, .iaload, 927, 0, 0, 0, []), (927, .aload_n 0, 928, 0, 0, 0, []), (928, .iload_n 3, 929, 3, 0, 0, []), (929, .iconst 2, 930, 0, 2, 0, []), (930, .iadd, 931, 0, 0, 0, []), (931, .iaload, 932, 0, 0, 0, []),
  (932, .invokevirtual 118, 935, 0, 0, 0, [2, 11, 112]), (935, .aload_n 2, 936, 2, 0, 0, []), (936, .aload_n 0, 937, 0, 0, 0, []), (937, .iload_n 3, 938, 3, 0, 0, []), (938, .iconst 1, 939, 0, 1, 0, []), (939, .iadd, 940, 0, 0, 0, []),
  (940, .iaload, 941, 0, 0, 0, []), (941, .aload_n 0, 942, 0, 0, 0, []), (942, .iload_n 3, 943, 3, 0, 0, []), (943, .iconst 2, 944, 0, 2, 0, []), (944, .iadd, 945, 0, 0, 0, []), (945, .iaload, 946, 0, 0, 0, []),
  (946, .invokevirtual 121, 949, 0, 0, 0, [2, 12, 215]), (949, .if_icmp .eq 406, 952, 1355, 0, 0, []), (952, .iconst 0, 953, 0, 0, 0, []), (953, .ireturn, 954, 1, 0, 0, []), (954, .aload_n 1, 955, 1, 0, 0, []), (955, .aload_n 0, 956, 0, 0, 0, []),
  (956, .iload_n 3, 957, 3, 0, 0, []), (957, .iconst 1, 958, 0, 1, 0, []), (958, .iadd, 959, 0, 0, 0, []), (959, .iaload, 960, 0, 0, 0, []), (960, .aload_n 0, 961, 0, 0, 0, []), (961, .iload_n 3, 962, 3, 0, 0, []),
  (962, .iconst 2, 963, 0, 2, 0, []), (963, .iadd, 964, 0, 0, 0, []), (964, .iaload, 965, 0, 0, 0, []), (965, .invokevirtual 122, 968, 0, 0, 0, [2, 11, 113]), (968, .aload_n 2, 969, 2, 0, 0, []), (969, .aload_n 0, 970, 0, 0, 0, []),
  (970, .iload_n 3, 971, 3, 0, 0, []), (971, .iconst 1, 972, 0, 1, 0, []), (972, .iadd, 973, 0, 0, 0, []), (973, .iaload, 974, 0, 0, 0, []), (974, .aload_n 0, 975, 0, 0, 0, []), (975, .iload_n 3, 976, 3, 0, 0, []),
  (976, .iconst 2, 977, 0, 2, 0, []), (977, .iadd, 978, 0, 0, 0, []), (978, .iaload, 979, 0, 0, 0, []), (979, .invokevirtual 125, 982, 0, 0, 0, [2, 12, 216]), (982, .if_icmp .eq 373, 985, 1355, 0, 0, []), (985, .iconst 0, 986, 0, 0, 0, []),
  (986, .ireturn, 987, 1, 0, 0, []), (987, .aload_n 1, 988, 1, 0, 0, []), (988, .aload_n 0, 989, 0, 0, 0, []), (989, .iload_n 3, 990, 3, 0, 0, []), (990, .iconst 1, 991, 0, 1, 0, []), (991, .iadd, 992, 0, 0, 0, []),
  (992, .iaload, 993, 0, 0, 0, []), (993, .aload_n 0, 994, 0, 0, 0, []), (994, .iload_n 3, 995, 3, 0, 0, []), (995, .iconst 2, 996, 0, 2, 0, []), (996, .iadd, 997, 0, 0, 0, []), (997, .iaload, 998, 0, 0, 0, []),
  (998, .invokevirtual 126, 1001, 0, 0, 0, [2, 11, 114]), (1001, .aload_n 2, 1002, 2, 0, 0, []), (1002, .aload_n 0, 1003, 0, 0, 0, []), (1003, .iload_n 3, 1004, 3, 0, 0, []), (1004, .iconst 1, 1005, 0, 1, 0, []), (1005, .iadd, 1006, 0, 0, 0, []),
  (1006, .iaload, 1007, 0, 0, 0, []), (1007, .aload_n 0, 1008, 0, 0, 0, []), (1008, .iload_n 3, 1009, 3, 0, 0, []), (1009, .iconst 2, 1010, 0, 2, 0, []), (1010, .iadd, 1011, 0, 0, 0, []), (1011, .iaload, 1012, 0, 0, 0, []),
  (1012, .invokevirtual 129, 1015, 0, 0, 0, [2, 12, 217]), (1015, .if_icmp .eq 340, 1018, 1355, 0, 0, []), (1018, .iconst 0, 1019, 0, 0, 0, []), (1019, .ireturn, 1020, 1, 0, 0, []), (1020, .aload_n 1, 1021, 1, 0, 0, []), (1021, .aload_n 0, 1022, 0, 0, 0, []),
  (1022, .iload_n 3, 1023, 3, 0, 0, []), (1023, .iconst 1, 1024, 0, 1, 0, []), (1024, .iadd, 1025, 0, 0, 0, []), (1025, .iaload, 1026, 0, 0, 0, []), (1026, .aload_n 0, 1027, 0, 0, 0, []), (1027, .iload_n 3, 1028, 3, 0, 0, []),
  (1028, .iconst 2, 1029, 0, 2, 0, []), (1029, .iadd, 1030, 0, 0, 0, []), (1030, .iaload, 1031, 0, 0, 0, []), (1031, .invokevirtual 130, 1034, 0, 0, 0, [2, 11, 117]), (1034, .aload_n 2, 1035, 2, 0, 0, []), (1035, .aload_n 0, 1036, 0, 0, 0, []),
  (1036, .iload_n 3, 1037, 3, 0, 0, []), (1037, .iconst 1, 1038, 0, 1, 0, []), (1038, .iadd, 1039, 0, 0, 0, []), (1039, .iaload, 1040, 0, 0, 0, []), (1040, .aload_n 0, 1041, 0, 0, 0, []), (1041, .iload_n 3, 1042, 3, 0, 0, []),
  (1042, .iconst 2, 1043, 0, 2, 0, []), (1043, .iadd, 1044, 0, 0, 0, []), (1044, .iaload, 1045, 0, 0, 0, []), (1045, .invokevirtual 133, 1048, 0, 0, 0, [2, 12, 220]), (1048, .if_icmp .eq 307, 1051, 1355, 0, 0, []), (1051, .iconst 0, 1052, 0, 0, 0, []),
  (1052, .ireturn, 1053, 1, 0, 0, []), (1053, .aload_n 1, 1054, 1, 0, 0, []), (1054, .aload_n 0, 1055, 0, 0, 0, []), (1055, .iload_n 3, 1056, 3, 0, 0, []), (1056, .iconst 1, 1057, 0, 1, 0, []), (1057, .iadd, 1058, 0, 0, 0, []),
  (1058, .iaload, 1059, 0, 0, 0, []), (1059, .invokevirtual 134, 1062, 0, 0, 0, [1, 11, 118]), (1062, .aload_n 2, 1063, 2, 0, 0, []), (1063, .aload_n 0, 1064, 0, 0, 0, []), (1064, .iload_n 3, 1065, 3, 0, 0, []), (1065, .iconst 1, 1066, 0, 1, 0, []),
  (1066, .iadd, 1067, 0, 0, 0, []), (1067, .iaload, 1068, 0, 0, 0, []), (1068, .invokevirtual 137, 1071, 0, 0, 0, [1, 12, 221]), (1071, .if_icmp .eq 284, 1074, 1355, 0, 0, []), (1074, .iconst 0, 1075, 0, 0, 0, []), (1075, .ireturn, 1076, 1, 0, 0, []),
  (1076, .aload_n 1, 1077, 1, 0, 0, []), (1077, .invokevirtual 138, 1080, 0, 0, 0, [0, 11, 120]), (1080, .aload_n 2, 1081, 2, 0, 0, []), (1081, .invokevirtual 141, 1084, 0, 0, 0, [0, 12, 223]), (1084, .if_icmp .eq 271, 1087, 1355, 0, 0, []), (1087, .iconst 0, 1088, 0, 0, 0, []),
  (1088, .ireturn, 1089, 1, 0, 0, []), (1089, .aload_n 1, 1090, 1, 0, 0, []), (1090, .aload_n 0, 1091, 0, 0, 0, []), (1091, .iload_n 3, 1092, 3, 0, 0, []), (1092, .iconst 1, 1093, 0, 1, 0, []), (1093, .iadd, 1094, 0, 0, 0, []),
  (1094, .iaload, 1095, 0, 0, 0, []), (1095, .aload_n 0, 1096, 0, 0, 0, []), (1096, .iload_n 3, 1097, 3, 0, 0, []), (1097, .iconst 2, 1098, 0, 2, 0, []), (1098, .iadd, 1099, 0, 0, 0, []), (1099, .iaload, 1100, 0, 0, 0, []),
  (1100, .aload_n 0, 1101, 0, 0, 0, []), (1101, .iload_n 3, 1102, 3, 0, 0, []), (1102, .iconst 3, 1103, 0, 3, 0, []), (1103, .iadd, 1104, 0, 0, 0, []), (1104, .iaload, 1105, 0, 0, 0, []), (1105, .invokevirtual 142, 1108, 0, 0, 0, [3, 11, 122]),
  (1108, .aload_n 2, 1109, 2, 0, 0, []), (1109, .aload_n 0, 1110, 0, 0, 0, []), (1110, .iload_n 3, 1111, 3, 0, 0, []), (1111, .iconst 1, 1112, 0, 1, 0, []), (1112, .iadd, 1113, 0, 0, 0, []), (1113, .iaload, 1114, 0, 0, 0, []),
  (1114, .aload_n 0, 1115, 0, 0, 0, []), (1115, .iload_n 3, 1116, 3, 0, 0, []), (1116, .iconst 2, 1117, 0, 2, 0, []), (1117, .iadd, 1118, 0, 0, 0, []), (1118, .iaload, 1119, 0, 0, 0, []), (1119, .aload_n 0, 1120, 0, 0, 0, []),
  (1120, .iload_n 3, 1121, 3, 0, 0, []), (1121, .iconst 3, 1122, 0, 3, 0, []), (1122, .iadd, 1123, 0, 0, 0, []), (1123, .iaload, 1124, 0, 0, 0, []), (1124, .invokevirtual 145, 1127, 0, 0, 0, [3, 12, 224]), (1127, .if_icmp .eq 228, 1130, 1355, 0, 0, []),
  (1130, .iconst 0, 1131, 0, 0, 0, []), (1131, .ireturn, 1132, 1, 0, 0, []), (1132, .aload_n 1, 1133, 1, 0, 0, []), (1133, .aload_n 0, 1134, 0, 0, 0, []), (1134, .iload_n 3, 1135, 3, 0, 0, []), (1135, .iconst 1, 1136, 0, 1, 0, []),
  (1136, .iadd, 1137, 0, 0, 0, []), (1137, .iaload, 1138, 0, 0, 0, []), (1138, .aload_n 0, 1139, 0, 0, 0, []), (1139, .iload_n 3, 1140, 3, 0, 0, []), (1140, .iconst 2, 1141, 0, 2, 0, []), (1141, .iadd, 1142, 0, 0, 0, []),
  (1142, .iaload, 1143, 0, 0, 0, []), (1143, .aload_n 0, 1144, 0, 0, 0, []), (1144, .iload_n 3, 1145, 3, 0, 0, []), (1145, .iconst 3, 1146, 0, 3, 0, []), (1146, .iadd, 1147, 0, 0, 0, []), (1147, .iaload, 1148, 0, 0, 0, []),
  (1148, .invokevirtual 146, 1151, 0, 0, 0, [3, 11, 128]), (1151, .aload_n 2, 1152, 2, 0, 0, []), (1152, .aload_n 0, 1153, 0, 0, 0, []), (1153, .iload_n 3, 1154, 3, 0, 0, []), (1154, .iconst 1, 1155, 0, 1, 0, []), (1155, .iadd, 1156, 0, 0, 0, []),
  (1156, .iaload, 1157, 0, 0, 0, []), (1157, .aload_n 0, 1158, 0, 0, 0, []), (1158, .iload_n 3, 1159, 3, 0, 0, []), (1159, .iconst 2, 1160, 0, 2, 0, []), (1160, .iadd, 1161, 0, 0, 0, []), (1161, .iaload, 1162, 0, 0, 0, []),
  (1162, .aload_n 0, 1163, 0, 0, 0, []), (1163, .iload_n 3, 1164, 3, 0, 0, []), (1164, .iconst 3, 1165, 0, 3, 0, []), (1165, .iadd, 1166, 0, 0, 0, []), (1166, .iaload, 1167, 0, 0, 0, []), (1167, .invokevirtual 149, 1170, 0, 0, 0, [3, 12, 226]),
  (1170, .if_icmp .eq 185, 1173, 1355, 0, 0, []), (1173, .iconst 0, 1174, 0, 0, 0, []), (1174, .ireturn, 1175, 1, 0, 0, []), (1175, .aload_n 1, 1176, 1, 0, 0, []), (1176, .aload_n 0, 1177, 0, 0, 0, []), (1177, .iload_n 3, 1178, 3, 0, 0, []),
  (1178, .iconst 1, 1179, 0, 1, 0, []), (1179, .iadd, 1180, 0, 0, 0, []), (1180, .iaload, 1181, 0, 0, 0, []), (1181, .aload_n 0, 1182, 0, 0, 0, []), (1182, .iload_n 3, 1183, 3, 0, 0, []), (1183, .iconst 2, 1184, 0, 2, 0, []),
  (1184, .iadd, 1185, 0, 0, 0, []), (1185, .iaload, 1186, 0, 0, 0, []), (1186, .invokevirtual 150, 1189, 0, 0, 0, [2, 11, 133]), (1189, .aload_n 2, 1190, 2, 0, 0, []), (1190, .aload_n 0, 1191, 0, 0, 0, []), (1191, .iload_n 3, 1192, 3, 0, 0, []),
  (1192, .iconst 1, 1193, 0, 1, 0, []), (1193, .iadd, 1194, 0, 0, 0, []), (1194, .iaload, 1195, 0, 0, 0, []), (1195, .aload_n 0, 1196, 0, 0, 0, []), (1196, .iload_n 3, 1197, 3, 0, 0, []), (1197, .iconst 2, 1198, 0, 2, 0, []),
  (1198, .iadd, 1199, 0, 0, 0, []), (1199, .iaload, 1200, 0, 0, 0, []), (1200, .invokevirtual 153, 1203, 0, 0, 0, [2, 12, 229]), (1203, .if_icmp .eq 152, 1206, 1355, 0, 0, []), (1206, .iconst 0, 1207, 0, 0, 0, []), (1207, .ireturn, 1208, 1, 0, 0, []),
  (1208, .aload_n 1, 1209, 1, 0, 0, []), (1209, .aload_n 0, 1210, 0, 0, 0, []), (1210, .iload_n 3, 1211, 3, 0, 0, []), (1211, .iconst 1, 1212, 0, 1, 0, []), (1212, .iadd, 1213, 0, 0, 0, []), (1213, .iaload, 1214, 0, 0, 0, []),
  (1214, .aload_n 0, 1215, 0, 0, 0, []), (1215, .iload_n 3, 1216, 3, 0, 0, []), (1216, .iconst 2, 1217, 0, 2, 0, []), (1217, .iadd, 1218, 0, 0, 0, []), (1218, .iaload, 1219, 0, 0, 0, []), (1219, .invokevirtual 154, 1222, 0, 0, 0, [2, 11, 134]),
  (1222, .aload_n 2, 1223, 2, 0, 0, []), (1223, .aload_n 0, 1224, 0, 0, 0, []), (1224, .iload_n 3, 1225, 3, 0, 0, []), (1225, .iconst 1, 1226, 0, 1, 0, []), (1226, .iadd, 1227, 0, 0, 0, []), (1227, .iaload, 1228, 0, 0, 0, []),
  (1228, .aload_n 0, 1229, 0, 0, 0, []), (1229, .iload_n 3, 1230, 3, 0, 0, []), (1230, .iconst 2, 1231, 0, 2, 0, []), (1231, .iadd, 1232, 0, 0, 0, []), (1232, .iaload, 1233, 0, 0, 0, []), (1233, .invokevirtual 157, 1236, 0, 0, 0, [2, 12, 230]),
  (1236, .if_icmp .eq 119, 1239, 1355, 0, 0, []), (1239, .iconst 0, 1240, 0, 0, 0, []), (1240, .ireturn, 1241, 1, 0, 0, []), (1241, .aload_n 1, 1242, 1, 0, 0, []), (1242, .invokevirtual 158, 1245, 0, 0, 0, [0, 11, 136]), (1245, .aload_n 2, 1246, 2, 0, 0, []),
  (1246, .invokevirtual 161, 1249, 0, 0, 0, [0, 12, 231]), (1249, .if_icmp .eq 106, 1252, 1355, 0, 0, []), (1252, .iconst 0, 1253, 0, 0, 0, []), (1253, .ireturn, 1254, 1, 0, 0, []), (1254, .aload_n 1, 1255, 1, 0, 0, []), (1255, .invokevirtual 162, 1258, 0, 0, 0, [0, 11, 137]),
  (1258, .aload_n 2, 1259, 2, 0, 0, []), (1259, .invokevirtual 166, 1262, 0, 0, 0, [0, 12, 232]), (1262, .lcmp, 1263, 0, 0, 0, []), (1263, .ifCond .eq 92, 1266, 1355, 0, 0, []), (1266, .iconst 0, 1267, 0, 0, 0, []), (1267, .ireturn, 1268, 1, 0, 0, []),
  (1268, .aload_n 1, 1269, 1, 0, 0, []), (1269, .invokevirtual 167, 1272, 0, 0, 0, [0, 11, 138]), (1272, .aload_n 2, 1273, 2, 0, 0, []), (1273, .invokevirtual 170, 1276, 0, 0, 0, [0, 12, 233]), (1276, .lcmp, 1277, 0, 0, 0, []), (1277, .ifCond .eq 78, 1280, 1355, 0, 0, []),
  (1280, .iconst 0, 1281, 0, 0, 0, []), (1281, .ireturn, 1282, 1, 0, 0, []), (1282, .aload_n 1, 1283, 1, 0, 0, []), (1283, .aload_n 0, 1284, 0, 0, 0, []), (1284, .iload_n 3, 1285, 3, 0, 0, []), (1285, .iconst 1, 1286, 0, 1, 0, []),
  (1286, .iadd, 1287, 0, 0, 0, []), (1287, .iaload, 1288, 0, 0, 0, []), (1288, .invokevirtual 171, 1291, 0, 0, 0, [1, 11, 139]), (1291, .aload_n 2, 1292, 2, 0, 0, []), (1292, .aload_n 0, 1293, 0, 0, 0, []), (1293, .iload_n 3, 1294, 3, 0, 0, []),
  (1294, .iconst 1, 1295, 0, 1, 0, []), (1295, .iadd, 1296, 0, 0, 0, []), (1296, .iaload, 1297, 0, 0, 0, []), (1297, .invokevirtual 174, 1300, 0, 0, 0, [1, 12, 234]), (1300, .if_icmp .eq 55, 1303, 1355, 0, 0, []), (1303, .iconst 0, 1304, 0, 0, 0, []),
  (1304, .ireturn, 1305, 1, 0, 0, []), (1305, .aload_n 1, 1306, 1, 0, 0, []), (1306, .invokevirtual 175, 1309, 0, 0, 0, [0, 11, 143]), (1309, .aload_n 2, 1310, 2, 0, 0, []), (1310, .invokevirtual 178, 1313, 0, 0, 0, [0, 12, 236]), (1313, .if_icmp .eq 42, 1316, 1355, 0, 0, []),
  (1316, .iconst 0, 1317, 0, 0, 0, []), (1317, .ireturn, 1318, 1, 0, 0, []), (1318, .aload_n 1, 1319, 1, 0, 0, []), (1319, .aload_n 0, 1320, 0, 0, 0, []), (1320, .iload_n 3, 1321, 3, 0, 0, []), (1321, .iconst 1, 1322, 0, 1, 0, []),
  (1322, .iadd, 1323, 0, 0, 0, []), (1323, .iaload, 1324, 0, 0, 0, []), (1324, .invokevirtual 179, 1327, 0, 0, 0, [1, 11, 144]), (1327, .aload_n 2, 1328, 2, 0, 0, []), (1328, .aload_n 0, 1329, 0, 0, 0, []), (1329, .iload_n 3, 1330, 3, 0, 0, []),
  (1330, .iconst 1, 1331, 0, 1, 0, []), (1331, .iadd, 1332, 0, 0, 0, []), (1332, .iaload, 1333, 0, 0, 0, []), (1333, .invokevirtual 182, 1336, 0, 0, 0, [1, 12, 237]), (1336, .if_icmp .eq 19, 1339, 1355, 0, 0, []), (1339, .iconst 0, 1340, 0, 0, 0, []),
  (1340, .ireturn, 1341, 1, 0, 0, []), (1341, .aload_n 1, 1342, 1, 0, 0, []), (1342, .invokevirtual 183, 1345, 0, 0, 0, [0, 11, 145]), (1345, .aload_n 2, 1346, 2, 0, 0, []), (1346, .invokevirtual 186, 1349, 0, 0, 0, [0, 12, 238]), (1349, .lcmp, 1350, 0, 0, 0, []),
  (1350, .ifCond .eq 5, 1353, 1355, 0, 0, []), (1353, .iconst 0, 1354, 0, 0, 0, []), (1354, .ireturn, 1355, 1, 0, 0, []), (1355, .iinc 3 6, 1358, 3, 6, 0, []), (1358, .goto (-1340), 1361, 18, 0, 0, []), (1361, .iconst 1, 1362, 0, 1, 0, []),
  (1362, .ireturn, 1363, 1, 0, 0, [])])
def px : List Mx := [mx_0, mx_1, mx_2, mx_3, mx_4, mx_5, mx_6, mx_7, mx_8, mx_9, mx_10, mx_11, mx_12, mx_13, mx_14, mx_15, mx_16, mx_17, mx_18, mx_19, mx_20, mx_21, mx_22, mx_23, mx_24, mx_25, mx_26, mx_27, mx_28, mx_29, mx_30, mx_31, mx_32, mx_33, mx_34, mx_35, mx_36, mx_37, mx_38, mx_39, mx_40, mx_41, mx_42, mx_43, mx_44, mx_45, mx_46, mx_47, mx_48, mx_49, mx_50, mx_51, mx_52, mx_53, mx_54, mx_55, mx_56, mx_57, mx_58, mx_59, mx_60, mx_61, mx_62, mx_63, mx_64, mx_65, mx_66, mx_67, mx_68, mx_69, mx_70, mx_71, mx_72, mx_73, mx_74, mx_75, mx_76, mx_77, mx_78, mx_79, mx_80, mx_81, mx_82, mx_83, mx_84, mx_85, mx_86, mx_87, mx_88, mx_89, mx_90, mx_91, mx_92, mx_93, mx_94, mx_95, mx_96, mx_97, mx_98, mx_99, mx_100, mx_101, mx_102, mx_103, mx_104, mx_105, mx_106, mx_107, mx_108, mx_109, mx_110, mx_111, mx_112, mx_113, mx_114, mx_115, mx_116, mx_117, mx_118, mx_119, mx_120, mx_121, mx_122, mx_123, mx_124, mx_125, mx_126, mx_127, mx_128, mx_129, mx_130, mx_131, mx_132, mx_133, mx_134, mx_135, mx_136, mx_137, mx_138, mx_139, mx_140, mx_141, mx_142, mx_143, mx_144, mx_145, mx_146, mx_147, mx_148, mx_149, mx_150, mx_151, mx_152, mx_153, mx_154, mx_155, mx_156, mx_157, mx_158, mx_159, mx_160, mx_161, mx_162, mx_163, mx_164, mx_165, mx_166, mx_167, mx_168, mx_169, mx_170, mx_171, mx_172, mx_173, mx_174, mx_175, mx_176, mx_177, mx_178, mx_179, mx_180, mx_181, mx_182, mx_183, mx_184, mx_185, mx_186, mx_187, mx_188, mx_189, mx_190, mx_191, mx_192, mx_193, mx_194, mx_195, mx_196, mx_197, mx_198, mx_199, mx_200, mx_201, mx_202, mx_203, mx_204, mx_205, mx_206, mx_207, mx_208, mx_209, mx_210, mx_211, mx_212, mx_213, mx_214, mx_215, mx_216, mx_217, mx_218, mx_219, mx_220, mx_221, mx_222, mx_223, mx_224, mx_225, mx_226, mx_227, mx_228, mx_229, mx_230, mx_231, mx_232, mx_233, mx_234, mx_235, mx_236, mx_237, mx_238, mx_239]
