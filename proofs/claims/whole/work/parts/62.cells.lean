/-! ===== what the 98 cells are ===== -/
theorem oc_0x : ocs 0 11 = true := rfl
theorem aw_1 : aws 3 1 = 6 := by decide
theorem aw_2 : aws 3 2 = 4 := by decide
theorem aw_3 : aws 4 3 = 6 := by decide
theorem oc_4_6 : ocs 4 6 = true := rfl
theorem oc_4_5 : ocs 4 5 = false := rfl
theorem oc_4_0 : ocs 4 0 = false := rfl
theorem oc_4_1 : ocs 4 1 = false := rfl
theorem oc_4_9 : ocs 4 9 = false := rfl
theorem oc_4_2 : ocs 4 2 = false := rfl
theorem oc_5_6 : ocs 5 6 = false := rfl
theorem oc_5_5 : ocs 5 5 = true := rfl
theorem oc_5_0 : ocs 5 0 = false := rfl
theorem oc_5_1 : ocs 5 1 = false := rfl
theorem oc_5_9 : ocs 5 9 = false := rfl
theorem oc_5_2 : ocs 5 2 = false := rfl
theorem oc_6_6 : ocs 6 6 = false := rfl
theorem oc_6_5 : ocs 6 5 = false := rfl
theorem oc_6_0 : ocs 6 0 = true := rfl
theorem oc_6_1 : ocs 6 1 = false := rfl
theorem oc_6_9 : ocs 6 9 = false := rfl
theorem oc_6_2 : ocs 6 2 = false := rfl
theorem oc_7_6 : ocs 7 6 = false := rfl
theorem oc_7_5 : ocs 7 5 = false := rfl
theorem oc_7_0 : ocs 7 0 = false := rfl
theorem oc_7_1 : ocs 7 1 = true := rfl
theorem oc_7_9 : ocs 7 9 = false := rfl
theorem oc_7_2 : ocs 7 2 = false := rfl
theorem oc_8_6 : ocs 8 6 = false := rfl
theorem oc_8_5 : ocs 8 5 = false := rfl
theorem oc_8_0 : ocs 8 0 = false := rfl
theorem oc_8_1 : ocs 8 1 = false := rfl
theorem oc_8_9 : ocs 8 9 = true := rfl
theorem oc_8_2 : ocs 8 2 = false := rfl
theorem oc_9_6 : ocs 9 6 = false := rfl
theorem oc_9_5 : ocs 9 5 = false := rfl
theorem oc_9_0 : ocs 9 0 = false := rfl
theorem oc_9_1 : ocs 9 1 = false := rfl
theorem oc_9_9 : ocs 9 9 = false := rfl
theorem oc_9_2 : ocs 9 2 = true := rfl
theorem oc_10x : ocs 10 4 = true := rfl
theorem aw_11 : aws 1 11 = 6 := by decide
theorem aw_12 : aws 1 12 = 6 := by decide
theorem aw_13 : aws 1 13 = 6 := by decide
theorem aw_14 : aws 1 14 = 6 := by decide
theorem aw_15 : aws 1 15 = 6 := by decide
theorem aw_16 : aws 1 16 = 6 := by decide
theorem aw_17 : aws 1 17 = 40 := by decide
theorem oc_18x : ocs 18 4 = true := rfl
theorem aw_19 : aws 1 19 = 6 := by decide
theorem aw_20 : aws 1 20 = 6 := by decide
theorem aw_21 : aws 1 21 = 6 := by decide
theorem aw_22 : aws 1 22 = 6 := by decide
theorem aw_23 : aws 1 23 = 6 := by decide
theorem aw_24 : aws 1 24 = 6 := by decide
theorem aw_25 : aws 1 25 = 40 := by decide
theorem aw_26 : aws 5 26 = 3 := by decide
theorem oc_27x : ocs 27 7 = true := rfl
theorem oc_28x : ocs 28 10 = true := rfl
theorem aw_29 : aws 1 29 = 31 := by decide
theorem aw_30 : aws 1 30 = 31 := by decide
theorem oc_31x : ocs 31 3 = true := rfl
theorem aw_32 : aws 1 32 = 7 := by decide
theorem aw_33 : aws 1 33 = 49 := by decide
theorem aw_34 : aws 1 34 = 49 := by decide
theorem aw_35 : aws 1 35 = 7 := by decide
theorem aw_36 : aws 1 36 = 6 := by decide
theorem oc_57x : ocs 57 4 = true := rfl
theorem aw_58 : aws 1 58 = 6 := by decide
theorem aw_59 : aws 1 59 = 6 := by decide
theorem aw_60 : aws 1 60 = 6 := by decide
theorem aw_61 : aws 1 61 = 6 := by decide
theorem aw_62 : aws 1 62 = 6 := by decide
theorem aw_63 : aws 1 63 = 6 := by decide
theorem aw_64 : aws 1 64 = 40 := by decide
theorem oc_65x : ocs 65 4 = true := rfl
theorem aw_66 : aws 1 66 = 6 := by decide
theorem aw_67 : aws 1 67 = 6 := by decide
theorem aw_68 : aws 1 68 = 6 := by decide
theorem aw_69 : aws 1 69 = 6 := by decide
theorem aw_70 : aws 1 70 = 6 := by decide
theorem aw_71 : aws 1 71 = 6 := by decide
theorem aw_72 : aws 1 72 = 40 := by decide
theorem oc_73x : ocs 73 4 = true := rfl
theorem aw_74 : aws 1 74 = 6 := by decide
theorem aw_75 : aws 1 75 = 6 := by decide
theorem aw_76 : aws 1 76 = 6 := by decide
theorem aw_77 : aws 1 77 = 6 := by decide
theorem aw_78 : aws 1 78 = 6 := by decide
theorem aw_79 : aws 1 79 = 6 := by decide
theorem aw_80 : aws 1 80 = 40 := by decide
theorem oc_81x : ocs 81 12 = true := rfl
theorem aw_82 : aws 1 82 = 6 := by decide
theorem aw_83 : aws 1 83 = 240 := by decide
theorem aw_84 : aws 1 84 = 4 := by decide
theorem aw_85 : aws 1 85 = 240 := by decide
theorem aw_86 : aws 1 86 = 6 := by decide
theorem aw_87 : aws 1 87 = 6 := by decide
theorem aw_88 : aws 1 88 = 16 := by decide
theorem aw_89 : aws 1 89 = 640 := by decide
theorem aw_90 : aws 1 90 = 1971 := by decide
theorem aw_91 : aws 2 91 = 3 := by decide
theorem aw_92 : aws 1 92 = 6 := by decide
theorem aw_93 : aws 1 93 = 24 := by decide
theorem aw_94 : aws 1 94 = 34 := by decide
theorem aw_95 : aws 1 95 = 34 := by decide
theorem aw_96 : aws 1 96 = 49 := by decide
theorem aw_97 : aws 1 97 = 49 := by decide
theorem al_11 (I : I2) (G : G2) (L : Nat) : al (mk I G L) 11 = 6 := (mk_al I G L (by decide)).trans aw_11
theorem al_12 (I : I2) (G : G2) (L : Nat) : al (mk I G L) 12 = 6 := (mk_al I G L (by decide)).trans aw_12
theorem al_13 (I : I2) (G : G2) (L : Nat) : al (mk I G L) 13 = 6 := (mk_al I G L (by decide)).trans aw_13
theorem al_14 (I : I2) (G : G2) (L : Nat) : al (mk I G L) 14 = 6 := (mk_al I G L (by decide)).trans aw_14
theorem al_15 (I : I2) (G : G2) (L : Nat) : al (mk I G L) 15 = 6 := (mk_al I G L (by decide)).trans aw_15
theorem al_16 (I : I2) (G : G2) (L : Nat) : al (mk I G L) 16 = 6 := (mk_al I G L (by decide)).trans aw_16
theorem al_17 (I : I2) (G : G2) (L : Nat) : al (mk I G L) 17 = 40 := (mk_al I G L (by decide)).trans aw_17
theorem al_19 (I : I2) (G : G2) (L : Nat) : al (mk I G L) 19 = 6 := (mk_al I G L (by decide)).trans aw_19
theorem al_20 (I : I2) (G : G2) (L : Nat) : al (mk I G L) 20 = 6 := (mk_al I G L (by decide)).trans aw_20
theorem al_21 (I : I2) (G : G2) (L : Nat) : al (mk I G L) 21 = 6 := (mk_al I G L (by decide)).trans aw_21
theorem al_22 (I : I2) (G : G2) (L : Nat) : al (mk I G L) 22 = 6 := (mk_al I G L (by decide)).trans aw_22
theorem al_23 (I : I2) (G : G2) (L : Nat) : al (mk I G L) 23 = 6 := (mk_al I G L (by decide)).trans aw_23
theorem al_24 (I : I2) (G : G2) (L : Nat) : al (mk I G L) 24 = 6 := (mk_al I G L (by decide)).trans aw_24
theorem al_25 (I : I2) (G : G2) (L : Nat) : al (mk I G L) 25 = 40 := (mk_al I G L (by decide)).trans aw_25
theorem al_29 (I : I2) (G : G2) (L : Nat) : al (mk I G L) 29 = 31 := (mk_al I G L (by decide)).trans aw_29
theorem al_30 (I : I2) (G : G2) (L : Nat) : al (mk I G L) 30 = 31 := (mk_al I G L (by decide)).trans aw_30
theorem al_32 (I : I2) (G : G2) (L : Nat) : al (mk I G L) 32 = 7 := (mk_al I G L (by decide)).trans aw_32
theorem al_33 (I : I2) (G : G2) (L : Nat) : al (mk I G L) 33 = 49 := (mk_al I G L (by decide)).trans aw_33
theorem al_34 (I : I2) (G : G2) (L : Nat) : al (mk I G L) 34 = 49 := (mk_al I G L (by decide)).trans aw_34
theorem al_35 (I : I2) (G : G2) (L : Nat) : al (mk I G L) 35 = 7 := (mk_al I G L (by decide)).trans aw_35
theorem al_36 (I : I2) (G : G2) (L : Nat) : al (mk I G L) 36 = 6 := (mk_al I G L (by decide)).trans aw_36
theorem al_58 (I : I2) (G : G2) (L : Nat) : al (mk I G L) 58 = 6 := (mk_al I G L (by decide)).trans aw_58
theorem al_59 (I : I2) (G : G2) (L : Nat) : al (mk I G L) 59 = 6 := (mk_al I G L (by decide)).trans aw_59
theorem al_60 (I : I2) (G : G2) (L : Nat) : al (mk I G L) 60 = 6 := (mk_al I G L (by decide)).trans aw_60
theorem al_61 (I : I2) (G : G2) (L : Nat) : al (mk I G L) 61 = 6 := (mk_al I G L (by decide)).trans aw_61
theorem al_62 (I : I2) (G : G2) (L : Nat) : al (mk I G L) 62 = 6 := (mk_al I G L (by decide)).trans aw_62
theorem al_63 (I : I2) (G : G2) (L : Nat) : al (mk I G L) 63 = 6 := (mk_al I G L (by decide)).trans aw_63
theorem al_64 (I : I2) (G : G2) (L : Nat) : al (mk I G L) 64 = 40 := (mk_al I G L (by decide)).trans aw_64
theorem al_66 (I : I2) (G : G2) (L : Nat) : al (mk I G L) 66 = 6 := (mk_al I G L (by decide)).trans aw_66
theorem al_67 (I : I2) (G : G2) (L : Nat) : al (mk I G L) 67 = 6 := (mk_al I G L (by decide)).trans aw_67
theorem al_68 (I : I2) (G : G2) (L : Nat) : al (mk I G L) 68 = 6 := (mk_al I G L (by decide)).trans aw_68
theorem al_69 (I : I2) (G : G2) (L : Nat) : al (mk I G L) 69 = 6 := (mk_al I G L (by decide)).trans aw_69
theorem al_70 (I : I2) (G : G2) (L : Nat) : al (mk I G L) 70 = 6 := (mk_al I G L (by decide)).trans aw_70
theorem al_71 (I : I2) (G : G2) (L : Nat) : al (mk I G L) 71 = 6 := (mk_al I G L (by decide)).trans aw_71
theorem al_72 (I : I2) (G : G2) (L : Nat) : al (mk I G L) 72 = 40 := (mk_al I G L (by decide)).trans aw_72
theorem al_74 (I : I2) (G : G2) (L : Nat) : al (mk I G L) 74 = 6 := (mk_al I G L (by decide)).trans aw_74
theorem al_75 (I : I2) (G : G2) (L : Nat) : al (mk I G L) 75 = 6 := (mk_al I G L (by decide)).trans aw_75
theorem al_76 (I : I2) (G : G2) (L : Nat) : al (mk I G L) 76 = 6 := (mk_al I G L (by decide)).trans aw_76
theorem al_77 (I : I2) (G : G2) (L : Nat) : al (mk I G L) 77 = 6 := (mk_al I G L (by decide)).trans aw_77
theorem al_78 (I : I2) (G : G2) (L : Nat) : al (mk I G L) 78 = 6 := (mk_al I G L (by decide)).trans aw_78
theorem al_79 (I : I2) (G : G2) (L : Nat) : al (mk I G L) 79 = 6 := (mk_al I G L (by decide)).trans aw_79
theorem al_80 (I : I2) (G : G2) (L : Nat) : al (mk I G L) 80 = 40 := (mk_al I G L (by decide)).trans aw_80
theorem al_82 (I : I2) (G : G2) (L : Nat) : al (mk I G L) 82 = 6 := (mk_al I G L (by decide)).trans aw_82
theorem al_83 (I : I2) (G : G2) (L : Nat) : al (mk I G L) 83 = 240 := (mk_al I G L (by decide)).trans aw_83
theorem al_84 (I : I2) (G : G2) (L : Nat) : al (mk I G L) 84 = 4 := (mk_al I G L (by decide)).trans aw_84
theorem al_85 (I : I2) (G : G2) (L : Nat) : al (mk I G L) 85 = 240 := (mk_al I G L (by decide)).trans aw_85
theorem al_86 (I : I2) (G : G2) (L : Nat) : al (mk I G L) 86 = 6 := (mk_al I G L (by decide)).trans aw_86
theorem al_87 (I : I2) (G : G2) (L : Nat) : al (mk I G L) 87 = 6 := (mk_al I G L (by decide)).trans aw_87
theorem al_88 (I : I2) (G : G2) (L : Nat) : al (mk I G L) 88 = 16 := (mk_al I G L (by decide)).trans aw_88
theorem al_89 (I : I2) (G : G2) (L : Nat) : al (mk I G L) 89 = 640 := (mk_al I G L (by decide)).trans aw_89
theorem al_90 (I : I2) (G : G2) (L : Nat) : al (mk I G L) 90 = 1971 := (mk_al I G L (by decide)).trans aw_90
theorem al_92 (I : I2) (G : G2) (L : Nat) : al (mk I G L) 92 = 6 := (mk_al I G L (by decide)).trans aw_92
theorem al_93 (I : I2) (G : G2) (L : Nat) : al (mk I G L) 93 = 24 := (mk_al I G L (by decide)).trans aw_93
theorem al_94 (I : I2) (G : G2) (L : Nat) : al (mk I G L) 94 = 34 := (mk_al I G L (by decide)).trans aw_94
theorem al_95 (I : I2) (G : G2) (L : Nat) : al (mk I G L) 95 = 34 := (mk_al I G L (by decide)).trans aw_95
theorem al_96 (I : I2) (G : G2) (L : Nat) : al (mk I G L) 96 = 49 := (mk_al I G L (by decide)).trans aw_96
theorem al_97 (I : I2) (G : G2) (L : Nat) : al (mk I G L) 97 = 49 := (mk_al I G L (by decide)).trans aw_97
theorem li_0 : (0 : Int32) = nI 0 := rfl
theorem li_1 : (1 : Int32) = nI 1 := rfl
theorem li_2 : (2 : Int32) = nI 2 := rfl
theorem li_3 : (3 : Int32) = nI 3 := rfl
theorem li_4 : (4 : Int32) = nI 4 := rfl
theorem li_5 : (5 : Int32) = nI 5 := rfl
theorem li_6 : (6 : Int32) = nI 6 := rfl
theorem li_7 : (7 : Int32) = nI 7 := rfl
theorem li_8 : (8 : Int32) = nI 8 := rfl
theorem li_9 : (9 : Int32) = nI 9 := rfl
theorem li_10 : (10 : Int32) = nI 10 := rfl
theorem li_11 : (11 : Int32) = nI 11 := rfl
theorem li_12 : (12 : Int32) = nI 12 := rfl
theorem li_15 : (15 : Int32) = nI 15 := rfl
theorem li_16 : (16 : Int32) = nI 16 := rfl
theorem li_18 : (18 : Int32) = nI 18 := rfl
theorem li_19 : (19 : Int32) = nI 19 := rfl
theorem li_20 : (20 : Int32) = nI 20 := rfl
theorem li_24 : (24 : Int32) = nI 24 := rfl
theorem li_30 : (30 : Int32) = nI 30 := rfl
theorem li_31 : (31 : Int32) = nI 31 := rfl
theorem li_32 : (32 : Int32) = nI 32 := rfl
theorem li_40 : (40 : Int32) = nI 40 := rfl
theorem li_48 : (48 : Int32) = nI 48 := rfl
theorem li_49 : (49 : Int32) = nI 49 := rfl
theorem li_55 : (55 : Int32) = nI 55 := rfl
theorem li_56 : (56 : Int32) = nI 56 := rfl
theorem li_57 : (57 : Int32) = nI 57 := rfl
theorem li_60 : (60 : Int32) = nI 60 := rfl
theorem li_63 : (63 : Int32) = nI 63 := rfl
theorem li_97 : (97 : Int32) = nI 97 := rfl
theorem li_98 : (98 : Int32) = nI 98 := rfl
theorem li_99 : (99 : Int32) = nI 99 := rfl
theorem li_100 : (100 : Int32) = nI 100 := rfl
theorem li_107 : (107 : Int32) = nI 107 := rfl
theorem li_110 : (110 : Int32) = nI 110 := rfl
theorem li_115 : (115 : Int32) = nI 115 := rfl
theorem li_117 : (117 : Int32) = nI 117 := rfl
theorem li_600 : (600 : Int32) = nI 600 := rfl
theorem li_640 : (640 : Int32) = nI 640 := rfl
theorem li_656 : (656 : Int32) = nI 656 := rfl
theorem li_657 : (657 : Int32) = nI 657 := rfl
theorem li_1000 : (1000 : Int32) = nI 1000 := rfl
theorem li_2147483646 : (2147483646 : Int32) = nI 2147483646 := rfl
theorem li_1000000 : (1000000 : Int32) = nI 1000000 := rfl
theorem oc_r {r : Nat} (h : r < 6) : ocs (37 + 2 * r) 8 = true := oc_row h
theorem oc_t {r : Nat} (h : r < 4) : ocs (49 + 2 * r) 8 = true := oc_txt h
theorem oc_k {r : Nat} (h : r < 3) : ocs (57 + 8 * r) 4 = true := oc_kpt h
theorem rf_r {r : Nat} (h : r < 6) : rf0 1 r = some (37 + 2 * r) := (rf_row h).1
theorem rf_rc {r : Nat} (h : r < 6) : rf0 (37 + 2 * r) 0 = some (38 + 2 * r) := (rf_row h).2.1
theorem aw_r {r : Nat} (h : r < 6) : aws 1 (38 + 2 * r) = 40 := (rf_row h).2.2
theorem al_r {r : Nat} (h : r < 6) (I : I2) (G : G2) (L : Nat) : al (mk I G L) (38 + 2 * r) = 40 := by rw [mk_al _ _ _ (by omega), aw_r h]
theorem rf_t {r : Nat} (h : r < 4) : rf0 2 r = some (49 + 2 * r) := (rf_txt h).1
theorem rf_tc {r : Nat} (h : r < 4) : rf0 (49 + 2 * r) 0 = some (50 + 2 * r) := (rf_txt h).2.1
theorem aw_t {r : Nat} (h : r < 4) : aws 1 (50 + 2 * r) = 60 := (rf_txt h).2.2
theorem al_t {r : Nat} (h : r < 4) (I : I2) (G : G2) (L : Nat) : al (mk I G L) (50 + 2 * r) = 60 := by rw [mk_al _ _ _ (by omega), aw_t h]
theorem rf_k {r : Nat} (h : r < 3) : rf0 26 r = some (57 + 8 * r) := rf_kpt h
theorem w2_s (I : I2) (k j : Nat) (v : Int32) : w2 I k j v k j = v := by simp [w2]
theorem w2_j (I : I2) {k j : Nat} {v : Int32} {j' : Nat} (h : j' ≠ j) : w2 I k j v k j' = I k j' := by simp [w2, h]
theorem w2_k (I : I2) {k j : Nat} {v : Int32} {k' j' : Nat} (h : k' ≠ k) : w2 I k j v k' j' = I k' j' := by simp [w2, h]
theorem g2_s (G : G2) (k j : Nat) (v : Int64) : g2 G k j v k j = v := by simp [g2]
theorem g2_j (G : G2) {k j : Nat} {v : Int64} {j' : Nat} (h : j' ≠ j) : g2 G k j v k j' = G k j' := by simp [g2, h]
theorem g2_k (G : G2) {k j : Nat} {v : Int64} {k' j' : Nat} (h : k' ≠ k) : g2 G k j v k' j' = G k' j' := by simp [g2, h]
theorem al_1001 (I : I2) (G : G2) (L : Nat) : al (mk I G L) 1001 = 6 := congrArg (fun n : Nat => n) (rfl : al (mk I G L) 1001 = 6)
theorem al_1000 (I : I2) (G : G2) (L : Nat) : al (mk I G L) 1000 = L := rfl
theorem gr_mk (I : I2) (G : G2) (L k j : Nat) : gr (mk I G L) k j = rf0 k j := rfl
theorem gi_mk (I : I2) (G : G2) (L k j : Nat) : gi (mk I G L) k j = I k j := rfl
theorem gg_mk (I : I2) (G : G2) (L k j : Nat) : gg (mk I G L) k j = G k j := rfl
theorem rb_0_0 {α : Type} (I : I2) (G : G2) (L : Nat) (f : Nat → Option α) : (gr (mk I G L) 0 0).bind f = f 1 := congrArg (fun o : Option Nat => o.bind f) rf_0_0
theorem rb_0_1 {α : Type} (I : I2) (G : G2) (L : Nat) (f : Nat → Option α) : (gr (mk I G L) 0 1).bind f = f 2 := congrArg (fun o : Option Nat => o.bind f) rf_0_1
theorem rb_0_2 {α : Type} (I : I2) (G : G2) (L : Nat) (f : Nat → Option α) : (gr (mk I G L) 0 2).bind f = f 3 := congrArg (fun o : Option Nat => o.bind f) rf_0_2
theorem rb_0_3 {α : Type} (I : I2) (G : G2) (L : Nat) (f : Nat → Option α) : (gr (mk I G L) 0 3).bind f = f 10 := congrArg (fun o : Option Nat => o.bind f) rf_0_3
theorem rb_0_4 {α : Type} (I : I2) (G : G2) (L : Nat) (f : Nat → Option α) : (gr (mk I G L) 0 4).bind f = f 18 := congrArg (fun o : Option Nat => o.bind f) rf_0_4
theorem rb_0_5 {α : Type} (I : I2) (G : G2) (L : Nat) (f : Nat → Option α) : (gr (mk I G L) 0 5).bind f = f 26 := congrArg (fun o : Option Nat => o.bind f) rf_0_5
theorem rb_0_6 {α : Type} (I : I2) (G : G2) (L : Nat) (f : Nat → Option α) : (gr (mk I G L) 0 6).bind f = f 27 := congrArg (fun o : Option Nat => o.bind f) rf_0_6
theorem rb_0_7 {α : Type} (I : I2) (G : G2) (L : Nat) (f : Nat → Option α) : (gr (mk I G L) 0 7).bind f = f 28 := congrArg (fun o : Option Nat => o.bind f) rf_0_7
theorem rb_0_8 {α : Type} (I : I2) (G : G2) (L : Nat) (f : Nat → Option α) : (gr (mk I G L) 0 8).bind f = f 31 := congrArg (fun o : Option Nat => o.bind f) rf_0_8
theorem rb_0_9 {α : Type} (I : I2) (G : G2) (L : Nat) (f : Nat → Option α) : (gr (mk I G L) 0 9).bind f = f 35 := congrArg (fun o : Option Nat => o.bind f) rf_0_9
theorem rb_0_10 {α : Type} (I : I2) (G : G2) (L : Nat) (f : Nat → Option α) : (gr (mk I G L) 0 10).bind f = f 36 := congrArg (fun o : Option Nat => o.bind f) rf_0_10
theorem rb_1_0 {α : Type} (I : I2) (G : G2) (L : Nat) (f : Nat → Option α) : (gr (mk I G L) 1 0).bind f = f 37 := congrArg (fun o : Option Nat => o.bind f) rf_1_0
theorem rb_1_1 {α : Type} (I : I2) (G : G2) (L : Nat) (f : Nat → Option α) : (gr (mk I G L) 1 1).bind f = f 39 := congrArg (fun o : Option Nat => o.bind f) rf_1_1
theorem rb_1_2 {α : Type} (I : I2) (G : G2) (L : Nat) (f : Nat → Option α) : (gr (mk I G L) 1 2).bind f = f 41 := congrArg (fun o : Option Nat => o.bind f) rf_1_2
theorem rb_1_3 {α : Type} (I : I2) (G : G2) (L : Nat) (f : Nat → Option α) : (gr (mk I G L) 1 3).bind f = f 43 := congrArg (fun o : Option Nat => o.bind f) rf_1_3
theorem rb_1_4 {α : Type} (I : I2) (G : G2) (L : Nat) (f : Nat → Option α) : (gr (mk I G L) 1 4).bind f = f 45 := congrArg (fun o : Option Nat => o.bind f) rf_1_4
theorem rb_1_5 {α : Type} (I : I2) (G : G2) (L : Nat) (f : Nat → Option α) : (gr (mk I G L) 1 5).bind f = f 47 := congrArg (fun o : Option Nat => o.bind f) rf_1_5
theorem rb_2_0 {α : Type} (I : I2) (G : G2) (L : Nat) (f : Nat → Option α) : (gr (mk I G L) 2 0).bind f = f 49 := congrArg (fun o : Option Nat => o.bind f) rf_2_0
theorem rb_2_1 {α : Type} (I : I2) (G : G2) (L : Nat) (f : Nat → Option α) : (gr (mk I G L) 2 1).bind f = f 51 := congrArg (fun o : Option Nat => o.bind f) rf_2_1
theorem rb_2_2 {α : Type} (I : I2) (G : G2) (L : Nat) (f : Nat → Option α) : (gr (mk I G L) 2 2).bind f = f 53 := congrArg (fun o : Option Nat => o.bind f) rf_2_2
theorem rb_2_3 {α : Type} (I : I2) (G : G2) (L : Nat) (f : Nat → Option α) : (gr (mk I G L) 2 3).bind f = f 55 := congrArg (fun o : Option Nat => o.bind f) rf_2_3
theorem rb_3_0 {α : Type} (I : I2) (G : G2) (L : Nat) (f : Nat → Option α) : (gr (mk I G L) 3 0).bind f = f 4 := congrArg (fun o : Option Nat => o.bind f) rf_3_0
theorem rb_3_1 {α : Type} (I : I2) (G : G2) (L : Nat) (f : Nat → Option α) : (gr (mk I G L) 3 1).bind f = f 5 := congrArg (fun o : Option Nat => o.bind f) rf_3_1
theorem rb_3_2 {α : Type} (I : I2) (G : G2) (L : Nat) (f : Nat → Option α) : (gr (mk I G L) 3 2).bind f = f 6 := congrArg (fun o : Option Nat => o.bind f) rf_3_2
theorem rb_3_3 {α : Type} (I : I2) (G : G2) (L : Nat) (f : Nat → Option α) : (gr (mk I G L) 3 3).bind f = f 7 := congrArg (fun o : Option Nat => o.bind f) rf_3_3
theorem rb_3_4 {α : Type} (I : I2) (G : G2) (L : Nat) (f : Nat → Option α) : (gr (mk I G L) 3 4).bind f = f 8 := congrArg (fun o : Option Nat => o.bind f) rf_3_4
theorem rb_3_5 {α : Type} (I : I2) (G : G2) (L : Nat) (f : Nat → Option α) : (gr (mk I G L) 3 5).bind f = f 9 := congrArg (fun o : Option Nat => o.bind f) rf_3_5
theorem rb_10_0 {α : Type} (I : I2) (G : G2) (L : Nat) (f : Nat → Option α) : (gr (mk I G L) 10 0).bind f = f 3 := congrArg (fun o : Option Nat => o.bind f) rf_10_0
theorem rb_10_1 {α : Type} (I : I2) (G : G2) (L : Nat) (f : Nat → Option α) : (gr (mk I G L) 10 1).bind f = f 11 := congrArg (fun o : Option Nat => o.bind f) rf_10_1
theorem rb_10_2 {α : Type} (I : I2) (G : G2) (L : Nat) (f : Nat → Option α) : (gr (mk I G L) 10 2).bind f = f 12 := congrArg (fun o : Option Nat => o.bind f) rf_10_2
theorem rb_10_3 {α : Type} (I : I2) (G : G2) (L : Nat) (f : Nat → Option α) : (gr (mk I G L) 10 3).bind f = f 13 := congrArg (fun o : Option Nat => o.bind f) rf_10_3
theorem rb_10_4 {α : Type} (I : I2) (G : G2) (L : Nat) (f : Nat → Option α) : (gr (mk I G L) 10 4).bind f = f 14 := congrArg (fun o : Option Nat => o.bind f) rf_10_4
theorem rb_10_5 {α : Type} (I : I2) (G : G2) (L : Nat) (f : Nat → Option α) : (gr (mk I G L) 10 5).bind f = f 15 := congrArg (fun o : Option Nat => o.bind f) rf_10_5
theorem rb_10_6 {α : Type} (I : I2) (G : G2) (L : Nat) (f : Nat → Option α) : (gr (mk I G L) 10 6).bind f = f 16 := congrArg (fun o : Option Nat => o.bind f) rf_10_6
theorem rb_10_7 {α : Type} (I : I2) (G : G2) (L : Nat) (f : Nat → Option α) : (gr (mk I G L) 10 7).bind f = f 17 := congrArg (fun o : Option Nat => o.bind f) rf_10_7
theorem rb_18_0 {α : Type} (I : I2) (G : G2) (L : Nat) (f : Nat → Option α) : (gr (mk I G L) 18 0).bind f = f 3 := congrArg (fun o : Option Nat => o.bind f) rf_18_0
theorem rb_18_1 {α : Type} (I : I2) (G : G2) (L : Nat) (f : Nat → Option α) : (gr (mk I G L) 18 1).bind f = f 19 := congrArg (fun o : Option Nat => o.bind f) rf_18_1
theorem rb_18_2 {α : Type} (I : I2) (G : G2) (L : Nat) (f : Nat → Option α) : (gr (mk I G L) 18 2).bind f = f 20 := congrArg (fun o : Option Nat => o.bind f) rf_18_2
theorem rb_18_3 {α : Type} (I : I2) (G : G2) (L : Nat) (f : Nat → Option α) : (gr (mk I G L) 18 3).bind f = f 21 := congrArg (fun o : Option Nat => o.bind f) rf_18_3
theorem rb_18_4 {α : Type} (I : I2) (G : G2) (L : Nat) (f : Nat → Option α) : (gr (mk I G L) 18 4).bind f = f 22 := congrArg (fun o : Option Nat => o.bind f) rf_18_4
theorem rb_18_5 {α : Type} (I : I2) (G : G2) (L : Nat) (f : Nat → Option α) : (gr (mk I G L) 18 5).bind f = f 23 := congrArg (fun o : Option Nat => o.bind f) rf_18_5
theorem rb_18_6 {α : Type} (I : I2) (G : G2) (L : Nat) (f : Nat → Option α) : (gr (mk I G L) 18 6).bind f = f 24 := congrArg (fun o : Option Nat => o.bind f) rf_18_6
theorem rb_18_7 {α : Type} (I : I2) (G : G2) (L : Nat) (f : Nat → Option α) : (gr (mk I G L) 18 7).bind f = f 25 := congrArg (fun o : Option Nat => o.bind f) rf_18_7
theorem rb_26_0 {α : Type} (I : I2) (G : G2) (L : Nat) (f : Nat → Option α) : (gr (mk I G L) 26 0).bind f = f 57 := congrArg (fun o : Option Nat => o.bind f) rf_26_0
theorem rb_26_1 {α : Type} (I : I2) (G : G2) (L : Nat) (f : Nat → Option α) : (gr (mk I G L) 26 1).bind f = f 65 := congrArg (fun o : Option Nat => o.bind f) rf_26_1
theorem rb_26_2 {α : Type} (I : I2) (G : G2) (L : Nat) (f : Nat → Option α) : (gr (mk I G L) 26 2).bind f = f 73 := congrArg (fun o : Option Nat => o.bind f) rf_26_2
theorem rb_28_0 {α : Type} (I : I2) (G : G2) (L : Nat) (f : Nat → Option α) : (gr (mk I G L) 28 0).bind f = f 29 := congrArg (fun o : Option Nat => o.bind f) rf_28_0
theorem rb_28_1 {α : Type} (I : I2) (G : G2) (L : Nat) (f : Nat → Option α) : (gr (mk I G L) 28 1).bind f = f 30 := congrArg (fun o : Option Nat => o.bind f) rf_28_1
theorem rb_31_0 {α : Type} (I : I2) (G : G2) (L : Nat) (f : Nat → Option α) : (gr (mk I G L) 31 0).bind f = f 32 := congrArg (fun o : Option Nat => o.bind f) rf_31_0
theorem rb_31_1 {α : Type} (I : I2) (G : G2) (L : Nat) (f : Nat → Option α) : (gr (mk I G L) 31 1).bind f = f 33 := congrArg (fun o : Option Nat => o.bind f) rf_31_1
theorem rb_31_2 {α : Type} (I : I2) (G : G2) (L : Nat) (f : Nat → Option α) : (gr (mk I G L) 31 2).bind f = f 34 := congrArg (fun o : Option Nat => o.bind f) rf_31_2
theorem rb_37_0 {α : Type} (I : I2) (G : G2) (L : Nat) (f : Nat → Option α) : (gr (mk I G L) 37 0).bind f = f 38 := congrArg (fun o : Option Nat => o.bind f) rf_37_0
theorem rb_39_0 {α : Type} (I : I2) (G : G2) (L : Nat) (f : Nat → Option α) : (gr (mk I G L) 39 0).bind f = f 40 := congrArg (fun o : Option Nat => o.bind f) rf_39_0
theorem rb_41_0 {α : Type} (I : I2) (G : G2) (L : Nat) (f : Nat → Option α) : (gr (mk I G L) 41 0).bind f = f 42 := congrArg (fun o : Option Nat => o.bind f) rf_41_0
theorem rb_43_0 {α : Type} (I : I2) (G : G2) (L : Nat) (f : Nat → Option α) : (gr (mk I G L) 43 0).bind f = f 44 := congrArg (fun o : Option Nat => o.bind f) rf_43_0
theorem rb_45_0 {α : Type} (I : I2) (G : G2) (L : Nat) (f : Nat → Option α) : (gr (mk I G L) 45 0).bind f = f 46 := congrArg (fun o : Option Nat => o.bind f) rf_45_0
theorem rb_47_0 {α : Type} (I : I2) (G : G2) (L : Nat) (f : Nat → Option α) : (gr (mk I G L) 47 0).bind f = f 48 := congrArg (fun o : Option Nat => o.bind f) rf_47_0
theorem rb_49_0 {α : Type} (I : I2) (G : G2) (L : Nat) (f : Nat → Option α) : (gr (mk I G L) 49 0).bind f = f 50 := congrArg (fun o : Option Nat => o.bind f) rf_49_0
theorem rb_51_0 {α : Type} (I : I2) (G : G2) (L : Nat) (f : Nat → Option α) : (gr (mk I G L) 51 0).bind f = f 52 := congrArg (fun o : Option Nat => o.bind f) rf_51_0
theorem rb_53_0 {α : Type} (I : I2) (G : G2) (L : Nat) (f : Nat → Option α) : (gr (mk I G L) 53 0).bind f = f 54 := congrArg (fun o : Option Nat => o.bind f) rf_53_0
theorem rb_55_0 {α : Type} (I : I2) (G : G2) (L : Nat) (f : Nat → Option α) : (gr (mk I G L) 55 0).bind f = f 56 := congrArg (fun o : Option Nat => o.bind f) rf_55_0
theorem rb_57_0 {α : Type} (I : I2) (G : G2) (L : Nat) (f : Nat → Option α) : (gr (mk I G L) 57 0).bind f = f 3 := congrArg (fun o : Option Nat => o.bind f) rf_57_0
theorem rb_57_1 {α : Type} (I : I2) (G : G2) (L : Nat) (f : Nat → Option α) : (gr (mk I G L) 57 1).bind f = f 58 := congrArg (fun o : Option Nat => o.bind f) rf_57_1
theorem rb_57_2 {α : Type} (I : I2) (G : G2) (L : Nat) (f : Nat → Option α) : (gr (mk I G L) 57 2).bind f = f 59 := congrArg (fun o : Option Nat => o.bind f) rf_57_2
theorem rb_57_3 {α : Type} (I : I2) (G : G2) (L : Nat) (f : Nat → Option α) : (gr (mk I G L) 57 3).bind f = f 60 := congrArg (fun o : Option Nat => o.bind f) rf_57_3
theorem rb_57_4 {α : Type} (I : I2) (G : G2) (L : Nat) (f : Nat → Option α) : (gr (mk I G L) 57 4).bind f = f 61 := congrArg (fun o : Option Nat => o.bind f) rf_57_4
theorem rb_57_5 {α : Type} (I : I2) (G : G2) (L : Nat) (f : Nat → Option α) : (gr (mk I G L) 57 5).bind f = f 62 := congrArg (fun o : Option Nat => o.bind f) rf_57_5
theorem rb_57_6 {α : Type} (I : I2) (G : G2) (L : Nat) (f : Nat → Option α) : (gr (mk I G L) 57 6).bind f = f 63 := congrArg (fun o : Option Nat => o.bind f) rf_57_6
theorem rb_57_7 {α : Type} (I : I2) (G : G2) (L : Nat) (f : Nat → Option α) : (gr (mk I G L) 57 7).bind f = f 64 := congrArg (fun o : Option Nat => o.bind f) rf_57_7
theorem rb_65_0 {α : Type} (I : I2) (G : G2) (L : Nat) (f : Nat → Option α) : (gr (mk I G L) 65 0).bind f = f 3 := congrArg (fun o : Option Nat => o.bind f) rf_65_0
theorem rb_65_1 {α : Type} (I : I2) (G : G2) (L : Nat) (f : Nat → Option α) : (gr (mk I G L) 65 1).bind f = f 66 := congrArg (fun o : Option Nat => o.bind f) rf_65_1
theorem rb_65_2 {α : Type} (I : I2) (G : G2) (L : Nat) (f : Nat → Option α) : (gr (mk I G L) 65 2).bind f = f 67 := congrArg (fun o : Option Nat => o.bind f) rf_65_2
theorem rb_65_3 {α : Type} (I : I2) (G : G2) (L : Nat) (f : Nat → Option α) : (gr (mk I G L) 65 3).bind f = f 68 := congrArg (fun o : Option Nat => o.bind f) rf_65_3
theorem rb_65_4 {α : Type} (I : I2) (G : G2) (L : Nat) (f : Nat → Option α) : (gr (mk I G L) 65 4).bind f = f 69 := congrArg (fun o : Option Nat => o.bind f) rf_65_4
theorem rb_65_5 {α : Type} (I : I2) (G : G2) (L : Nat) (f : Nat → Option α) : (gr (mk I G L) 65 5).bind f = f 70 := congrArg (fun o : Option Nat => o.bind f) rf_65_5
theorem rb_65_6 {α : Type} (I : I2) (G : G2) (L : Nat) (f : Nat → Option α) : (gr (mk I G L) 65 6).bind f = f 71 := congrArg (fun o : Option Nat => o.bind f) rf_65_6
theorem rb_65_7 {α : Type} (I : I2) (G : G2) (L : Nat) (f : Nat → Option α) : (gr (mk I G L) 65 7).bind f = f 72 := congrArg (fun o : Option Nat => o.bind f) rf_65_7
theorem rb_73_0 {α : Type} (I : I2) (G : G2) (L : Nat) (f : Nat → Option α) : (gr (mk I G L) 73 0).bind f = f 3 := congrArg (fun o : Option Nat => o.bind f) rf_73_0
theorem rb_73_1 {α : Type} (I : I2) (G : G2) (L : Nat) (f : Nat → Option α) : (gr (mk I G L) 73 1).bind f = f 74 := congrArg (fun o : Option Nat => o.bind f) rf_73_1
theorem rb_73_2 {α : Type} (I : I2) (G : G2) (L : Nat) (f : Nat → Option α) : (gr (mk I G L) 73 2).bind f = f 75 := congrArg (fun o : Option Nat => o.bind f) rf_73_2
theorem rb_73_3 {α : Type} (I : I2) (G : G2) (L : Nat) (f : Nat → Option α) : (gr (mk I G L) 73 3).bind f = f 76 := congrArg (fun o : Option Nat => o.bind f) rf_73_3
theorem rb_73_4 {α : Type} (I : I2) (G : G2) (L : Nat) (f : Nat → Option α) : (gr (mk I G L) 73 4).bind f = f 77 := congrArg (fun o : Option Nat => o.bind f) rf_73_4
theorem rb_73_5 {α : Type} (I : I2) (G : G2) (L : Nat) (f : Nat → Option α) : (gr (mk I G L) 73 5).bind f = f 78 := congrArg (fun o : Option Nat => o.bind f) rf_73_5
theorem rb_73_6 {α : Type} (I : I2) (G : G2) (L : Nat) (f : Nat → Option α) : (gr (mk I G L) 73 6).bind f = f 79 := congrArg (fun o : Option Nat => o.bind f) rf_73_6
theorem rb_73_7 {α : Type} (I : I2) (G : G2) (L : Nat) (f : Nat → Option α) : (gr (mk I G L) 73 7).bind f = f 80 := congrArg (fun o : Option Nat => o.bind f) rf_73_7
theorem rb_81_0 {α : Type} (I : I2) (G : G2) (L : Nat) (f : Nat → Option α) : (gr (mk I G L) 81 0).bind f = f 82 := congrArg (fun o : Option Nat => o.bind f) rf_81_0
theorem rb_81_1 {α : Type} (I : I2) (G : G2) (L : Nat) (f : Nat → Option α) : (gr (mk I G L) 81 1).bind f = f 83 := congrArg (fun o : Option Nat => o.bind f) rf_81_1
theorem rb_81_2 {α : Type} (I : I2) (G : G2) (L : Nat) (f : Nat → Option α) : (gr (mk I G L) 81 2).bind f = f 84 := congrArg (fun o : Option Nat => o.bind f) rf_81_2
theorem rb_81_3 {α : Type} (I : I2) (G : G2) (L : Nat) (f : Nat → Option α) : (gr (mk I G L) 81 3).bind f = f 85 := congrArg (fun o : Option Nat => o.bind f) rf_81_3
theorem rb_81_6 {α : Type} (I : I2) (G : G2) (L : Nat) (f : Nat → Option α) : (gr (mk I G L) 81 6).bind f = f 86 := congrArg (fun o : Option Nat => o.bind f) rf_81_6
theorem rb_81_7 {α : Type} (I : I2) (G : G2) (L : Nat) (f : Nat → Option α) : (gr (mk I G L) 81 7).bind f = f 87 := congrArg (fun o : Option Nat => o.bind f) rf_81_7
theorem rb_81_8 {α : Type} (I : I2) (G : G2) (L : Nat) (f : Nat → Option α) : (gr (mk I G L) 81 8).bind f = f 88 := congrArg (fun o : Option Nat => o.bind f) rf_81_8
theorem rb_81_10 {α : Type} (I : I2) (G : G2) (L : Nat) (f : Nat → Option α) : (gr (mk I G L) 81 10).bind f = f 89 := congrArg (fun o : Option Nat => o.bind f) rf_81_10
theorem rb_81_11 {α : Type} (I : I2) (G : G2) (L : Nat) (f : Nat → Option α) : (gr (mk I G L) 81 11).bind f = f 90 := congrArg (fun o : Option Nat => o.bind f) rf_81_11
theorem rb_81_12 {α : Type} (I : I2) (G : G2) (L : Nat) (f : Nat → Option α) : (gr (mk I G L) 81 12).bind f = f 91 := congrArg (fun o : Option Nat => o.bind f) rf_81_12
theorem rb_81_17 {α : Type} (I : I2) (G : G2) (L : Nat) (f : Nat → Option α) : (gr (mk I G L) 81 17).bind f = f 92 := congrArg (fun o : Option Nat => o.bind f) rf_81_17
theorem rb_81_22 {α : Type} (I : I2) (G : G2) (L : Nat) (f : Nat → Option α) : (gr (mk I G L) 81 22).bind f = f 93 := congrArg (fun o : Option Nat => o.bind f) rf_81_22
theorem rb_81_24 {α : Type} (I : I2) (G : G2) (L : Nat) (f : Nat → Option α) : (gr (mk I G L) 81 24).bind f = f 94 := congrArg (fun o : Option Nat => o.bind f) rf_81_24
theorem rb_81_25 {α : Type} (I : I2) (G : G2) (L : Nat) (f : Nat → Option α) : (gr (mk I G L) 81 25).bind f = f 95 := congrArg (fun o : Option Nat => o.bind f) rf_81_25
theorem rb_81_26 {α : Type} (I : I2) (G : G2) (L : Nat) (f : Nat → Option α) : (gr (mk I G L) 81 26).bind f = f 96 := congrArg (fun o : Option Nat => o.bind f) rf_81_26
theorem rb_81_27 {α : Type} (I : I2) (G : G2) (L : Nat) (f : Nat → Option α) : (gr (mk I G L) 81 27).bind f = f 97 := congrArg (fun o : Option Nat => o.bind f) rf_81_27
theorem d_lt {a b : Nat} (h : a < b) : (a < b) = True := eq_true h
theorem d_nlt {a b : Nat} (h : ¬ a < b) : (a < b) = False := eq_false h
theorem d_le {a b : Nat} (h : a ≤ b) : (a ≤ b) = True := eq_true h
theorem d_nle {a b : Nat} (h : ¬ a ≤ b) : (a ≤ b) = False := eq_false h
theorem d_eq {a b : Nat} (h : a = b) : (a = b) = True := eq_true h
theorem d_neq {a b : Nat} (h : ¬ a = b) : (a = b) = False := eq_false h
theorem ll_0 : (0 : Int64) = lN 0 := rfl
theorem ll_1 : (1 : Int64) = lN 1 := rfl
theorem ll_12 : (12 : Int64) = lN 12 := rfl
theorem e_llt {a b : Nat} (ha : a < 2 ^ 63) (hb : b < 2 ^ 63) : (lN a < lN b) = (a < b) := propext (pk_lLT ha hb)
theorem e_leq {a b : Nat} (ha : a < 2 ^ 63) (hb : b < 2 ^ 63) : (lN a = lN b) = (a = b) := propext (pk_lEQ ha hb)
theorem c_lt0 (x y : Int64) : (lg_cmp x y < nI 0) = (x < y) := c_lt x y
theorem c_gt0 (x y : Int64) : (nI 0 < lg_cmp x y) = (y < x) := c_gt x y
theorem c_le0 (x y : Int64) : (lg_cmp x y ≤ nI 0) = ¬ (y < x) := c_le x y
theorem lt_I {α : Type} (I : I2) (G : G2) (L k j : Nat) (v : Int32) (F : Sx → α) : lt (sI (mk I G L) k j v) F = F (mk (w2 I k j v) G L) := by rw [mk_sI]; rfl
theorem lt_L {α : Type} (I : I2) (G : G2) (L k j : Nat) (v : Int64) (F : Sx → α) : lt (sL (mk I G L) k j v) F = F (mk I (g2 G k j v) L) := by rw [mk_sL]; rfl
theorem rb_r {α : Type} {r : Nat} (h : r < 6) (I : I2) (G : G2) (L : Nat) (f : Nat → Option α) : (gr (mk I G L) 1 (nI r).toNatClampNeg).bind f = f (37 + 2 * r) := by rw [e_clamp (by omega), gr_mk, rf_r h]; rfl
theorem rb_rc {α : Type} {r : Nat} (h : r < 6) (I : I2) (G : G2) (L : Nat) (f : Nat → Option α) : (gr (mk I G L) (37 + 2 * r) 0).bind f = f (38 + 2 * r) := by rw [gr_mk, rf_rc h]; rfl
theorem rb_t {α : Type} {r : Nat} (h : r < 4) (I : I2) (G : G2) (L : Nat) (f : Nat → Option α) : (gr (mk I G L) 2 (nI r).toNatClampNeg).bind f = f (49 + 2 * r) := by rw [e_clamp (by omega), gr_mk, rf_t h]; rfl
theorem rb_tc {α : Type} {r : Nat} (h : r < 4) (I : I2) (G : G2) (L : Nat) (f : Nat → Option α) : (gr (mk I G L) (49 + 2 * r) 0).bind f = f (50 + 2 * r) := by rw [gr_mk, rf_tc h]; rfl
theorem rb_k {α : Type} {r : Nat} (h : r < 3) (I : I2) (G : G2) (L : Nat) (f : Nat → Option α) : (gr (mk I G L) 26 (nI r).toNatClampNeg).bind f = f (57 + 8 * r) := by rw [e_clamp (by omega), gr_mk, rf_k h]; rfl
