/-! ===== begin, undo ===== -/
def cpD (I : I2) (c m : Nat) : I2 := fun k j => if k = c + 3 ∧ j < m then I (c + 5) j else if k = c + 4 ∧ j < m then I (c + 6) j else I k j
theorem cpD_ne {I : I2} {c m k j : Nat} (h1 : ¬ (k = c + 3 ∧ j < m)) (h2 : ¬ (k = c + 4 ∧ j < m)) : cpD I c m k j = I k j := by
  unfold cpD; rw [if_neg h1, if_neg h2]
theorem cpD_step (I : I2) (c m : Nat) : w2 (w2 (cpD I c m) (c + 3) m (cpD I c m (c + 5) m)) (c + 4) m (w2 (cpD I c m) (c + 3) m (cpD I c m (c + 5) m) (c + 6) m) = cpD I c (m + 1) := by
  have e5 : cpD I c m (c + 5) m = I (c + 5) m := cpD_ne (by omega) (by omega)
  have e6 : cpD I c m (c + 6) m = I (c + 6) m := cpD_ne (by omega) (by omega)
  rw [w2_ne _ (show ¬ (c + 6 = c + 3 ∧ m = m) by omega), e5, e6]
  funext k j
  by_cases a : k = c + 4 ∧ j = m
  · obtain ⟨rfl, rfl⟩ := a
    rw [w2_s]
    unfold cpD
    rw [if_neg (by omega), if_pos (by omega)]
  · rw [w2_ne _ a]
    by_cases b : k = c + 3 ∧ j = m
    · obtain ⟨rfl, rfl⟩ := b
      rw [w2_s]
      unfold cpD
      rw [if_pos (by omega)]
    · rw [w2_ne _ b]
      unfold cpD
      by_cases d1 : k = c + 3 ∧ j < m
      · rw [if_pos d1, if_pos (by omega)]
      · rw [if_neg d1, if_neg (show ¬ (k = c + 3 ∧ j < m + 1) by omega)]
        by_cases d2 : k = c + 4 ∧ j < m
        · rw [if_pos d2, if_pos (show k = c + 4 ∧ j < m + 1 by omega)]
        · rw [if_neg d2, if_neg (show ¬ (k = c + 4 ∧ j < m + 1) by omega)]
def bgn (I : I2) (c D : Nat) : I2 := w2 (w2 (w2 (w2 (w2 (cpD I c D) c 11 (I c 10)) c 12 (nI 0)) c 13 (nI 0)) c 14 (nI 0)) c 15 (nI 0)
theorem p_33 {c D : Nat} (hc : c = 10 ∨ c = 18 ∨ c = 57 ∨ c = 65 ∨ c = 73) (I : I2) (G : G2) (L : Nat) (hD : I c 9 = nI D) (h6 : D ≤ 6) : ∀ d i f, D - i = d → i ≤ D → d < f → l33_2 f c (nI i) (mk (cpD I c i) G L) = some (mk (bgn I c D) G L) := by
  intro d
  induction d with
  | zero =>
    intro i f h1 h2 h3
    obtain ⟨g, rfl⟩ : ∃ g, f = g + 1 := ⟨f - 1, by omega⟩
    obtain rfl : i = D := by omega
    have e9 : cpD I c i c 9 = nI i := by rw [cpD_ne (by omega) (by omega), hD]
    have e10 : cpD I c i c 10 = I c 10 := cpD_ne (by omega) (by omega)
    show b33_2 _ _ _ _ = _
    rw [f_b33_2]
    simp (maxSteps := 20000) (disch := omega) only [mk_oc, mk_aw, mk_sI, mk_sL, gi_mk, gg_mk, ↓lt_I, ↓lt_L, ↓bn_some, ↓bq_some, ↓bq_none, ↓bn_none, ↓bq_ite, ↓bn_ite, ↓bq_bind, ↓bn_bind, ↓bq_bq, ↓bn_bq, ↓bq_lt, ↓bn_lt, ↓reduceIte, ↓rb_0_0, ↓rb_0_1, ↓rb_0_2, ↓rb_0_3, ↓rb_0_4, ↓rb_0_5, ↓rb_0_6, ↓rb_0_7, ↓rb_0_8, ↓rb_0_9, ↓rb_0_10, ↓rb_1_0, ↓rb_1_1, ↓rb_1_2, ↓rb_1_3, ↓rb_1_4, ↓rb_1_5, ↓rb_2_0, ↓rb_2_1, ↓rb_2_2, ↓rb_2_3, ↓rb_3_0, ↓rb_3_1, ↓rb_3_2, ↓rb_3_3, ↓rb_3_4, ↓rb_3_5, ↓rb_10_0, ↓rb_10_1, ↓rb_10_2, ↓rb_10_3, ↓rb_10_4, ↓rb_10_5, ↓rb_10_6, ↓rb_10_7, ↓rb_18_0, ↓rb_18_1, ↓rb_18_2, ↓rb_18_3, ↓rb_18_4, ↓rb_18_5, ↓rb_18_6, ↓rb_18_7, ↓rb_26_0, ↓rb_26_1, ↓rb_26_2, ↓rb_28_0, ↓rb_28_1, ↓rb_31_0, ↓rb_31_1, ↓rb_31_2, ↓rb_37_0, ↓rb_39_0, ↓rb_41_0, ↓rb_43_0, ↓rb_45_0, ↓rb_47_0, ↓rb_49_0, ↓rb_51_0, ↓rb_53_0, ↓rb_55_0, ↓rb_57_0, ↓rb_57_1, ↓rb_57_2, ↓rb_57_3, ↓rb_57_4, ↓rb_57_5, ↓rb_57_6, ↓rb_57_7, ↓rb_65_0, ↓rb_65_1, ↓rb_65_2, ↓rb_65_3, ↓rb_65_4, ↓rb_65_5, ↓rb_65_6, ↓rb_65_7, ↓rb_73_0, ↓rb_73_1, ↓rb_73_2, ↓rb_73_3, ↓rb_73_4, ↓rb_73_5, ↓rb_73_6, ↓rb_73_7, ↓rb_81_0, ↓rb_81_1, ↓rb_81_2, ↓rb_81_3, ↓rb_81_6, ↓rb_81_7, ↓rb_81_8, ↓rb_81_10, ↓rb_81_11, ↓rb_81_12, ↓rb_81_17, ↓rb_81_22, ↓rb_81_24, ↓rb_81_25, ↓rb_81_26, ↓rb_81_27, oc_0x, aw_1, aw_2, aw_3, oc_4_6, oc_4_5, oc_4_0, oc_4_1, oc_4_9, oc_4_2, oc_5_6, oc_5_5, oc_5_0, oc_5_1, oc_5_9, oc_5_2, oc_6_6, oc_6_5, oc_6_0, oc_6_1, oc_6_9, oc_6_2, oc_7_6, oc_7_5, oc_7_0, oc_7_1, oc_7_9, oc_7_2, oc_8_6, oc_8_5, oc_8_0, oc_8_1, oc_8_9, oc_8_2, oc_9_6, oc_9_5, oc_9_0, oc_9_1, oc_9_9, oc_9_2, oc_10x, al_11, aw_11, al_12, aw_12, al_13, aw_13, al_14, aw_14, al_15, aw_15, al_16, aw_16, al_17, aw_17, oc_18x, al_19, aw_19, al_20, aw_20, al_21, aw_21, al_22, aw_22, al_23, aw_23, al_24, aw_24, al_25, aw_25, aw_26, oc_27x, oc_28x, al_29, aw_29, al_30, aw_30, oc_31x, al_32, aw_32, al_33, aw_33, al_34, aw_34, al_35, aw_35, al_36, aw_36, oc_57x, al_58, aw_58, al_59, aw_59, al_60, aw_60, al_61, aw_61, al_62, aw_62, al_63, aw_63, al_64, aw_64, oc_65x, al_66, aw_66, al_67, aw_67, al_68, aw_68, al_69, aw_69, al_70, aw_70, al_71, aw_71, al_72, aw_72, oc_73x, al_74, aw_74, al_75, aw_75, al_76, aw_76, al_77, aw_77, al_78, aw_78, al_79, aw_79, al_80, aw_80, oc_81x, al_82, aw_82, al_83, aw_83, al_84, aw_84, al_85, aw_85, al_86, aw_86, al_87, aw_87, al_88, aw_88, al_89, aw_89, al_90, aw_90, aw_91, al_92, aw_92, al_93, aw_93, al_94, aw_94, al_95, aw_95, al_96, aw_96, al_97, aw_97, li_0, li_1, li_2, li_3, li_4, li_5, li_6, li_7, li_8, li_9, li_10, li_11, li_12, li_15, li_16, li_18, li_19, li_20, li_24, li_30, li_31, li_32, li_40, li_48, li_49, li_55, li_56, li_57, li_60, li_63, li_97, li_98, li_99, li_100, li_107, li_110, li_115, li_117, li_600, li_640, li_656, li_657, li_1000, li_2147483646, li_1000000, oc_r, oc_t, oc_k, ↓rb_r, ↓rb_rc, aw_r, al_r, ↓rb_t, ↓rb_tc, aw_t, al_t, ↓rb_k, w2_s, w2_j, w2_k, g2_s, g2_j, g2_k, al_1001, al_1000, e_lt, e_le, e_eq, e_nlt, e_nle, e_ltn, e_len, e_neq, e_eqn, e_nn, e_nlen, e_nltn, nI_add, pk_mul, e_sub, e_subn, e_addn, e_clamp, e_inb, e_inbn, e_dec, lt_ap, ll_0, ll_1, e_llt, e_leq, c_lt0, c_gt0, c_le0, nI_l, lN_add, Bool.false_eq_true, not_true_eq_false, not_false_eq_true, d_lt, d_nlt, d_le, d_nle, d_eq, d_neq, oc_c, ↓rb_c0, ↓rb_c1, ↓rb_c2, ↓rb_c3, ↓rb_c4, ↓rb_c5, ↓rb_c6, ↓rb_c7, aw_c1, aw_c2, aw_c3, aw_c4, aw_c5, aw_c6, aw_c7, al_c1, al_c2, al_c3, al_c4, al_c5, al_c6, al_c7, ↓rb_kd, isa_43, of_nI, pk_rem, e_bitN, e_1shlN, e9, e10]
    rfl
  | succ d ih =>
    intro i f h1 h2 h3
    obtain ⟨g, rfl⟩ : ∃ g, f = g + 1 := ⟨f - 1, by omega⟩
    have e9 : cpD I c i c 9 = nI D := by rw [cpD_ne (by omega) (by omega), hD]
    have hih := ih (i + 1) g (by omega) (by omega) (by omega)
    rw [← cpD_step] at hih
    rw [w2_ne _ (show ¬ (c + 6 = c + 3 ∧ i = i) by omega)] at hih
    show b33_2 _ _ _ _ = _
    rw [f_b33_2]
    simp (maxSteps := 20000) (disch := omega) only [mk_oc, mk_aw, mk_sI, mk_sL, gi_mk, gg_mk, ↓lt_I, ↓lt_L, ↓bn_some, ↓bq_some, ↓bq_none, ↓bn_none, ↓bq_ite, ↓bn_ite, ↓bq_bind, ↓bn_bind, ↓bq_bq, ↓bn_bq, ↓bq_lt, ↓bn_lt, ↓reduceIte, ↓rb_0_0, ↓rb_0_1, ↓rb_0_2, ↓rb_0_3, ↓rb_0_4, ↓rb_0_5, ↓rb_0_6, ↓rb_0_7, ↓rb_0_8, ↓rb_0_9, ↓rb_0_10, ↓rb_1_0, ↓rb_1_1, ↓rb_1_2, ↓rb_1_3, ↓rb_1_4, ↓rb_1_5, ↓rb_2_0, ↓rb_2_1, ↓rb_2_2, ↓rb_2_3, ↓rb_3_0, ↓rb_3_1, ↓rb_3_2, ↓rb_3_3, ↓rb_3_4, ↓rb_3_5, ↓rb_10_0, ↓rb_10_1, ↓rb_10_2, ↓rb_10_3, ↓rb_10_4, ↓rb_10_5, ↓rb_10_6, ↓rb_10_7, ↓rb_18_0, ↓rb_18_1, ↓rb_18_2, ↓rb_18_3, ↓rb_18_4, ↓rb_18_5, ↓rb_18_6, ↓rb_18_7, ↓rb_26_0, ↓rb_26_1, ↓rb_26_2, ↓rb_28_0, ↓rb_28_1, ↓rb_31_0, ↓rb_31_1, ↓rb_31_2, ↓rb_37_0, ↓rb_39_0, ↓rb_41_0, ↓rb_43_0, ↓rb_45_0, ↓rb_47_0, ↓rb_49_0, ↓rb_51_0, ↓rb_53_0, ↓rb_55_0, ↓rb_57_0, ↓rb_57_1, ↓rb_57_2, ↓rb_57_3, ↓rb_57_4, ↓rb_57_5, ↓rb_57_6, ↓rb_57_7, ↓rb_65_0, ↓rb_65_1, ↓rb_65_2, ↓rb_65_3, ↓rb_65_4, ↓rb_65_5, ↓rb_65_6, ↓rb_65_7, ↓rb_73_0, ↓rb_73_1, ↓rb_73_2, ↓rb_73_3, ↓rb_73_4, ↓rb_73_5, ↓rb_73_6, ↓rb_73_7, ↓rb_81_0, ↓rb_81_1, ↓rb_81_2, ↓rb_81_3, ↓rb_81_6, ↓rb_81_7, ↓rb_81_8, ↓rb_81_10, ↓rb_81_11, ↓rb_81_12, ↓rb_81_17, ↓rb_81_22, ↓rb_81_24, ↓rb_81_25, ↓rb_81_26, ↓rb_81_27, oc_0x, aw_1, aw_2, aw_3, oc_4_6, oc_4_5, oc_4_0, oc_4_1, oc_4_9, oc_4_2, oc_5_6, oc_5_5, oc_5_0, oc_5_1, oc_5_9, oc_5_2, oc_6_6, oc_6_5, oc_6_0, oc_6_1, oc_6_9, oc_6_2, oc_7_6, oc_7_5, oc_7_0, oc_7_1, oc_7_9, oc_7_2, oc_8_6, oc_8_5, oc_8_0, oc_8_1, oc_8_9, oc_8_2, oc_9_6, oc_9_5, oc_9_0, oc_9_1, oc_9_9, oc_9_2, oc_10x, al_11, aw_11, al_12, aw_12, al_13, aw_13, al_14, aw_14, al_15, aw_15, al_16, aw_16, al_17, aw_17, oc_18x, al_19, aw_19, al_20, aw_20, al_21, aw_21, al_22, aw_22, al_23, aw_23, al_24, aw_24, al_25, aw_25, aw_26, oc_27x, oc_28x, al_29, aw_29, al_30, aw_30, oc_31x, al_32, aw_32, al_33, aw_33, al_34, aw_34, al_35, aw_35, al_36, aw_36, oc_57x, al_58, aw_58, al_59, aw_59, al_60, aw_60, al_61, aw_61, al_62, aw_62, al_63, aw_63, al_64, aw_64, oc_65x, al_66, aw_66, al_67, aw_67, al_68, aw_68, al_69, aw_69, al_70, aw_70, al_71, aw_71, al_72, aw_72, oc_73x, al_74, aw_74, al_75, aw_75, al_76, aw_76, al_77, aw_77, al_78, aw_78, al_79, aw_79, al_80, aw_80, oc_81x, al_82, aw_82, al_83, aw_83, al_84, aw_84, al_85, aw_85, al_86, aw_86, al_87, aw_87, al_88, aw_88, al_89, aw_89, al_90, aw_90, aw_91, al_92, aw_92, al_93, aw_93, al_94, aw_94, al_95, aw_95, al_96, aw_96, al_97, aw_97, li_0, li_1, li_2, li_3, li_4, li_5, li_6, li_7, li_8, li_9, li_10, li_11, li_12, li_15, li_16, li_18, li_19, li_20, li_24, li_30, li_31, li_32, li_40, li_48, li_49, li_55, li_56, li_57, li_60, li_63, li_97, li_98, li_99, li_100, li_107, li_110, li_115, li_117, li_600, li_640, li_656, li_657, li_1000, li_2147483646, li_1000000, oc_r, oc_t, oc_k, ↓rb_r, ↓rb_rc, aw_r, al_r, ↓rb_t, ↓rb_tc, aw_t, al_t, ↓rb_k, w2_s, w2_j, w2_k, g2_s, g2_j, g2_k, al_1001, al_1000, e_lt, e_le, e_eq, e_nlt, e_nle, e_ltn, e_len, e_neq, e_eqn, e_nn, e_nlen, e_nltn, nI_add, pk_mul, e_sub, e_subn, e_addn, e_clamp, e_inb, e_inbn, e_dec, lt_ap, ll_0, ll_1, e_llt, e_leq, c_lt0, c_gt0, c_le0, nI_l, lN_add, Bool.false_eq_true, not_true_eq_false, not_false_eq_true, d_lt, d_nlt, d_le, d_nle, d_eq, d_neq, oc_c, ↓rb_c0, ↓rb_c1, ↓rb_c2, ↓rb_c3, ↓rb_c4, ↓rb_c5, ↓rb_c6, ↓rb_c7, aw_c1, aw_c2, aw_c3, aw_c4, aw_c5, aw_c6, aw_c7, al_c1, al_c2, al_c3, al_c4, al_c5, al_c6, al_c7, ↓rb_kd, isa_43, of_nI, pk_rem, e_bitN, e_1shlN, e9]
    exact hih
theorem bgn_ne {I : I2} {c D k j : Nat} (h1 : k ≠ c + 3) (h2 : k ≠ c + 4) (h3 : ¬ (k = c ∧ 11 ≤ j ∧ j ≤ 15)) : bgn I c D k j = I k j := by
  unfold bgn
  rw [w2_ne _ (by omega), w2_ne _ (by omega), w2_ne _ (by omega), w2_ne _ (by omega), w2_ne _ (by omega), cpD_ne (by omega) (by omega)]
theorem bgn_CS {I : I2} {c : Nat} {q : Cs} {v v0 : Nat → Nat} (hv : CS I c q v) (h0 : C0 I c q v0) (hz : v0 0 = 0 ∧ v0 1 = 0 ∧ v0 3 = 0) : CS (bgn I c q.1) c q v0 ∧ bgn I c q.1 c 15 = nI 0 := by
  obtain ⟨a1, a2, a3, a4, a5, a6, a7⟩ := hv
  obtain ⟨b1, b2⟩ := h0
  refine ⟨⟨?_, ?_, ?_, ?_, ?_, ?_, fun i hi => ⟨?_, ?_, ?_, ?_⟩⟩, ?_⟩
  · rw [bgn_ne (by omega) (by omega) (by omega), a1]
  · rw [bgn_ne (by omega) (by omega) (by omega), a2]
  · unfold bgn
    simp (disch := omega) only [w2_ne, w2_s]
    exact b1
  · unfold bgn
    simp (disch := omega) only [w2_ne, w2_s]
    rw [hz.1]
  · unfold bgn
    simp (disch := omega) only [w2_ne, w2_s]
    rw [hz.2.1]
  · unfold bgn
    simp (disch := omega) only [w2_ne, w2_s]
    rw [hz.2.2]
  · rw [bgn_ne (by omega) (by omega) (by omega), (a7 i hi).1]
  · rw [bgn_ne (by omega) (by omega) (by omega), (a7 i hi).2.1]
  · unfold bgn
    simp (disch := omega) only [w2_ne, w2_s]
    unfold cpD
    rw [if_pos ⟨rfl, hi⟩, (b2 i hi).1]
  · unfold bgn
    simp (disch := omega) only [w2_ne, w2_s]
    unfold cpD
    rw [if_neg (by omega), if_pos ⟨rfl, hi⟩, (b2 i hi).2]
  · unfold bgn
    rw [w2_s]
